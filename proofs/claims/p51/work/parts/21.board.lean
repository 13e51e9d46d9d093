def rm_J7_fill_53178 : Room := { frames := 0, cells := 0, slots := 0, locals := 0 }
set_option maxRecDepth 100000 in
set_option maxHeartbeats 4000000 in
theorem c_J7_fill_53178 (l : Launch) (E : xE) (ST : xST) (hSF : SF ST) (σ : xW) (k : Nat) (v : Int) (n : Nat) (f : Int → Int) (hr0 : ar1 E σ k n f) (hk : k < 85) (hn : n ≤ 1000) : CV l E ST yJ7_fill_53178 wsJ7_fill_53178 rm_J7_fill_53178 [.ref (xad E k), .int (iZ v)] σ (fun (u : xW) => (ar1 E u k n (fun _ => v)) ∧ ∀ j : Nat, j ≠ k → u j = σ j) := by
  have fk_0 : σ k = aI E n f := hr0
  refine CV_of (by decide) rfl (Nat.le_of_ble_eq_true rfl) ?_
  intro p e s m args below meth c Q ls G hH hl hQ
  obtain ⟨hx, hb, hml, hown, hts, hK, hST, hlocks, hr, hno⟩ := G
  have hOK := hSF.1
  have hown : s.vm.findClass RJ7 = some m.cls := hown
  have hl : lv_has ls 4 [(0, .ref (xad E k)), (1, .int (iZ v))] := hl
  refine x_iconst hx hb dJ7_fill_53178_0 ?_
  refine lv_istore_n (lv' := [(2, .int (iZ 0)), (0, .ref (xad E k)), (1, .int (iZ v))]) hx hb dJ7_fill_53178_1 rfl hl (by decide) rfl (fun ls hl => ?_)
  refine lv_aload_n hx hb dJ7_fill_53178_2 rfl (lv_at hl 1 rfl) ?_
  refine x_alenI hx hb hK hH k (by omega) fk_0 dJ7_fill_53178_3 ?_
  refine lv_istore_n (lv' := [(3, .int (iZ ((n : Nat) : Int))), (2, .int (iZ 0)), (0, .ref (xad E k)), (1, .int (iZ v))]) hx hb dJ7_fill_53178_4 rfl hl (by decide) rfl (fun ls hl => ?_)
  have K5 : ∀ (nK : Nat) (i : Int) (g : Int → Int) (σ1 : xW) (H : Heap) (locs : List Loc) (ls : Array Slot), (n - i).toNat < nK → (0 ≤ i ∧ i ≤ n) → (∀ j : Int, 0 ≤ j → j < i → g j = v) → σ1 k = aI E n g → (∀ j : Nat, j ≠ k → σ1 j = σ j) → Hx E (xA E s.heap.size) s.heap σ1 H locs → lv_has ls 4 [(3, .int (iZ ((n : Nat) : Int))), (2, .int (iZ i)), (0, .ref (xad E k)), (1, .int (iZ v))] → W p l e rm_J7_fill_53178 s m args below meth c H locs 0 0 Q (F0 m 5 ls []) := by
    intro n5
    induction n5 with
    | zero =>
      intro i g σ1 H locs ls hm
      exact absurd hm (by first | exact Nat.not_lt_zero _ | omega)
    | succ n5 ih5 =>
      intro i g σ1 H locs ls hm5 hi hg fk_0 fr2 hH hl
      refine lv_iload_n hx hb dJ7_fill_53178_5 rfl (lv_at hl 1 rfl) ?_
      refine lv_iload_n hx hb dJ7_fill_53178_6 rfl (lv_at hl 0 rfl) ?_
      refine x_icmp_ge (tgt := 20) hx hb dJ7_fill_53178_7 (by decide) (by omega) (by omega) (fun c7 => ?_) (fun c7 => ?_)
      · obtain ⟨σ3, fk_0, fr4, hH⟩ := x_normE (g := (fun _ => v)) k (by omega) fk_0 (by intro j h0 h1; exact hg j h0 (by omega)) hH
        subst hQ
        exact x_vret hx hb hr hlocks hH (Nat.le_of_ble_eq_true rfl) (Nat.le_of_ble_eq_true rfl) ⟨fk_0, fun j hj0 => ((fr4 j (by omega)).trans (fr2 j (by omega)))⟩ dJ7_fill_53178_20
      · refine lv_aload_n hx hb dJ7_fill_53178_10 rfl (lv_at hl 2 rfl) ?_
        refine lv_iload_n hx hb dJ7_fill_53178_11 rfl (lv_at hl 1 rfl) ?_
        refine lv_iload_n hx hb dJ7_fill_53178_12 rfl (lv_at hl 3 rfl) ?_
        refine x_iast hx hb hK hH k (by omega) fk_0 (by omega) (by omega) (by omega) dJ7_fill_53178_13 (fun σ5 H locs fk_0 fr6 hH => ?_)
        refine x_iinc (lv' := [(2, .int (iZ (i + 1))), (3, .int (iZ ((n : Nat) : Int))), (0, .ref (xad E k)), (1, .int (iZ v))]) hx hb dJ7_fill_53178_14 hl (k := 1) rfl (by decide) rfl (fun ls hl => ?_)
        refine lv_goto (tgt := 5) hx hb dJ7_fill_53178_17 (by decide) ?_
        exact ih5 (i + 1) (ui g i v) σ5 _ _ _ (by omega) (by first | omega | rfl | assumption | simp_all) (by intro j h0 h1; by_cases e : j = i; (rw [e]; exact ui_s); (rw [ui_n e]; exact hg j h0 (by omega))) fk_0 (fun j hj0 => ((fr6 j (by omega)).trans (fr2 j (by omega)))) hH (lv_sub hl [1, 0, 2, 3] rfl)
  exact K5 (n + 1) 0 f σ _ _ _ (by first | omega | decide) (by first | omega | rfl | assumption | simp_all) (by intro j h0 h1; omega) fk_0 (fun j _ => rfl) hH (lv_sub hl [0, 1, 2, 3] rfl)

def rm_J9_floorMod_7cf53 : Room := { frames := 0, cells := 0, slots := 0, locals := 0 }
set_option maxRecDepth 100000 in
set_option maxHeartbeats 4000000 in
theorem c_J9_floorMod_7cf53 (l : Launch) (E : xE) (ST : xST) (hSF : SF ST) (σ : xW) (x : Int) (h0 : -4 ≤ x) (h1 : x ≤ 8) : CI l E ST yJ9_floorMod_7cf53 wsJ9_floorMod_7cf53 rm_J9_floorMod_7cf53 [.int (iZ x), .int (iZ 5)] σ (fun (z : Int) (u : xW) => z = x % 5 ∧ u = σ) := by
  refine CI_ofF (by decide +kernel) rfl (Nat.le_of_ble_eq_true rfl) ?_
  intro p e s m args below meth c Q ls G hH hl hQ
  obtain ⟨hx, hb, hml, hown, hts, hK, hST, hlocks, hr, hno⟩ := G
  have hOK := hSF.1
  have hown : s.vm.findClass RJ9 = some m.cls := hown
  have hl : lv_has ls 3 [(0, .int (iZ x)), (1, .int (iZ 5))] := hl
  obtain ⟨hq1, hq2, hq3⟩ := fm_of h0 h1
  have hq4 : rg (Int.tmod x 5) := by have := Int.tmod_lt_of_pos x (by decide : (0:Int) < 5); have := Int.lt_tmod_of_pos x (by decide : (0:Int) < 5); omega
  refine lv_iload_n hx hb dJ9_floorMod_7cf53_0 rfl (lv_at hl 0 rfl) ?_
  refine lv_iload_n hx hb dJ9_floorMod_7cf53_1 rfl (lv_at hl 1 rfl) ?_
  refine x_iremT hx hb dJ9_floorMod_7cf53_2 (by omega) (by omega) (by omega) ?_
  refine lv_istore_n (lv' := [(2, .int (iZ (Int.tmod x 5))), (0, .int (iZ x)), (1, .int (iZ 5))]) hx hb dJ9_floorMod_7cf53_3 rfl hl (by decide) rfl (fun ls hl => ?_)
  refine lv_iload_n hx hb dJ9_floorMod_7cf53_4 rfl (lv_at hl 1 rfl) ?_
  refine lv_iload_n hx hb dJ9_floorMod_7cf53_5 rfl (lv_at hl 2 rfl) ?_
  refine x_ixor hx hb dJ9_floorMod_7cf53_6 ?_
  refine x_if_ge (tgt := 18) hx hb dJ9_floorMod_7cf53_7 (by decide) (iZ_rg _) (fun c7 => ?_) (fun c7 => ?_)
  · refine lv_iload_n hx hb dJ9_floorMod_7cf53_18 rfl (lv_at hl 0 rfl) ?_
    subst hQ
    exact x_iret hx hb hr hlocks hH (Nat.le_of_ble_eq_true rfl) (Nat.le_of_ble_eq_true rfl) ⟨(show (Int.tmod x 5) = (x % 5) from (by first | exact hq1 (by omega) | exact hq3 c11)), rfl⟩ dJ9_floorMod_7cf53_19
  · refine lv_iload_n hx hb dJ9_floorMod_7cf53_10 rfl (lv_at hl 0 rfl) ?_
    refine x_if_eq (tgt := 18) hx hb dJ9_floorMod_7cf53_11 (by decide) (by omega) (fun c11 => ?_) (fun c11 => ?_)
    · refine lv_iload_n hx hb dJ9_floorMod_7cf53_18 rfl (lv_at hl 0 rfl) ?_
      subst hQ
      exact x_iret hx hb hr hlocks hH (Nat.le_of_ble_eq_true rfl) (Nat.le_of_ble_eq_true rfl) ⟨(show (Int.tmod x 5) = (x % 5) from (by first | exact hq1 (by omega) | exact hq3 c11)), rfl⟩ dJ9_floorMod_7cf53_19
    · refine lv_iload_n hx hb dJ9_floorMod_7cf53_14 rfl (lv_at hl 0 rfl) ?_
      refine lv_iload_n hx hb dJ9_floorMod_7cf53_15 rfl (lv_at hl 2 rfl) ?_
      refine x_iadd hx hb dJ9_floorMod_7cf53_16 ?_
      subst hQ
      exact x_iret hx hb hr hlocks hH (Nat.le_of_ble_eq_true rfl) (Nat.le_of_ble_eq_true rfl) ⟨(show ((Int.tmod x 5) + 5) = (x % 5) from (by exact hq2 (by omega) c11)), rfl⟩ dJ9_floorMod_7cf53_17

def rm_J6_bitCount_0f7a4 : Room := { frames := 0, cells := 0, slots := 0, locals := 0 }
set_option maxRecDepth 100000 in
set_option maxHeartbeats 4000000 in
theorem c_J6_bitCount_0f7a4 (l : Launch) (E : xE) (ST : xST) (hSF : SF ST) (σ : xW) (x : Int)  : CI l E ST yJ6_bitCount_0f7a4 wsJ6_bitCount_0f7a4 rm_J6_bitCount_0f7a4 [.int (iZ x)] σ (fun (z : Int) (u : xW) => z = bcZ x ∧ u = σ) := by
  refine CI_of (by decide) rfl (Nat.le_of_ble_eq_true rfl) ?_
  intro p e s m args below meth c Q ls G hH hl hQ
  obtain ⟨hx, hb, hml, hown, hts, hK, hST, hlocks, hr, hno⟩ := G
  have hOK := hSF.1
  have hown : s.vm.findClass RJ6 = some m.cls := hown
  have hl : lv_has ls 1 [(0, .int (iZ x))] := hl
  refine lv_iload_n hx hb dJ6_bitCount_0f7a4_0 rfl (lv_at hl 0 rfl) ?_
  refine lv_iload_n hx hb dJ6_bitCount_0f7a4_1 rfl (lv_at hl 0 rfl) ?_
  refine x_iconst hx hb dJ6_bitCount_0f7a4_2 ?_
  refine x_iushr hx hb dJ6_bitCount_0f7a4_3 ?_
  refine x_ldcw (n := 1431655765) hx hb hown (hts _ (List.mem_of_getElem? (i := 1) rfl)) (by decide) dJ6_bitCount_0f7a4_4 ?_
  refine x_iand hx hb dJ6_bitCount_0f7a4_7 ?_
  refine x_isub hx hb dJ6_bitCount_0f7a4_8 ?_
  refine lv_istore_n (lv' := [(0, .int (iZ (x - (iandZ (iushrZ x 1) 1431655765))))]) hx hb dJ6_bitCount_0f7a4_9 rfl hl (by decide) rfl (fun ls hl => ?_)
  refine lv_iload_n hx hb dJ6_bitCount_0f7a4_10 rfl (lv_at hl 0 rfl) ?_
  refine x_ldcw (n := 858993459) hx hb hown (hts _ (List.mem_of_getElem? (i := 2) rfl)) (by decide) dJ6_bitCount_0f7a4_11 ?_
  refine x_iand hx hb dJ6_bitCount_0f7a4_14 ?_
  refine lv_iload_n hx hb dJ6_bitCount_0f7a4_15 rfl (lv_at hl 0 rfl) ?_
  refine x_iconst hx hb dJ6_bitCount_0f7a4_16 ?_
  refine x_iushr hx hb dJ6_bitCount_0f7a4_17 ?_
  refine x_ldcw (n := 858993459) hx hb hown (hts _ (List.mem_of_getElem? (i := 2) rfl)) (by decide) dJ6_bitCount_0f7a4_18 ?_
  refine x_iand hx hb dJ6_bitCount_0f7a4_21 ?_
  refine x_iadd hx hb dJ6_bitCount_0f7a4_22 ?_
  refine lv_istore_n (lv' := [(0, .int (iZ ((iandZ (x - (iandZ (iushrZ x 1) 1431655765)) 858993459) + (iandZ (iushrZ (x - (iandZ (iushrZ x 1) 1431655765)) 2) 858993459))))]) hx hb dJ6_bitCount_0f7a4_23 rfl hl (by decide) rfl (fun ls hl => ?_)
  refine lv_iload_n hx hb dJ6_bitCount_0f7a4_24 rfl (lv_at hl 0 rfl) ?_
  refine lv_iload_n hx hb dJ6_bitCount_0f7a4_25 rfl (lv_at hl 0 rfl) ?_
  refine x_iconst hx hb dJ6_bitCount_0f7a4_26 ?_
  refine x_iushr hx hb dJ6_bitCount_0f7a4_27 ?_
  refine x_iadd hx hb dJ6_bitCount_0f7a4_28 ?_
  refine x_ldcw (n := 252645135) hx hb hown (hts _ (List.mem_of_getElem? (i := 3) rfl)) (by decide) dJ6_bitCount_0f7a4_29 ?_
  refine x_iand hx hb dJ6_bitCount_0f7a4_32 ?_
  refine lv_istore_n (lv' := [(0, .int (iZ (iandZ (((iandZ (x - (iandZ (iushrZ x 1) 1431655765)) 858993459) + (iandZ (iushrZ (x - (iandZ (iushrZ x 1) 1431655765)) 2) 858993459)) + (iushrZ ((iandZ (x - (iandZ (iushrZ x 1) 1431655765)) 858993459) + (iandZ (iushrZ (x - (iandZ (iushrZ x 1) 1431655765)) 2) 858993459)) 4)) 252645135)))]) hx hb dJ6_bitCount_0f7a4_33 rfl hl (by decide) rfl (fun ls hl => ?_)
  refine lv_iload_n hx hb dJ6_bitCount_0f7a4_34 rfl (lv_at hl 0 rfl) ?_
  refine lv_iload_n hx hb dJ6_bitCount_0f7a4_35 rfl (lv_at hl 0 rfl) ?_
  refine x_bipush hx hb dJ6_bitCount_0f7a4_36 (by decide) ?_
  refine x_iushr hx hb dJ6_bitCount_0f7a4_38 ?_
  refine x_iadd hx hb dJ6_bitCount_0f7a4_39 ?_
  refine lv_istore_n (lv' := [(0, .int (iZ ((iandZ (((iandZ (x - (iandZ (iushrZ x 1) 1431655765)) 858993459) + (iandZ (iushrZ (x - (iandZ (iushrZ x 1) 1431655765)) 2) 858993459)) + (iushrZ ((iandZ (x - (iandZ (iushrZ x 1) 1431655765)) 858993459) + (iandZ (iushrZ (x - (iandZ (iushrZ x 1) 1431655765)) 2) 858993459)) 4)) 252645135) + (iushrZ (iandZ (((iandZ (x - (iandZ (iushrZ x 1) 1431655765)) 858993459) + (iandZ (iushrZ (x - (iandZ (iushrZ x 1) 1431655765)) 2) 858993459)) + (iushrZ ((iandZ (x - (iandZ (iushrZ x 1) 1431655765)) 858993459) + (iandZ (iushrZ (x - (iandZ (iushrZ x 1) 1431655765)) 2) 858993459)) 4)) 252645135) 8))))]) hx hb dJ6_bitCount_0f7a4_40 rfl hl (by decide) rfl (fun ls hl => ?_)
  refine lv_iload_n hx hb dJ6_bitCount_0f7a4_41 rfl (lv_at hl 0 rfl) ?_
  refine lv_iload_n hx hb dJ6_bitCount_0f7a4_42 rfl (lv_at hl 0 rfl) ?_
  refine x_bipush hx hb dJ6_bitCount_0f7a4_43 (by decide) ?_
  refine x_iushr hx hb dJ6_bitCount_0f7a4_45 ?_
  refine x_iadd hx hb dJ6_bitCount_0f7a4_46 ?_
  refine lv_istore_n (lv' := [(0, .int (iZ (((iandZ (((iandZ (x - (iandZ (iushrZ x 1) 1431655765)) 858993459) + (iandZ (iushrZ (x - (iandZ (iushrZ x 1) 1431655765)) 2) 858993459)) + (iushrZ ((iandZ (x - (iandZ (iushrZ x 1) 1431655765)) 858993459) + (iandZ (iushrZ (x - (iandZ (iushrZ x 1) 1431655765)) 2) 858993459)) 4)) 252645135) + (iushrZ (iandZ (((iandZ (x - (iandZ (iushrZ x 1) 1431655765)) 858993459) + (iandZ (iushrZ (x - (iandZ (iushrZ x 1) 1431655765)) 2) 858993459)) + (iushrZ ((iandZ (x - (iandZ (iushrZ x 1) 1431655765)) 858993459) + (iandZ (iushrZ (x - (iandZ (iushrZ x 1) 1431655765)) 2) 858993459)) 4)) 252645135) 8)) + (iushrZ ((iandZ (((iandZ (x - (iandZ (iushrZ x 1) 1431655765)) 858993459) + (iandZ (iushrZ (x - (iandZ (iushrZ x 1) 1431655765)) 2) 858993459)) + (iushrZ ((iandZ (x - (iandZ (iushrZ x 1) 1431655765)) 858993459) + (iandZ (iushrZ (x - (iandZ (iushrZ x 1) 1431655765)) 2) 858993459)) 4)) 252645135) + (iushrZ (iandZ (((iandZ (x - (iandZ (iushrZ x 1) 1431655765)) 858993459) + (iandZ (iushrZ (x - (iandZ (iushrZ x 1) 1431655765)) 2) 858993459)) + (iushrZ ((iandZ (x - (iandZ (iushrZ x 1) 1431655765)) 858993459) + (iandZ (iushrZ (x - (iandZ (iushrZ x 1) 1431655765)) 2) 858993459)) 4)) 252645135) 8)) 16))))]) hx hb dJ6_bitCount_0f7a4_47 rfl hl (by decide) rfl (fun ls hl => ?_)
  refine lv_iload_n hx hb dJ6_bitCount_0f7a4_48 rfl (lv_at hl 0 rfl) ?_
  refine x_bipush hx hb dJ6_bitCount_0f7a4_49 (by decide) ?_
  refine x_iand hx hb dJ6_bitCount_0f7a4_51 ?_
  subst hQ
  exact x_iret hx hb hr hlocks hH (Nat.le_of_ble_eq_true rfl) (Nat.le_of_ble_eq_true rfl) ⟨(show (iandZ (((iandZ (((iandZ (x - (iandZ (iushrZ x 1) 1431655765)) 858993459) + (iandZ (iushrZ (x - (iandZ (iushrZ x 1) 1431655765)) 2) 858993459)) + (iushrZ ((iandZ (x - (iandZ (iushrZ x 1) 1431655765)) 858993459) + (iandZ (iushrZ (x - (iandZ (iushrZ x 1) 1431655765)) 2) 858993459)) 4)) 252645135) + (iushrZ (iandZ (((iandZ (x - (iandZ (iushrZ x 1) 1431655765)) 858993459) + (iandZ (iushrZ (x - (iandZ (iushrZ x 1) 1431655765)) 2) 858993459)) + (iushrZ ((iandZ (x - (iandZ (iushrZ x 1) 1431655765)) 858993459) + (iandZ (iushrZ (x - (iandZ (iushrZ x 1) 1431655765)) 2) 858993459)) 4)) 252645135) 8)) + (iushrZ ((iandZ (((iandZ (x - (iandZ (iushrZ x 1) 1431655765)) 858993459) + (iandZ (iushrZ (x - (iandZ (iushrZ x 1) 1431655765)) 2) 858993459)) + (iushrZ ((iandZ (x - (iandZ (iushrZ x 1) 1431655765)) 858993459) + (iandZ (iushrZ (x - (iandZ (iushrZ x 1) 1431655765)) 2) 858993459)) 4)) 252645135) + (iushrZ (iandZ (((iandZ (x - (iandZ (iushrZ x 1) 1431655765)) 858993459) + (iandZ (iushrZ (x - (iandZ (iushrZ x 1) 1431655765)) 2) 858993459)) + (iushrZ ((iandZ (x - (iandZ (iushrZ x 1) 1431655765)) 858993459) + (iandZ (iushrZ (x - (iandZ (iushrZ x 1) 1431655765)) 2) 858993459)) 4)) 252645135) 8)) 16)) 63) = (bcZ x) from (by rfl)), rfl⟩ dJ6_bitCount_0f7a4_52

def rm_X1_canEnter : Room := { frames := 0, cells := 0, slots := 0, locals := 0 }
set_option maxRecDepth 100000 in
set_option maxHeartbeats 4000000 in
theorem c_X1_canEnter (l : Launch) (E : xE) (ST : xST) (hSF : SF ST) (σ : xW) (b : Nat) (w : Int) (cell : Int) (op : Int → Int) (lk : Int → Int) (kp : Int → Int) (wc : Int → Int) (pn : Int) (nw : Int) (sh : Int) (wk : Int) (hr0 : bd E σ b op lk kp wc pn nw sh wk) (hb : b + 6 ≤ 85) (hB : BI op lk kp wc pn nw) (hw : 0 ≤ w ∧ w < nw) (hc : 0 ≤ cell ∧ cell ≤ 24) : CI l E ST yX1_canEnter wsX1_canEnter rm_X1_canEnter [.ref (xad E b), .int (iZ w), .int (iZ cell)] σ (fun (z : Int) (u : xW) => z = b2 (decide (lk cell = -1 ∨ kp (lk cell) = 25 + w)) ∧ u = σ) := by
  obtain ⟨fb_0, fb_1, fb_2, fb_3, fb_4, ro0, fb_5⟩ := hr0
  refine CI_of (by decide) rfl (Nat.le_of_ble_eq_true rfl) ?_
  intro p e s m args below meth c Q ls G hH hl hQ
  obtain ⟨hx, hb, hml, hown, hts, hK, hST, hlocks, hr, hno⟩ := G
  have hOK := hSF.1
  have hown : s.vm.findClass RX1 = some m.cls := hown
  have hl : lv_has ls 4 [(0, .ref (xad E b)), (1, .int (iZ w)), (2, .int (iZ cell))] := hl
  have hinX1 : ∀ w ∈ u_ws RX1 TX1 9, w ∈ wsX1_canEnter := fun w h => (List.mem_cons_of_mem _ (List.mem_append_right _ h))
  obtain ⟨hop, hlk, hkp, hwc, hpn, hnw⟩ := id hB
  refine lv_aload_n hx hb dX1_canEnter_0 rfl (lv_at hl 0 rfl) ?_
  refine x_get hx hb hts hown hK hH b (by omega) fb_0 hinX1 rfl 1 (by decide) (List.mem_of_getElem? (i := 1) rfl) rfl dX1_canEnter_1 ?_
  refine lv_iload_n hx hb dX1_canEnter_4 rfl (lv_at hl 2 rfl) ?_
  refine x_iald hx hb hK hH (b + 2) (by omega) fb_2 (by omega) (by omega) (by omega) dX1_canEnter_5 ?_
  have hv1 := hlk cell
  refine lv_istore_n (lv' := [(3, .int (iZ (lk cell))), (0, .ref (xad E b)), (1, .int (iZ w)), (2, .int (iZ cell))]) hx hb dX1_canEnter_6 rfl hl (by decide) rfl (fun ls hl => ?_)
  refine lv_iload_n hx hb dX1_canEnter_7 rfl (lv_at hl 0 rfl) ?_
  refine x_iconst hx hb dX1_canEnter_8 ?_
  refine x_icmp_eq (tgt := 25) hx hb dX1_canEnter_9 (by decide) (by omega) (by decide) (fun c9 => ?_) (fun c9 => ?_)
  · refine x_iconst hx hb dX1_canEnter_25 ?_
    refine lv_goto (tgt := 30) hx hb dX1_canEnter_26 (by decide) ?_
    subst hQ
    exact x_zret (b := true) hx hb hr hlocks hH (Nat.le_of_ble_eq_true rfl) (Nat.le_of_ble_eq_true rfl) ⟨congrArg b2 (show true = (decide (lk cell = -1 ∨ kp (lk cell) = 25 + w)) from (by exact (decide_eq_true (by omega)).symm)), rfl⟩ dX1_canEnter_30
  · refine lv_aload_n hx hb dX1_canEnter_12 rfl (lv_at hl 1 rfl) ?_
    refine x_get hx hb hts hown hK hH b (by omega) fb_0 hinX1 rfl 2 (by decide) (List.mem_of_getElem? (i := 2) rfl) rfl dX1_canEnter_13 ?_
    refine lv_iload_n hx hb dX1_canEnter_16 rfl (lv_at hl 0 rfl) ?_
    refine x_iald hx hb hK hH (b + 3) (by omega) fb_3 (by omega) (by omega) (by omega) dX1_canEnter_17 ?_
    have hv2 := hkp (lk cell)
    refine x_bipush hx hb dX1_canEnter_18 (by decide) ?_
    refine lv_iload_n hx hb dX1_canEnter_20 rfl (lv_at hl 2 rfl) ?_
    refine x_iadd hx hb dX1_canEnter_21 ?_
    refine x_icmp_ne (tgt := 29) hx hb dX1_canEnter_22 (by decide) (by omega) (by omega) (fun c22 => ?_) (fun c22 => ?_)
    · refine x_iconst hx hb dX1_canEnter_29 ?_
      subst hQ
      exact x_zret (b := false) hx hb hr hlocks hH (Nat.le_of_ble_eq_true rfl) (Nat.le_of_ble_eq_true rfl) ⟨congrArg b2 (show false = (decide (lk cell = -1 ∨ kp (lk cell) = 25 + w)) from (by exact (decide_eq_false (by omega)).symm)), rfl⟩ dX1_canEnter_30
    · refine x_iconst hx hb dX1_canEnter_25 ?_
      refine lv_goto (tgt := 30) hx hb dX1_canEnter_26 (by decide) ?_
      subst hQ
      exact x_zret (b := true) hx hb hr hlocks hH (Nat.le_of_ble_eq_true rfl) (Nat.le_of_ble_eq_true rfl) ⟨congrArg b2 (show true = (decide (lk cell = -1 ∨ kp (lk cell) = 25 + w)) from (by exact (decide_eq_true (by omega)).symm)), rfl⟩ dX1_canEnter_30

def rm_X1_neighbour : Room := { frames := 0, cells := 0, slots := 0, locals := 0 }
set_option maxRecDepth 100000 in
set_option maxHeartbeats 4000000 in
theorem c_X1_neighbour (l : Launch) (E : xE) (ST : xST) (hSF : SF ST) (σ : xW) (cell : Int) (d : Int) (hc : 0 ≤ cell ∧ cell ≤ 24) (hd : 0 ≤ d ∧ d ≤ 3) : CI l E ST yX1_neighbour wsX1_neighbour rm_X1_neighbour [.int (iZ cell), .int (iZ d)] σ (fun (z : Int) (u : xW) => z = nbZ cell d ∧ u = σ) := by
  refine CI_of (by decide) rfl (Nat.le_of_ble_eq_true rfl) ?_
  intro p e s m args below meth c Q ls G hH hl hQ
  obtain ⟨hx, hb, hml, hown, hts, hK, hST, hlocks, hr, hno⟩ := G
  have hOK := hSF.1
  have hown : s.vm.findClass RX1 = some m.cls := hown
  have hl : lv_has ls 2 [(0, .int (iZ cell)), (1, .int (iZ d))] := hl
  refine lv_iload_n hx hb dX1_neighbour_0 rfl (lv_at hl 1 rfl) ?_
  rcases (show (d = 0) ∨ (d = 1) ∨ (d = 2) ∨ (d < 0 ∨ 2 < d) by omega) with c1 | c1 | c1 | c1
  · refine x_tableIn (tgt := 28) hx hb 0 c1 (by omega) dX1_neighbour_1 (by decide) (by decide) rfl (by decide) ?_
    refine lv_iload_n hx hb dX1_neighbour_28 rfl (lv_at hl 0 rfl) ?_
    refine x_iconst hx hb dX1_neighbour_29 ?_
    refine x_icmp_lt (tgt := 39) hx hb dX1_neighbour_30 (by decide) (by omega) (by decide) (fun c30 => ?_) (fun c30 => ?_)
    · refine x_iconst hx hb dX1_neighbour_39 ?_
      subst hQ
      exact x_iret hx hb hr hlocks hH (Nat.le_of_ble_eq_true rfl) (Nat.le_of_ble_eq_true rfl) ⟨(show (-1) = (nbZ cell d) from (by unfold nbZ; (repeat' split) <;> first | rfl | (exfalso; omega))), rfl⟩ dX1_neighbour_40
    · refine lv_iload_n hx hb dX1_neighbour_33 rfl (lv_at hl 0 rfl) ?_
      refine x_iconst hx hb dX1_neighbour_34 ?_
      refine x_isub hx hb dX1_neighbour_35 ?_
      refine lv_goto (tgt := 40) hx hb dX1_neighbour_36 (by decide) ?_
      subst hQ
      exact x_iret hx hb hr hlocks hH (Nat.le_of_ble_eq_true rfl) (Nat.le_of_ble_eq_true rfl) ⟨(show (cell - 5) = (nbZ cell d) from (by unfold nbZ; (repeat' split) <;> first | rfl | (exfalso; omega))), rfl⟩ dX1_neighbour_40
  · refine x_tableIn (tgt := 41) hx hb 1 c1 (by omega) dX1_neighbour_1 (by decide) (by decide) rfl (by decide) ?_
    refine lv_iload_n hx hb dX1_neighbour_41 rfl (lv_at hl 0 rfl) ?_
    refine x_iconst hx hb dX1_neighbour_42 ?_
    refine x_irem hx hb dX1_neighbour_43 (by omega) (by omega) (by omega) (by omega) ?_
    refine x_iconst hx hb dX1_neighbour_44 ?_
    refine x_icmp_ge (tgt := 54) hx hb dX1_neighbour_45 (by decide) (by omega) (by decide) (fun c45 => ?_) (fun c45 => ?_)
    · refine x_iconst hx hb dX1_neighbour_54 ?_
      subst hQ
      exact x_iret hx hb hr hlocks hH (Nat.le_of_ble_eq_true rfl) (Nat.le_of_ble_eq_true rfl) ⟨(show (-1) = (nbZ cell d) from (by unfold nbZ; (repeat' split) <;> first | rfl | (exfalso; omega))), rfl⟩ dX1_neighbour_55
    · refine lv_iload_n hx hb dX1_neighbour_48 rfl (lv_at hl 0 rfl) ?_
      refine x_iconst hx hb dX1_neighbour_49 ?_
      refine x_iadd hx hb dX1_neighbour_50 ?_
      refine lv_goto (tgt := 55) hx hb dX1_neighbour_51 (by decide) ?_
      subst hQ
      exact x_iret hx hb hr hlocks hH (Nat.le_of_ble_eq_true rfl) (Nat.le_of_ble_eq_true rfl) ⟨(show (cell + 1) = (nbZ cell d) from (by unfold nbZ; (repeat' split) <;> first | rfl | (exfalso; omega))), rfl⟩ dX1_neighbour_55
  · refine x_tableIn (tgt := 56) hx hb 2 c1 (by omega) dX1_neighbour_1 (by decide) (by decide) rfl (by decide) ?_
    refine lv_iload_n hx hb dX1_neighbour_56 rfl (lv_at hl 0 rfl) ?_
    refine x_bipush hx hb dX1_neighbour_57 (by decide) ?_
    refine x_icmp_ge (tgt := 68) hx hb dX1_neighbour_59 (by decide) (by omega) (by decide) (fun c59 => ?_) (fun c59 => ?_)
    · refine x_iconst hx hb dX1_neighbour_68 ?_
      subst hQ
      exact x_iret hx hb hr hlocks hH (Nat.le_of_ble_eq_true rfl) (Nat.le_of_ble_eq_true rfl) ⟨(show (-1) = (nbZ cell d) from (by unfold nbZ; (repeat' split) <;> first | rfl | (exfalso; omega))), rfl⟩ dX1_neighbour_69
    · refine lv_iload_n hx hb dX1_neighbour_62 rfl (lv_at hl 0 rfl) ?_
      refine x_iconst hx hb dX1_neighbour_63 ?_
      refine x_iadd hx hb dX1_neighbour_64 ?_
      refine lv_goto (tgt := 69) hx hb dX1_neighbour_65 (by decide) ?_
      subst hQ
      exact x_iret hx hb hr hlocks hH (Nat.le_of_ble_eq_true rfl) (Nat.le_of_ble_eq_true rfl) ⟨(show (cell + 5) = (nbZ cell d) from (by unfold nbZ; (repeat' split) <;> first | rfl | (exfalso; omega))), rfl⟩ dX1_neighbour_69
  · refine x_tableOut (tgt := 70) hx hb (by omega) dX1_neighbour_1 c1 (by decide) ?_
    refine lv_iload_n hx hb dX1_neighbour_70 rfl (lv_at hl 0 rfl) ?_
    refine x_iconst hx hb dX1_neighbour_71 ?_
    refine x_irem hx hb dX1_neighbour_72 (by omega) (by omega) (by omega) (by omega) ?_
    refine x_if_le (tgt := 82) hx hb dX1_neighbour_73 (by decide) (by omega) (fun c73 => ?_) (fun c73 => ?_)
    · refine x_iconst hx hb dX1_neighbour_82 ?_
      subst hQ
      exact x_iret hx hb hr hlocks hH (Nat.le_of_ble_eq_true rfl) (Nat.le_of_ble_eq_true rfl) ⟨(show (-1) = (nbZ cell d) from (by unfold nbZ; (repeat' split) <;> first | rfl | (exfalso; omega))), rfl⟩ dX1_neighbour_83
    · refine lv_iload_n hx hb dX1_neighbour_76 rfl (lv_at hl 0 rfl) ?_
      refine x_iconst hx hb dX1_neighbour_77 ?_
      refine x_isub hx hb dX1_neighbour_78 ?_
      refine lv_goto (tgt := 83) hx hb dX1_neighbour_79 (by decide) ?_
      subst hQ
      exact x_iret hx hb hr hlocks hH (Nat.le_of_ble_eq_true rfl) (Nat.le_of_ble_eq_true rfl) ⟨(show (cell - 1) = (nbZ cell d) from (by unfold nbZ; (repeat' split) <;> first | rfl | (exfalso; omega))), rfl⟩ dX1_neighbour_83

def rm_X1_connectedNeighbour : Room := { frames := 1, cells := 0, slots := 0, locals := 21 }
set_option maxRecDepth 100000 in
set_option maxHeartbeats 4000000 in
theorem c_X1_connectedNeighbour (l : Launch) (E : xE) (ST : xST) (hSF : SF ST) (σ : xW) (b : Nat) (cell : Int) (d : Int) (op : Int → Int) (lk : Int → Int) (kp : Int → Int) (wc : Int → Int) (pn : Int) (nw : Int) (sh : Int) (wk : Int) (hr0 : bd E σ b op lk kp wc pn nw sh wk) (hb : b + 6 ≤ 85) (hB : BI op lk kp wc pn nw) (hc : 0 ≤ cell ∧ cell ≤ 24) (hd : 0 ≤ d ∧ d ≤ 3) : CI l E ST yX1_connectedNeighbour wsX1_connectedNeighbour rm_X1_connectedNeighbour [.ref (xad E b), .int (iZ cell), .int (iZ d)] σ (fun (z : Int) (u : xW) => z = cnZ op cell d ∧ u = σ) := by
  obtain ⟨fb_0, fb_1, fb_2, fb_3, fb_4, ro0, fb_5⟩ := hr0
  refine CI_of (by decide) rfl (Nat.le_of_ble_eq_true rfl) ?_
  intro p e s m args below meth c Q ls G hH hl hQ
  obtain ⟨hx, hb, hml, hown, hts, hK, hST, hlocks, hr, hno⟩ := G
  have hOK := hSF.1
  have hown : s.vm.findClass RX1 = some m.cls := hown
  have hl : lv_has ls 6 [(0, .ref (xad E b)), (1, .int (iZ cell)), (2, .int (iZ d))] := hl
  have hinX1 : ∀ w ∈ u_ws RX1 TX1 9, w ∈ wsX1_connectedNeighbour := fun w h => (List.mem_cons_of_mem _ (List.mem_append_right _ h))
  obtain ⟨hop, hlk, hkp, hwc, hpn, hnw⟩ := id hB
  have hnr := nbZ_rg (d := d) hc.1 hc.2
  refine lv_iload_n hx hb dX1_connectedNeighbour_0 rfl (lv_at hl 1 rfl) ?_
  refine lv_iload_n hx hb dX1_connectedNeighbour_1 rfl (lv_at hl 2 rfl) ?_
  refine x_cSID (As := [.int (iZ cell), .int (iZ d)]) (rest := []) hx hb hml hts hown hK hST hOK hH (c_X1_neighbour l E ST hSF σ cell d  (by omega) (by omega)) (va_cwS 2 hts gX1_connectedNeighbour_X1_neighbour rfl rfl rfl (by decide +kernel) ⟨Nat.le_of_ble_eq_true rfl, Nat.le_of_ble_eq_true rfl⟩) rfl hl.1 rfl (Nat.le_of_ble_eq_true rfl) dX1_connectedNeighbour_2 ⟨Nat.le_of_ble_eq_true rfl, Nat.le_of_ble_eq_true rfl⟩ (fun z u h => h) (fun H locs hH => ?_)
  refine lv_istore_n (lv' := [(3, .int (iZ (nbZ cell d))), (0, .ref (xad E b)), (1, .int (iZ cell)), (2, .int (iZ d))]) hx hb dX1_connectedNeighbour_5 rfl hl (by decide) rfl (fun ls hl => ?_)
  refine lv_iload_n hx hb dX1_connectedNeighbour_6 rfl (lv_at hl 0 rfl) ?_
  refine x_iconst hx hb dX1_connectedNeighbour_7 ?_
  refine x_icmp_ne (tgt := 13) hx hb dX1_connectedNeighbour_8 (by decide) (by omega) (by decide) (fun c8 => ?_) (fun c8 => ?_)
  · refine lv_iload_n hx hb dX1_connectedNeighbour_13 rfl (lv_at hl 3 rfl) ?_
    refine x_iconst hx hb dX1_connectedNeighbour_14 ?_
    refine x_iadd hx hb dX1_connectedNeighbour_15 ?_
    refine x_iconst hx hb dX1_connectedNeighbour_16 ?_
    refine x_irem hx hb dX1_connectedNeighbour_17 (by omega) (by omega) (by omega) (by omega) ?_
    refine lv_istore (lv' := [(4, .int (iZ ((d + 2) % 4))), (3, .int (iZ (nbZ cell d))), (0, .ref (xad E b)), (1, .int (iZ cell)), (2, .int (iZ d))]) hx hb dX1_connectedNeighbour_18 hl (by decide) rfl (fun ls hl => ?_)
    refine lv_aload_n hx hb dX1_connectedNeighbour_20 rfl (lv_at hl 2 rfl) ?_
    refine x_get hx hb hts hown hK hH b (by omega) fb_0 hinX1 rfl 0 (by decide) (List.mem_of_getElem? (i := 1) rfl) rfl dX1_connectedNeighbour_21 ?_
    refine lv_iload_n hx hb dX1_connectedNeighbour_24 rfl (lv_at hl 3 rfl) ?_
    refine x_iald hx hb hK hH (b + 1) (by omega) fb_1 (by omega) (by omega) (by omega) dX1_connectedNeighbour_25 ?_
    have hv4 := hop cell
    refine lv_iload_n hx hb dX1_connectedNeighbour_26 rfl (lv_at hl 4 rfl) ?_
    refine x_ishr hx hb dX1_connectedNeighbour_27 ?_
    refine lv_aload_n hx hb dX1_connectedNeighbour_28 rfl (lv_at hl 2 rfl) ?_
    refine x_get hx hb hts hown hK hH b (by omega) fb_0 hinX1 rfl 0 (by decide) (List.mem_of_getElem? (i := 1) rfl) rfl dX1_connectedNeighbour_29 ?_
    refine lv_iload_n hx hb dX1_connectedNeighbour_32 rfl (lv_at hl 1 rfl) ?_
    refine x_iald hx hb hK hH (b + 1) (by omega) fb_1 (by omega) (by omega) (by omega) dX1_connectedNeighbour_33 ?_
    have hv5 := hop (nbZ cell d)
    refine lv_iload hx hb dX1_connectedNeighbour_34 (lv_at hl 0 rfl) ?_
    refine x_ishr hx hb dX1_connectedNeighbour_36 ?_
    refine x_iand hx hb dX1_connectedNeighbour_37 ?_
    refine x_iconst hx hb dX1_connectedNeighbour_38 ?_
    refine x_iand hx hb dX1_connectedNeighbour_39 ?_
    refine x_iconst hx hb dX1_connectedNeighbour_40 ?_
    refine x_icmp_ne (tgt := 48) hx hb dX1_connectedNeighbour_41 (by decide) (iZ_rg _) (by decide) (fun c41 => ?_) (fun c41 => ?_)
    · refine x_iconst hx hb dX1_connectedNeighbour_48 ?_
      refine lv_istore (lv' := [(5, .int (iZ 0)), (4, .int (iZ ((d + 2) % 4))), (3, .int (iZ (nbZ cell d))), (0, .ref (xad E b)), (1, .int (iZ cell)), (2, .int (iZ d))]) hx hb dX1_connectedNeighbour_49 hl (by decide) rfl (fun ls hl => ?_)
      refine lv_iload hx hb dX1_connectedNeighbour_51 (lv_at hl 0 rfl) ?_
      refine x_if_eq (tgt := 60) hx hb dX1_connectedNeighbour_53 (by decide) (by decide) (fun c53 => ?_) (fun c53 => ?_)
      · refine x_iconst hx hb dX1_connectedNeighbour_60 ?_
        subst hQ
        exact x_iret hx hb hr hlocks hH (Nat.le_of_ble_eq_true rfl) (Nat.le_of_ble_eq_true rfl) ⟨(show (-1) = (cnZ op cell d) from (by unfold cnZ; first | (rw [if_pos (by assumption)]; done) | (rw [if_neg (by assumption), if_pos ((opn2 (by omega) (by omega) (by omega) (by omega)).mp (by assumption))]; done) | (rw [if_neg (by assumption), if_neg (fun q => absurd ((opn2 (by omega) (by omega) (by omega) (by omega)).mpr q) (by assumption))]))), rfl⟩ dX1_connectedNeighbour_61
      · exact absurd c53 (by decide)
    · refine x_iconst hx hb dX1_connectedNeighbour_44 ?_
      refine lv_goto (tgt := 49) hx hb dX1_connectedNeighbour_45 (by decide) ?_
      refine lv_istore (lv' := [(5, .int (iZ 1)), (4, .int (iZ ((d + 2) % 4))), (3, .int (iZ (nbZ cell d))), (0, .ref (xad E b)), (1, .int (iZ cell)), (2, .int (iZ d))]) hx hb dX1_connectedNeighbour_49 hl (by decide) rfl (fun ls hl => ?_)
      refine lv_iload hx hb dX1_connectedNeighbour_51 (lv_at hl 0 rfl) ?_
      refine x_if_eq (tgt := 60) hx hb dX1_connectedNeighbour_53 (by decide) (by decide) (fun c53 => ?_) (fun c53 => ?_)
      · exact absurd c53 (by decide)
      · refine lv_iload_n hx hb dX1_connectedNeighbour_56 rfl (lv_at hl 2 rfl) ?_
        refine lv_goto (tgt := 61) hx hb dX1_connectedNeighbour_57 (by decide) ?_
        subst hQ
        exact x_iret hx hb hr hlocks hH (Nat.le_of_ble_eq_true rfl) (Nat.le_of_ble_eq_true rfl) ⟨(show (nbZ cell d) = (cnZ op cell d) from (by unfold cnZ; first | (rw [if_pos (by assumption)]; done) | (rw [if_neg (by assumption), if_pos ((opn2 (by omega) (by omega) (by omega) (by omega)).mp (by assumption))]; done) | (rw [if_neg (by assumption), if_neg (fun q => absurd ((opn2 (by omega) (by omega) (by omega) (by omega)).mpr q) (by assumption))]))), rfl⟩ dX1_connectedNeighbour_61
  · refine x_iconst hx hb dX1_connectedNeighbour_11 ?_
    subst hQ
    exact x_iret hx hb hr hlocks hH (Nat.le_of_ble_eq_true rfl) (Nat.le_of_ble_eq_true rfl) ⟨(show (-1) = (cnZ op cell d) from (by unfold cnZ; first | (rw [if_pos (by assumption)]; done) | (rw [if_neg (by assumption), if_pos ((opn2 (by omega) (by omega) (by omega) (by omega)).mp (by assumption))]; done) | (rw [if_neg (by assumption), if_neg (fun q => absurd ((opn2 (by omega) (by omega) (by omega) (by omega)).mpr q) (by assumption))]))), rfl⟩ dX1_connectedNeighbour_12

def rm_X1_bring : Room := { frames := 0, cells := 0, slots := 0, locals := 0 }
set_option maxRecDepth 100000 in
set_option maxHeartbeats 4000000 in
theorem c_X1_bring (l : Launch) (E : xE) (ST : xST) (hSF : SF ST) (σ : xW) (b : Nat) (w : Int) (cell : Int) (op : Int → Int) (lk : Int → Int) (kp : Int → Int) (wc : Int → Int) (pn : Int) (nw : Int) (sh : Int) (wk : Int) (hr0 : bd E σ b op lk kp wc pn nw sh wk) (hb : b + 6 ≤ 85) (hkp : ∀ j : Int, -1 ≤ kp j ∧ kp j ≤ 27) (hw : 0 ≤ w ∧ w ≤ 2) (hc : 0 ≤ cell ∧ cell ≤ 24) : CV l E ST yX1_bring wsX1_bring rm_X1_bring [.ref (xad E b), .int (iZ w), .int (iZ cell)] σ (fun (u : xW) => (bd E u b op lk (brK kp cell w 6) (ui wc w cell) pn nw sh wk) ∧ ∀ j : Nat, (j < b ∨ b + 6 ≤ j) → u j = σ j) := by
  obtain ⟨fb_0, fb_1, fb_2, fb_3, fb_4, ro0, fb_5⟩ := hr0
  refine CV_of (by decide) rfl (Nat.le_of_ble_eq_true rfl) ?_
  intro p e s m args below meth c Q ls G hH hl hQ
  obtain ⟨hx, hb, hml, hown, hts, hK, hST, hlocks, hr, hno⟩ := G
  have hOK := hSF.1
  have hown : s.vm.findClass RX1 = some m.cls := hown
  have hl : lv_has ls 4 [(0, .ref (xad E b)), (1, .int (iZ w)), (2, .int (iZ cell))] := hl
  have hinX1 : ∀ w ∈ u_ws RX1 TX1 9, w ∈ wsX1_bring := fun w h => (List.mem_cons_of_mem _ (List.mem_append_right _ h))
  refine lv_aload_n hx hb dX1_bring_0 rfl (lv_at hl 0 rfl) ?_
  refine x_get hx hb hts hown hK hH b (by omega) fb_0 hinX1 rfl 3 (by decide) (List.mem_of_getElem? (i := 1) rfl) rfl dX1_bring_1 ?_
  refine lv_iload_n hx hb dX1_bring_4 rfl (lv_at hl 1 rfl) ?_
  refine lv_iload_n hx hb dX1_bring_5 rfl (lv_at hl 2 rfl) ?_
  refine x_iast hx hb hK hH (b + 4) (by omega) fb_4 (by omega) (by omega) (by omega) dX1_bring_6 (fun σ1 H locs fb_4 fr2 hH => ?_)
  have fb_0 : σ1 b = oB 0 [.ref (xad E (b + 1)), .ref (xad E (b + 2)), .ref (xad E (b + 3)), .ref (xad E (b + 4)), .ref (xad E (b + 5)), .int (iZ pn), .int (iZ nw), .int (iZ sh), .long (lZ wk)] := (fr2 b (by omega)).trans fb_0
  have fb_1 : σ1 (b + 1) = aI E 25 op := (fr2 (b + 1) (by omega)).trans fb_1
  have fb_2 : σ1 (b + 2) = aI E 25 lk := (fr2 (b + 2) (by omega)).trans fb_2
  have fb_3 : σ1 (b + 3) = aI E 6 kp := (fr2 (b + 3) (by omega)).trans fb_3
  have fb_5 : σ1 (b + 5) = aI E 5 ro0 := (fr2 (b + 5) (by omega)).trans fb_5
  refine x_iconst hx hb dX1_bring_7 ?_
  refine lv_istore_n (lv' := [(3, .int (iZ 0)), (0, .ref (xad E b)), (1, .int (iZ w)), (2, .int (iZ cell))]) hx hb dX1_bring_8 rfl hl (by decide) rfl (fun ls hl => ?_)
  have K9 : ∀ (nK : Nat) (i : Int) (g : Int → Int) (σ3 : xW) (H : Heap) (locs : List Loc) (ls : Array Slot), (6 - i).toNat < nK → (0 ≤ i ∧ i ≤ 6) → (g = brK kp cell w i) → σ3 b = oB 0 [.ref (xad E (b + 1)), .ref (xad E (b + 2)), .ref (xad E (b + 3)), .ref (xad E (b + 4)), .ref (xad E (b + 5)), .int (iZ pn), .int (iZ nw), .int (iZ sh), .long (lZ wk)] → σ3 (b + 1) = aI E 25 op → σ3 (b + 2) = aI E 25 lk → σ3 (b + 3) = aI E 6 g → σ3 (b + 4) = aI E 3 (ui wc w cell) → σ3 (b + 5) = aI E 5 ro0 → (∀ j : Nat, (j < b ∨ b + 6 ≤ j) → σ3 j = σ1 j) → Hx E (xA E s.heap.size) s.heap σ3 H locs → lv_has ls 4 [(3, .int (iZ i)), (0, .ref (xad E b)), (1, .int (iZ w)), (2, .int (iZ cell))] → W p l e rm_X1_bring s m args below meth c H locs 0 0 Q (F0 m 9 ls []) := by
    intro n9
    induction n9 with
    | zero =>
      intro i g σ3 H locs ls hm
      exact absurd hm (by first | exact Nat.not_lt_zero _ | omega)
    | succ n9 ih9 =>
      intro i g σ3 H locs ls hm9 hi hg fb_0 fb_1 fb_2 fb_3 fb_4 fb_5 fr4 hH hl
      refine lv_iload_n hx hb dX1_bring_9 rfl (lv_at hl 0 rfl) ?_
      refine x_bipush hx hb dX1_bring_10 (by decide) ?_
      refine x_icmp_ge (tgt := 41) hx hb dX1_bring_12 (by decide) (by omega) (by decide) (fun c12 => ?_) (fun c12 => ?_)
      · subst hQ
        exact x_vret hx hb hr hlocks hH (Nat.le_of_ble_eq_true rfl) (Nat.le_of_ble_eq_true rfl) ⟨⟨fb_0, fb_1, fb_2, (fb_3.trans (congrArg (fun g => aI E 6 g) (show g = (brK kp cell w 6) from (by have e : i = 6 := (by omega); rw [hg, e])))), fb_4, _, fb_5⟩, fun j hj0 => ((fr4 j (by omega)).trans (fr2 j (by omega)))⟩ dX1_bring_41
      · have hgi : g i = kp i := by rw [hg]; exact brK_at
        have hgr := hkp i
        refine lv_aload_n hx hb dX1_bring_15 rfl (lv_at hl 1 rfl) ?_
        refine x_get hx hb hts hown hK hH b (by omega) fb_0 hinX1 rfl 2 (by decide) (List.mem_of_getElem? (i := 2) rfl) rfl dX1_bring_16 ?_
        refine lv_iload_n hx hb dX1_bring_19 rfl (lv_at hl 0 rfl) ?_
        refine x_iald hx hb hK hH (b + 3) (by omega) fb_3 (by omega) (by omega) (by omega) dX1_bring_20 ?_
        refine lv_iload_n hx hb dX1_bring_21 rfl (lv_at hl 3 rfl) ?_
        refine x_icmp_ne (tgt := 35) hx hb dX1_bring_22 (by decide) (by omega) (by omega) (fun c22 => ?_) (fun c22 => ?_)
        · refine x_iinc (lv' := [(3, .int (iZ (i + 1))), (0, .ref (xad E b)), (1, .int (iZ w)), (2, .int (iZ cell))]) hx hb dX1_bring_35 hl (k := 0) rfl (by decide) rfl (fun ls hl => ?_)
          refine lv_goto (tgt := 9) hx hb dX1_bring_38 (by decide) ?_
          exact ih9 (i + 1) g σ3 _ _ _ (by omega) (by first | omega | rfl | assumption | simp_all) (by first | (rw [hg]; exact brK_t (by omega) (by rw [hgi] at c22; omega)) | (rw [hg]; exact brK_f (by rw [hgi] at c22; exact c22))) fb_0 fb_1 fb_2 fb_3 fb_4 fb_5 (fun j hj0 => (fr4 j (by omega))) hH (lv_sub hl [0, 1, 2, 3] rfl)
        · refine lv_aload_n hx hb dX1_bring_25 rfl (lv_at hl 1 rfl) ?_
          refine x_get hx hb hts hown hK hH b (by omega) fb_0 hinX1 rfl 2 (by decide) (List.mem_of_getElem? (i := 2) rfl) rfl dX1_bring_26 ?_
          refine lv_iload_n hx hb dX1_bring_29 rfl (lv_at hl 0 rfl) ?_
          refine x_bipush hx hb dX1_bring_30 (by decide) ?_
          refine lv_iload_n hx hb dX1_bring_32 rfl (lv_at hl 2 rfl) ?_
          refine x_iadd hx hb dX1_bring_33 ?_
          refine x_iast hx hb hK hH (b + 3) (by omega) fb_3 (by omega) (by omega) (by omega) dX1_bring_34 (fun σ5 H locs fb_3 fr6 hH => ?_)
          have fb_0 : σ5 b = oB 0 [.ref (xad E (b + 1)), .ref (xad E (b + 2)), .ref (xad E (b + 3)), .ref (xad E (b + 4)), .ref (xad E (b + 5)), .int (iZ pn), .int (iZ nw), .int (iZ sh), .long (lZ wk)] := (fr6 b (by omega)).trans fb_0
          have fb_1 : σ5 (b + 1) = aI E 25 op := (fr6 (b + 1) (by omega)).trans fb_1
          have fb_2 : σ5 (b + 2) = aI E 25 lk := (fr6 (b + 2) (by omega)).trans fb_2
          have fb_4 : σ5 (b + 4) = aI E 3 (ui wc w cell) := (fr6 (b + 4) (by omega)).trans fb_4
          have fb_5 : σ5 (b + 5) = aI E 5 ro0 := (fr6 (b + 5) (by omega)).trans fb_5
          refine x_iinc (lv' := [(3, .int (iZ (i + 1))), (0, .ref (xad E b)), (1, .int (iZ w)), (2, .int (iZ cell))]) hx hb dX1_bring_35 hl (k := 0) rfl (by decide) rfl (fun ls hl => ?_)
          refine lv_goto (tgt := 9) hx hb dX1_bring_38 (by decide) ?_
          exact ih9 (i + 1) (ui g i (25 + w)) σ5 _ _ _ (by omega) (by first | omega | rfl | assumption | simp_all) (by first | (rw [hg]; exact brK_t (by omega) (by rw [hgi] at c22; omega)) | (rw [hg]; exact brK_f (by rw [hgi] at c22; exact c22))) fb_0 fb_1 fb_2 fb_3 fb_4 fb_5 (fun j hj0 => ((fr6 j (by omega)).trans (fr4 j (by omega)))) hH (lv_sub hl [0, 1, 2, 3] rfl)
  exact K9 7 0 kp σ1 _ _ _ (by first | omega | decide) (by first | omega | rfl | assumption | simp_all) (by exact brK_0.symm) fb_0 fb_1 fb_2 fb_3 fb_4 fb_5 (fun j _ => rfl) hH (lv_sub hl [0, 1, 2, 3] rfl)

def rm_X1_countLocks : Room := { frames := 0, cells := 0, slots := 0, locals := 0 }
set_option maxRecDepth 100000 in
set_option maxHeartbeats 4000000 in
theorem c_X1_countLocks (l : Launch) (E : xE) (ST : xST) (hSF : SF ST) (σ : xW) (b : Nat) (op : Int → Int) (lk : Int → Int) (kp : Int → Int) (wc : Int → Int) (pn : Int) (nw : Int) (sh : Int) (wk : Int) (hr0 : bd E σ b op lk kp wc pn nw sh wk) (hb : b + 6 ≤ 85) (hlk : ∀ j : Int, -1 ≤ lk j ∧ lk j ≤ 5) : CI l E ST yX1_countLocks wsX1_countLocks rm_X1_countLocks [.ref (xad E b)] σ (fun (z : Int) (u : xW) => z = lkN lk ∧ u = σ) := by
  obtain ⟨fb_0, fb_1, fb_2, fb_3, fb_4, ro0, fb_5⟩ := hr0
  refine CI_of (by decide) rfl (Nat.le_of_ble_eq_true rfl) ?_
  intro p e s m args below meth c Q ls G hH hl hQ
  obtain ⟨hx, hb, hml, hown, hts, hK, hST, hlocks, hr, hno⟩ := G
  have hOK := hSF.1
  have hown : s.vm.findClass RX1 = some m.cls := hown
  have hl : lv_has ls 3 [(0, .ref (xad E b))] := hl
  have hinX1 : ∀ w ∈ u_ws RX1 TX1 9, w ∈ wsX1_countLocks := fun w h => (List.mem_cons_of_mem _ (List.mem_append_right _ h))
  refine x_iconst hx hb dX1_countLocks_0 ?_
  refine lv_istore_n (lv' := [(1, .int (iZ 0)), (0, .ref (xad E b))]) hx hb dX1_countLocks_1 rfl hl (by decide) rfl (fun ls hl => ?_)
  refine x_iconst hx hb dX1_countLocks_2 ?_
  refine lv_istore_n (lv' := [(2, .int (iZ 0)), (1, .int (iZ 0)), (0, .ref (xad E b))]) hx hb dX1_countLocks_3 rfl hl (by decide) rfl (fun ls hl => ?_)
  have K4 : ∀ (nK : Nat) (cnt i : Int) (H : Heap) (locs : List Loc) (ls : Array Slot), (25 - i).toNat < nK → (0 ≤ i ∧ i ≤ 25) → (cnt = cnbK (fun j => decide (¬ lk j = -1)) i) → (0 ≤ cnt ∧ cnt ≤ i) → Hx E (xA E s.heap.size) s.heap σ H locs → lv_has ls 3 [(2, .int (iZ i)), (1, .int (iZ cnt)), (0, .ref (xad E b))] → W p l e rm_X1_countLocks s m args below meth c H locs 0 0 Q (F0 m 4 ls []) := by
    intro n4
    induction n4 with
    | zero =>
      intro cnt i H locs ls hm
      exact absurd hm (by first | exact Nat.not_lt_zero _ | omega)
    | succ n4 ih4 =>
      intro cnt i H locs ls hm4 hi hcnt hcb  hH hl
      refine lv_iload_n hx hb dX1_countLocks_4 rfl (lv_at hl 0 rfl) ?_
      refine x_bipush hx hb dX1_countLocks_5 (by decide) ?_
      refine x_icmp_ge (tgt := 29) hx hb dX1_countLocks_7 (by decide) (by omega) (by decide) (fun c7 => ?_) (fun c7 => ?_)
      · refine lv_iload_n hx hb dX1_countLocks_29 rfl (lv_at hl 1 rfl) ?_
        subst hQ
        exact x_iret hx hb hr hlocks hH (Nat.le_of_ble_eq_true rfl) (Nat.le_of_ble_eq_true rfl) ⟨(show cnt = (lkN lk) from (by have e : i = 25 := (by omega); subst e; exact hcnt)), rfl⟩ dX1_countLocks_30
      · refine lv_aload_n hx hb dX1_countLocks_10 rfl (lv_at hl 2 rfl) ?_
        refine x_get hx hb hts hown hK hH b (by omega) fb_0 hinX1 rfl 1 (by decide) (List.mem_of_getElem? (i := 1) rfl) rfl dX1_countLocks_11 ?_
        refine lv_iload_n hx hb dX1_countLocks_14 rfl (lv_at hl 0 rfl) ?_
        refine x_iald hx hb hK hH (b + 2) (by omega) fb_2 (by omega) (by omega) (by omega) dX1_countLocks_15 ?_
        have hv2 := hlk i
        refine x_iconst hx hb dX1_countLocks_16 ?_
        refine x_icmp_eq (tgt := 23) hx hb dX1_countLocks_17 (by decide) (by omega) (by decide) (fun c17 => ?_) (fun c17 => ?_)
        · refine x_iinc (lv' := [(2, .int (iZ (i + 1))), (1, .int (iZ cnt)), (0, .ref (xad E b))]) hx hb dX1_countLocks_23 hl (k := 0) rfl (by decide) rfl (fun ls hl => ?_)
          refine lv_goto (tgt := 4) hx hb dX1_countLocks_26 (by decide) ?_
          exact ih4 cnt (i + 1) _ _ _ (by omega) (by first | omega | rfl | assumption | simp_all) (by rw [cnbK_s (by omega), ← hcnt]; simp [b2, c17]) (by first | omega | rfl | assumption | simp_all)  hH (lv_sub hl [0, 1, 2] rfl)
        · refine x_iinc (lv' := [(1, .int (iZ (cnt + 1))), (2, .int (iZ i)), (0, .ref (xad E b))]) hx hb dX1_countLocks_20 hl (k := 1) rfl (by decide) rfl (fun ls hl => ?_)
          refine x_iinc (lv' := [(2, .int (iZ (i + 1))), (1, .int (iZ (cnt + 1))), (0, .ref (xad E b))]) hx hb dX1_countLocks_23 hl (k := 1) rfl (by decide) rfl (fun ls hl => ?_)
          refine lv_goto (tgt := 4) hx hb dX1_countLocks_26 (by decide) ?_
          exact ih4 (cnt + 1) (i + 1) _ _ _ (by omega) (by first | omega | rfl | assumption | simp_all) (by rw [cnbK_s (by omega), ← hcnt]; simp [b2, c17]) (by first | omega | rfl | assumption | simp_all)  hH (lv_sub hl [0, 1, 2] rfl)
  exact K4 26 0 0 _ _ _ (by first | omega | decide) (by first | omega | rfl | assumption | simp_all) (by rfl) (by first | omega | rfl | assumption | simp_all)  hH (lv_sub hl [0, 1, 2] rfl)

def rm_X1_isLineFree : Room := { frames := 1, cells := 0, slots := 0, locals := 21 }
set_option maxRecDepth 100000 in
set_option maxHeartbeats 4000000 in
theorem c_X1_isLineFree (l : Launch) (E : xE) (ST : xST) (hSF : SF ST) (σ : xW) (b : Nat) (first : Int) (strd : Int) (op : Int → Int) (lk : Int → Int) (kp : Int → Int) (wc : Int → Int) (pn : Int) (nw : Int) (sh : Int) (wk : Int) (hr0 : bd E σ b op lk kp wc pn nw sh wk) (hb : b + 6 ≤ 85) (hL : linP first strd) : CI l E ST yX1_isLineFree wsX1_isLineFree rm_X1_isLineFree [.ref (xad E b), .int (iZ first), .int (iZ strd)] σ (fun (z : Int) (u : xW) => z = b2 (lfB pn first strd) ∧ u = σ) := by
  obtain ⟨fb_0, fb_1, fb_2, fb_3, fb_4, ro0, fb_5⟩ := hr0
  refine CI_of (by decide) rfl (Nat.le_of_ble_eq_true rfl) ?_
  intro p e s m args below meth c Q ls G hH hl hQ
  obtain ⟨hx, hb, hml, hown, hts, hK, hST, hlocks, hr, hno⟩ := G
  have hOK := hSF.1
  have hown : s.vm.findClass RX1 = some m.cls := hown
  have hl : lv_has ls 4 [(0, .ref (xad E b)), (1, .int (iZ first)), (2, .int (iZ strd))] := hl
  refine x_iconst hx hb dX1_isLineFree_0 ?_
  refine lv_istore_n (lv' := [(3, .int (iZ 0)), (0, .ref (xad E b)), (1, .int (iZ first)), (2, .int (iZ strd))]) hx hb dX1_isLineFree_1 rfl hl (by decide) rfl (fun ls hl => ?_)
  have K2 : ∀ (nK : Nat) (i : Int) (H : Heap) (locs : List Loc) (ls : Array Slot), (5 - i).toNat < nK → (0 ≤ i ∧ i ≤ 5) → (∀ j : Int, 0 ≤ j → j < i → ¬ fixP pn (first + j * strd)) → Hx E (xA E s.heap.size) s.heap σ H locs → lv_has ls 4 [(3, .int (iZ i)), (0, .ref (xad E b)), (1, .int (iZ first)), (2, .int (iZ strd))] → W p l e rm_X1_isLineFree s m args below meth c H locs 0 0 Q (F0 m 2 ls []) := by
    intro n2
    induction n2 with
    | zero =>
      intro i H locs ls hm
      exact absurd hm (by first | exact Nat.not_lt_zero _ | omega)
    | succ n2 ih2 =>
      intro i H locs ls hm2 hi hn  hH hl
      refine lv_iload_n hx hb dX1_isLineFree_2 rfl (lv_at hl 0 rfl) ?_
      refine x_iconst hx hb dX1_isLineFree_3 ?_
      refine x_icmp_ge (tgt := 27) hx hb dX1_isLineFree_4 (by decide) (by omega) (by decide) (fun c4 => ?_) (fun c4 => ?_)
      · refine x_iconst hx hb dX1_isLineFree_27 ?_
        subst hQ
        exact x_zret (b := true) hx hb hr hlocks hH (Nat.le_of_ble_eq_true rfl) (Nat.le_of_ble_eq_true rfl) ⟨congrArg b2 (show true = (lfB pn first strd) from (by exact (dB_t (fun j h0 h1 => hn j h0 (by omega))).symm)), rfl⟩ dX1_isLineFree_28
      · have hq := lin_in hL (show 0 ≤ i by omega) (show i ≤ 4 by omega)
        refine lv_aload_n hx hb dX1_isLineFree_7 rfl (lv_at hl 1 rfl) ?_
        refine lv_iload_n hx hb dX1_isLineFree_8 rfl (lv_at hl 2 rfl) ?_
        refine lv_iload_n hx hb dX1_isLineFree_9 rfl (lv_at hl 0 rfl) ?_
        refine lv_iload_n hx hb dX1_isLineFree_10 rfl (lv_at hl 3 rfl) ?_
        refine x_imul hx hb dX1_isLineFree_11 ?_
        refine x_iadd hx hb dX1_isLineFree_12 ?_
        refine x_cVID (As := [.int (iZ (first + (i * strd)))]) (rest := []) hx hb hml hts hown hK hST hOK hH b (c_X1_isFixed l E ST hSF σ b (first + (i * strd)) op lk kp wc pn nw sh wk ⟨fb_0, fb_1, fb_2, fb_3, fb_4, _, fb_5⟩ (by omega) (by omega)) (cwV 1 hts gX1_isLineFree_X1_isFixed rfl rfl rfl (by decide +kernel) ⟨Nat.le_of_ble_eq_true rfl, Nat.le_of_ble_eq_true rfl⟩) (by omega) fb_0 rfl rfl hl.1 rfl (Nat.le_of_ble_eq_true rfl) dX1_isLineFree_13 ⟨Nat.le_of_ble_eq_true rfl, Nat.le_of_ble_eq_true rfl⟩ (fun z u h => h) (fun H locs hH => ?_)
        refine x_ifb_eq (tgt := 21) hx hb dX1_isLineFree_16 (by decide) (fun c16 => ?_) (fun c16 => ?_)
        · have c16 := of_decide_eq_false c16
          refine x_iinc (lv' := [(3, .int (iZ (i + 1))), (0, .ref (xad E b)), (1, .int (iZ first)), (2, .int (iZ strd))]) hx hb dX1_isLineFree_21 hl (k := 0) rfl (by decide) rfl (fun ls hl => ?_)
          refine lv_goto (tgt := 2) hx hb dX1_isLineFree_24 (by decide) ?_
          exact ih2 (i + 1) _ _ _ (by omega) (by first | omega | rfl | assumption | simp_all) (by intro j h0 h1; rcases (show j < i ∨ j = i by omega) with h | h; (exact hn j h0 h); (rw [h]; exact c16))  hH (lv_sub hl [0, 1, 2, 3] rfl)
        · have c16 := of_decide_eq_true c16
          refine x_iconst hx hb dX1_isLineFree_19 ?_
          subst hQ
          exact x_zret (b := false) hx hb hr hlocks hH (Nat.le_of_ble_eq_true rfl) (Nat.le_of_ble_eq_true rfl) ⟨congrArg b2 (show false = (lfB pn first strd) from (by exact (dB_f (fun h => h i (by omega) (by omega) c16)).symm)), rfl⟩ dX1_isLineFree_20
  exact K2 6 0 _ _ _ (by first | omega | decide) (by first | omega | rfl | assumption | simp_all) (by intro j h0 h1; omega)  hH (lv_sub hl [0, 1, 2, 3] rfl)

def rm_X1_rotate : Room := { frames := 1, cells := 0, slots := 0, locals := 22 }
set_option maxRecDepth 100000 in
set_option maxHeartbeats 4000000 in
theorem c_X1_rotate (l : Launch) (E : xE) (ST : xST) (hSF : SF ST) (σ : xW) (b : Nat) (k : Nat) (first : Int) (strd : Int) (steps : Int) (pn : Int) (nw : Int) (sh : Int) (wk : Int) (f : Int → Int) (ro : Int → Int) (hr0 : bo E σ b pn nw sh wk) (hr1 : ar1 E σ k 25 f) (hr2 : ar1 E σ (b + 5) 5 ro) (hb : b + 6 ≤ 85) (hk : k = b + 1 ∨ k = b + 2) (hL : linP first strd) (hst : -4 ≤ steps ∧ steps ≤ 4) : CV l E ST yX1_rotate wsX1_rotate rm_X1_rotate [.ref (xad E b), .ref (xad E k), .int (iZ first), .int (iZ strd), .int (iZ steps)] σ (fun (u : xW) => (∃ ro1 : Int → Int, bo E u b pn nw sh wk ∧ ar1 E u k 25 (rotF f first strd steps) ∧ ar1 E u (b + 5) 5 ro1) ∧ ∀ j : Nat, j ≠ b + 5 → j ≠ k → u j = σ j) := by
  have fb_0 : σ b = oB 0 [.ref (xad E (b + 1)), .ref (xad E (b + 2)), .ref (xad E (b + 3)), .ref (xad E (b + 4)), .ref (xad E (b + 5)), .int (iZ pn), .int (iZ nw), .int (iZ sh), .long (lZ wk)] := hr0
  have fk_0 : σ k = aI E 25 f := hr1
  have fb_5 : σ (b + 5) = aI E 5 ro := hr2
  refine CV_of (by decide) rfl (Nat.le_of_ble_eq_true rfl) ?_
  intro p e s m args below meth c Q ls G hH hl hQ
  obtain ⟨hx, hb, hml, hown, hts, hK, hST, hlocks, hr, hno⟩ := G
  have hOK := hSF.1
  have hown : s.vm.findClass RX1 = some m.cls := hown
  have hl : lv_has ls 6 [(0, .ref (xad E b)), (1, .ref (xad E k)), (2, .int (iZ first)), (3, .int (iZ strd)), (4, .int (iZ steps))] := hl
  have hinX1 : ∀ w ∈ u_ws RX1 TX1 9, w ∈ wsX1_rotate := fun w h => (List.mem_cons_of_mem _ (List.mem_append_right _ h))
  refine x_iconst hx hb dX1_rotate_0 ?_
  refine lv_istore (lv' := [(5, .int (iZ 0)), (0, .ref (xad E b)), (1, .ref (xad E k)), (2, .int (iZ first)), (3, .int (iZ strd)), (4, .int (iZ steps))]) hx hb dX1_rotate_1 hl (by decide) rfl (fun ls hl => ?_)
  have K3 : ∀ (nK : Nat) (i : Int) (g : Int → Int) (σ1 : xW) (H : Heap) (locs : List Loc) (ls : Array Slot), (5 - i).toNat < nK → (0 ≤ i ∧ i ≤ 5) → (∀ j : Int, 0 ≤ j → j < i → g ((j + steps) % 5) = f (first + j * strd)) → σ1 b = oB 0 [.ref (xad E (b + 1)), .ref (xad E (b + 2)), .ref (xad E (b + 3)), .ref (xad E (b + 4)), .ref (xad E (b + 5)), .int (iZ pn), .int (iZ nw), .int (iZ sh), .long (lZ wk)] → σ1 k = aI E 25 f → σ1 (b + 5) = aI E 5 g → (∀ j : Nat, j ≠ b + 5 → j ≠ k → σ1 j = σ j) → Hx E (xA E s.heap.size) s.heap σ1 H locs → lv_has ls 6 [(5, .int (iZ i)), (0, .ref (xad E b)), (1, .ref (xad E k)), (2, .int (iZ first)), (3, .int (iZ strd)), (4, .int (iZ steps))] → W p l e rm_X1_rotate s m args below meth c H locs 0 0 Q (F0 m 3 ls []) := by
    intro n3
    induction n3 with
    | zero =>
      intro i g σ1 H locs ls hm
      exact absurd hm (by first | exact Nat.not_lt_zero _ | omega)
    | succ n3 ih3 =>
      intro i g σ1 H locs ls hm3 hi hg fb_0 fk_0 fb_5 fr2 hH hl
      refine lv_iload hx hb dX1_rotate_3 (lv_at hl 0 rfl) ?_
      refine x_iconst hx hb dX1_rotate_5 ?_
      refine x_icmp_ge (tgt := 37) hx hb dX1_rotate_6 (by decide) (by omega) (by decide) (fun c6 => ?_) (fun c6 => ?_)
      · refine x_iconst hx hb dX1_rotate_37 ?_
        refine lv_istore (lv' := [(5, .int (iZ 0)), (0, .ref (xad E b)), (1, .ref (xad E k)), (2, .int (iZ first)), (3, .int (iZ strd)), (4, .int (iZ steps))]) hx hb dX1_rotate_38 hl (by decide) rfl (fun ls hl => ?_)
        have K40 : ∀ (nK : Nat) (i2 : Int) (g2 : Int → Int) (σ3 : xW) (H : Heap) (locs : List Loc) (ls : Array Slot), (5 - i2).toNat < nK → (0 ≤ i2 ∧ i2 ≤ 5) → (g2 = rotK f first strd steps i2) → σ3 b = oB 0 [.ref (xad E (b + 1)), .ref (xad E (b + 2)), .ref (xad E (b + 3)), .ref (xad E (b + 4)), .ref (xad E (b + 5)), .int (iZ pn), .int (iZ nw), .int (iZ sh), .long (lZ wk)] → σ3 k = aI E 25 g2 → σ3 (b + 5) = aI E 5 g → (∀ j : Nat, j ≠ b + 5 → j ≠ k → σ3 j = σ1 j) → Hx E (xA E s.heap.size) s.heap σ3 H locs → lv_has ls 6 [(5, .int (iZ i2)), (0, .ref (xad E b)), (1, .ref (xad E k)), (2, .int (iZ first)), (3, .int (iZ strd)), (4, .int (iZ steps))] → W p l e rm_X1_rotate s m args below meth c H locs 0 0 Q (F0 m 40 ls []) := by
          intro n40
          induction n40 with
          | zero =>
            intro i2 g2 σ3 H locs ls hm
            exact absurd hm (by first | exact Nat.not_lt_zero _ | omega)
          | succ n40 ih40 =>
            intro i2 g2 σ3 H locs ls hm40 hi2 hg2 fb_0 fk_0 fb_5 fr4 hH hl
            refine lv_iload hx hb dX1_rotate_40 (lv_at hl 0 rfl) ?_
            refine x_iconst hx hb dX1_rotate_42 ?_
            refine x_icmp_ge (tgt := 67) hx hb dX1_rotate_43 (by decide) (by omega) (by decide) (fun c43 => ?_) (fun c43 => ?_)
            · subst hQ
              exact x_vret hx hb hr hlocks hH (Nat.le_of_ble_eq_true rfl) (Nat.le_of_ble_eq_true rfl) ⟨⟨g, fb_0, (fk_0.trans (congrArg (fun g => aI E 25 g) (show g2 = (rotF f first strd steps) from (by have e : i2 = 5 := (by omega); rw [hg2, e]; rfl)))), fb_5⟩, fun j hj0 hj1 => ((fr4 j (by omega) (by omega)).trans (fr2 j (by omega) (by omega)))⟩ dX1_rotate_67
            · have hq2 := lin_in hL (show 0 ≤ i2 by omega) (show i2 ≤ 4 by omega)
              refine lv_aload_n hx hb dX1_rotate_46 rfl (lv_at hl 2 rfl) ?_
              refine lv_iload_n hx hb dX1_rotate_47 rfl (lv_at hl 3 rfl) ?_
              refine lv_iload hx hb dX1_rotate_48 (lv_at hl 0 rfl) ?_
              refine lv_iload_n hx hb dX1_rotate_50 rfl (lv_at hl 4 rfl) ?_
              refine x_imul hx hb dX1_rotate_51 ?_
              refine x_iadd hx hb dX1_rotate_52 ?_
              refine lv_aload_n hx hb dX1_rotate_53 rfl (lv_at hl 1 rfl) ?_
              refine x_get hx hb hts hown hK hH b (by omega) fb_0 hinX1 rfl 4 (by decide) (List.mem_of_getElem? (i := 1) rfl) rfl dX1_rotate_54 ?_
              refine lv_iload hx hb dX1_rotate_57 (lv_at hl 0 rfl) ?_
              refine x_iald hx hb hK hH (b + 5) (by omega) fb_5 (by omega) (by omega) (by omega) dX1_rotate_59 ?_
              refine x_iast hx hb hK hH k (by omega) fk_0 (by omega) (by omega) (by omega) dX1_rotate_60 (fun σ5 H locs fk_0 fr6 hH => ?_)
              have fb_0 : σ5 b = oB 0 [.ref (xad E (b + 1)), .ref (xad E (b + 2)), .ref (xad E (b + 3)), .ref (xad E (b + 4)), .ref (xad E (b + 5)), .int (iZ pn), .int (iZ nw), .int (iZ sh), .long (lZ wk)] := (fr6 b (by omega)).trans fb_0
              have fb_5 : σ5 (b + 5) = aI E 5 g := (fr6 (b + 5) (by omega)).trans fb_5
              refine x_iinc (lv' := [(5, .int (iZ (i2 + 1))), (0, .ref (xad E b)), (1, .ref (xad E k)), (2, .int (iZ first)), (3, .int (iZ strd)), (4, .int (iZ steps))]) hx hb dX1_rotate_61 hl (k := 0) rfl (by decide) rfl (fun ls hl => ?_)
              refine lv_goto (tgt := 40) hx hb dX1_rotate_64 (by decide) ?_
              exact ih40 (i2 + 1) (ui g2 (first + (i2 * strd)) (g i2)) σ5 _ _ _ (by omega) (by first | omega | rfl | assumption | simp_all) (by have e1 := hg ((i2 - steps) % 5) (by omega) (by omega); have e2 : ((i2 - steps) % 5 + steps) % 5 = i2 := (by omega); rw [e2] at e1; rw [e1, hg2]; exact rotK_s hL (by omega) (by omega)) fb_0 fk_0 fb_5 (fun j hj0 hj1 => ((fr6 j (by omega)).trans (fr4 j (by omega) (by omega)))) hH (lv_sub hl [0, 1, 2, 3, 4, 5] rfl)
        exact K40 6 0 f σ1 _ _ _ (by first | omega | decide) (by first | omega | rfl | assumption | simp_all) (by exact rotK_0.symm) fb_0 fk_0 fb_5 (fun j _ _ => rfl) hH (lv_sub hl [0, 1, 2, 3, 4, 5] rfl)
      · have hq := lin_in hL (show 0 ≤ i by omega) (show i ≤ 4 by omega)
        refine lv_aload_n hx hb dX1_rotate_9 rfl (lv_at hl 1 rfl) ?_
        refine x_get hx hb hts hown hK hH b (by omega) fb_0 hinX1 rfl 4 (by decide) (List.mem_of_getElem? (i := 1) rfl) rfl dX1_rotate_10 ?_
        refine lv_iload hx hb dX1_rotate_13 (lv_at hl 0 rfl) ?_
        refine lv_iload hx hb dX1_rotate_15 (lv_at hl 5 rfl) ?_
        refine x_iadd hx hb dX1_rotate_17 ?_
        refine x_iconst hx hb dX1_rotate_18 ?_
        refine x_cSID (As := [.int (iZ (i + steps)), .int (iZ 5)]) (rest := [.ref (xad E (b + 5))]) hx hb hml hts hown hK hST hOK hH (c_J9_floorMod_7cf53 l E ST hSF σ1 (i + steps)  (by omega) (by omega)) (va_cwS 2 hts gX1_rotate_J9_floorMod_7cf53 rfl rfl rfl (by decide +kernel) ⟨Nat.le_of_ble_eq_true rfl, Nat.le_of_ble_eq_true rfl⟩) rfl hl.1 rfl (Nat.le_of_ble_eq_true rfl) dX1_rotate_19 ⟨Nat.le_of_ble_eq_true rfl, Nat.le_of_ble_eq_true rfl⟩ (fun z u h => h) (fun H locs hH => ?_)
        refine lv_aload_n hx hb dX1_rotate_22 rfl (lv_at hl 2 rfl) ?_
        refine lv_iload_n hx hb dX1_rotate_23 rfl (lv_at hl 3 rfl) ?_
        refine lv_iload hx hb dX1_rotate_24 (lv_at hl 0 rfl) ?_
        refine lv_iload_n hx hb dX1_rotate_26 rfl (lv_at hl 4 rfl) ?_
        refine x_imul hx hb dX1_rotate_27 ?_
        refine x_iadd hx hb dX1_rotate_28 ?_
        refine x_iald hx hb hK hH k (by omega) fk_0 (by omega) (by omega) (by omega) dX1_rotate_29 ?_
        refine x_iast hx hb hK hH (b + 5) (by omega) fb_5 (by omega) (by omega) (by omega) dX1_rotate_30 (fun σ10 H locs fb_5 fr11 hH => ?_)
        have fb_0 : σ10 b = oB 0 [.ref (xad E (b + 1)), .ref (xad E (b + 2)), .ref (xad E (b + 3)), .ref (xad E (b + 4)), .ref (xad E (b + 5)), .int (iZ pn), .int (iZ nw), .int (iZ sh), .long (lZ wk)] := (fr11 b (by omega)).trans fb_0
        have fk_0 : σ10 k = aI E 25 f := (fr11 k (by omega)).trans fk_0
        refine x_iinc (lv' := [(5, .int (iZ (i + 1))), (0, .ref (xad E b)), (1, .ref (xad E k)), (2, .int (iZ first)), (3, .int (iZ strd)), (4, .int (iZ steps))]) hx hb dX1_rotate_31 hl (k := 0) rfl (by decide) rfl (fun ls hl => ?_)
        refine lv_goto (tgt := 3) hx hb dX1_rotate_34 (by decide) ?_
        exact ih3 (i + 1) (ui g ((i + steps) % 5) (f (first + (i * strd)))) σ10 _ _ _ (by omega) (by first | omega | rfl | assumption | simp_all) (by intro j h0 h1; by_cases e : j = i; (rw [e]; exact ui_s); (rw [ui_n (by omega)]; exact hg j h0 (by omega))) fb_0 fk_0 fb_5 (fun j hj0 hj1 => ((fr11 j (by omega)).trans (fr2 j (by omega) (by omega)))) hH (lv_sub hl [0, 1, 2, 3, 4, 5] rfl)
  exact K3 6 0 ro σ _ _ _ (by first | omega | decide) (by first | omega | rfl | assumption | simp_all) (by intro j h0 h1; omega) fb_0 fk_0 fb_5 (fun j _ _ => rfl) hH (lv_sub hl [0, 1, 2, 3, 4, 5] rfl)

def rm_X1_placeAfter : Room := { frames := 1, cells := 0, slots := 0, locals := 22 }
set_option maxRecDepth 100000 in
set_option maxHeartbeats 4000000 in
theorem c_X1_placeAfter (l : Launch) (E : xE) (ST : xST) (hSF : SF ST) (σ : xW) (pl : Int) (first : Int) (strd : Int) (steps : Int) (hp : rg pl) (hL : linP first strd) (hst : -4 ≤ steps ∧ steps ≤ 4) : CI l E ST yX1_placeAfter wsX1_placeAfter rm_X1_placeAfter [.int (iZ pl), .int (iZ first), .int (iZ strd), .int (iZ steps)] σ (fun (z : Int) (u : xW) => z = paZ pl first strd steps ∧ u = σ) := by
  refine CI_of (by decide) rfl (Nat.le_of_ble_eq_true rfl) ?_
  intro p e s m args below meth c Q ls G hH hl hQ
  obtain ⟨hx, hb, hml, hown, hts, hK, hST, hlocks, hr, hno⟩ := G
  have hOK := hSF.1
  have hown : s.vm.findClass RX1 = some m.cls := hown
  have hl : lv_has ls 5 [(0, .int (iZ pl)), (1, .int (iZ first)), (2, .int (iZ strd)), (3, .int (iZ steps))] := hl
  refine x_iconst hx hb dX1_placeAfter_0 ?_
  refine lv_istore (lv' := [(4, .int (iZ 0)), (0, .int (iZ pl)), (1, .int (iZ first)), (2, .int (iZ strd)), (3, .int (iZ steps))]) hx hb dX1_placeAfter_1 hl (by decide) rfl (fun ls hl => ?_)
  have K3 : ∀ (nK : Nat) (i : Int) (H : Heap) (locs : List Loc) (ls : Array Slot), (5 - i).toNat < nK → (0 ≤ i ∧ i ≤ 5) → (∀ j : Int, 0 ≤ j → j < i → ¬ pl = first + j * strd) → Hx E (xA E s.heap.size) s.heap σ H locs → lv_has ls 5 [(4, .int (iZ i)), (0, .int (iZ pl)), (1, .int (iZ first)), (2, .int (iZ strd)), (3, .int (iZ steps))] → W p l e rm_X1_placeAfter s m args below meth c H locs 0 0 Q (F0 m 3 ls []) := by
    intro n3
    induction n3 with
    | zero =>
      intro i H locs ls hm
      exact absurd hm (by first | exact Nat.not_lt_zero _ | omega)
    | succ n3 ih3 =>
      intro i H locs ls hm3 hi hn  hH hl
      refine lv_iload hx hb dX1_placeAfter_3 (lv_at hl 0 rfl) ?_
      refine x_iconst hx hb dX1_placeAfter_5 ?_
      refine x_icmp_ge (tgt := 38) hx hb dX1_placeAfter_6 (by decide) (by omega) (by decide) (fun c6 => ?_) (fun c6 => ?_)
      · refine lv_iload_n hx hb dX1_placeAfter_38 rfl (lv_at hl 1 rfl) ?_
        subst hQ
        exact x_iret hx hb hr hlocks hH (Nat.le_of_ble_eq_true rfl) (Nat.le_of_ble_eq_true rfl) ⟨(show pl = (paZ pl first strd steps) from (by exact paZ_no hL (fun j h0 h1 => hn j h0 (by omega)))), rfl⟩ dX1_placeAfter_39
      · have hq := lin_in hL (show 0 ≤ i by omega) (show i ≤ 4 by omega)
        refine lv_iload_n hx hb dX1_placeAfter_9 rfl (lv_at hl 1 rfl) ?_
        refine lv_iload_n hx hb dX1_placeAfter_10 rfl (lv_at hl 2 rfl) ?_
        refine lv_iload hx hb dX1_placeAfter_11 (lv_at hl 0 rfl) ?_
        refine lv_iload_n hx hb dX1_placeAfter_13 rfl (lv_at hl 3 rfl) ?_
        refine x_imul hx hb dX1_placeAfter_14 ?_
        refine x_iadd hx hb dX1_placeAfter_15 ?_
        refine x_icmp_ne (tgt := 32) hx hb dX1_placeAfter_16 (by decide) (by omega) (by omega) (fun c16 => ?_) (fun c16 => ?_)
        · refine x_iinc (lv' := [(4, .int (iZ (i + 1))), (0, .int (iZ pl)), (1, .int (iZ first)), (2, .int (iZ strd)), (3, .int (iZ steps))]) hx hb dX1_placeAfter_32 hl (k := 0) rfl (by decide) rfl (fun ls hl => ?_)
          refine lv_goto (tgt := 3) hx hb dX1_placeAfter_35 (by decide) ?_
          exact ih3 (i + 1) _ _ _ (by omega) (by first | omega | rfl | assumption | simp_all) (by intro j h0 h1; rcases (show j < i ∨ j = i by omega) with h | h; (exact hn j h0 h); (rw [h]; exact c16))  hH (lv_sub hl [0, 1, 2, 3, 4] rfl)
        · refine lv_iload_n hx hb dX1_placeAfter_19 rfl (lv_at hl 2 rfl) ?_
          refine lv_iload hx hb dX1_placeAfter_20 (lv_at hl 0 rfl) ?_
          refine lv_iload_n hx hb dX1_placeAfter_22 rfl (lv_at hl 4 rfl) ?_
          refine x_iadd hx hb dX1_placeAfter_23 ?_
          refine x_iconst hx hb dX1_placeAfter_24 ?_
          refine x_cSID (As := [.int (iZ (i + steps)), .int (iZ 5)]) (rest := [.int (iZ first)]) hx hb hml hts hown hK hST hOK hH (c_J9_floorMod_7cf53 l E ST hSF σ (i + steps)  (by omega) (by omega)) (va_cwS 2 hts gX1_placeAfter_J9_floorMod_7cf53 rfl rfl rfl (by decide +kernel) ⟨Nat.le_of_ble_eq_true rfl, Nat.le_of_ble_eq_true rfl⟩) rfl hl.1 rfl (Nat.le_of_ble_eq_true rfl) dX1_placeAfter_25 ⟨Nat.le_of_ble_eq_true rfl, Nat.le_of_ble_eq_true rfl⟩ (fun z u h => h) (fun H locs hH => ?_)
          refine lv_iload_n hx hb dX1_placeAfter_28 rfl (lv_at hl 3 rfl) ?_
          refine x_imul hx hb dX1_placeAfter_29 ?_
          refine x_iadd hx hb dX1_placeAfter_30 ?_
          subst hQ
          exact x_iret hx hb hr hlocks hH (Nat.le_of_ble_eq_true rfl) (Nat.le_of_ble_eq_true rfl) ⟨(show (first + (((i + steps) % 5) * strd)) = (paZ pl first strd steps) from (by exact paZ_hit hL (by omega) (by omega) c16)), rfl⟩ dX1_placeAfter_31
  exact K3 6 0 _ _ _ (by first | omega | decide) (by first | omega | rfl | assumption | simp_all) (by intro j h0 h1; omega)  hH (lv_sub hl [0, 1, 2, 3, 4] rfl)

def rm_X1_moveLine : Room := { frames := 2, cells := 0, slots := 0, locals := 47 }
set_option maxRecDepth 100000 in
set_option maxHeartbeats 4000000 in
theorem c_X1_moveLine (l : Launch) (E : xE) (ST : xST) (hSF : SF ST) (σ : xW) (b : Nat) (first : Int) (strd : Int) (steps : Int) (op : Int → Int) (lk : Int → Int) (kp : Int → Int) (wc : Int → Int) (pn : Int) (nw : Int) (sh : Int) (wk : Int) (hr0 : bd E σ b op lk kp wc pn nw sh wk) (hb : b + 6 ≤ 85) (hB : BI op lk kp wc pn nw) (hL : linP first strd) (hst : -4 ≤ steps ∧ steps ≤ 4) : CV l E ST yX1_moveLine wsX1_moveLine rm_X1_moveLine [.ref (xad E b), .int (iZ first), .int (iZ strd), .int (iZ steps)] σ (fun (u : xW) => (bd E u b (rotF op first strd steps) (rotF lk first strd steps) (mlK kp first strd steps 6) (mlK wc first strd steps nw) pn nw sh wk) ∧ ∀ j : Nat, (j < b ∨ b + 6 ≤ j) → u j = σ j) := by
  obtain ⟨fb_0, fb_1, fb_2, fb_3, fb_4, ro0, fb_5⟩ := hr0
  refine CV_of (by decide) rfl (Nat.le_of_ble_eq_true rfl) ?_
  intro p e s m args below meth c Q ls G hH hl hQ
  obtain ⟨hx, hb, hml, hown, hts, hK, hST, hlocks, hr, hno⟩ := G
  have hOK := hSF.1
  have hown : s.vm.findClass RX1 = some m.cls := hown
  have hl : lv_has ls 5 [(0, .ref (xad E b)), (1, .int (iZ first)), (2, .int (iZ strd)), (3, .int (iZ steps))] := hl
  have hinX1 : ∀ w ∈ u_ws RX1 TX1 9, w ∈ wsX1_moveLine := fun w h => (List.mem_cons_of_mem _ (List.mem_append_right _ h))
  obtain ⟨hop, hlk, hkp, hwc, hpn, hnw⟩ := id hB
  refine lv_aload_n hx hb dX1_moveLine_0 rfl (lv_at hl 0 rfl) ?_
  refine lv_aload_n hx hb dX1_moveLine_1 rfl (lv_at hl 0 rfl) ?_
  refine x_get hx hb hts hown hK hH b (by omega) fb_0 hinX1 rfl 0 (by decide) (List.mem_of_getElem? (i := 1) rfl) rfl dX1_moveLine_2 ?_
  refine lv_iload_n hx hb dX1_moveLine_5 rfl (lv_at hl 1 rfl) ?_
  refine lv_iload_n hx hb dX1_moveLine_6 rfl (lv_at hl 2 rfl) ?_
  refine lv_iload_n hx hb dX1_moveLine_7 rfl (lv_at hl 3 rfl) ?_
  refine x_cVV (As := [.ref (xad E (b + 1)), .int (iZ first), .int (iZ strd), .int (iZ steps)]) (rest := []) hx hb hml hts hown hK hST hOK hH b (c_X1_rotate l E ST hSF σ b (b + 1) first strd steps pn nw sh wk op ro0 fb_0 fb_1 fb_5 (by omega) (by omega) (by omega) (by omega)) (cwV 4 hts gX1_moveLine_X1_rotate rfl rfl rfl (by decide +kernel) ⟨Nat.le_of_ble_eq_true rfl, Nat.le_of_ble_eq_true rfl⟩) (by omega) fb_0 rfl rfl hl.1 rfl (Nat.le_of_ble_eq_true rfl) dX1_moveLine_8 ⟨Nat.le_of_ble_eq_true rfl, Nat.le_of_ble_eq_true rfl⟩ (fun σ2 H locs hp3 hH => ?_)
  obtain ⟨⟨ro1_5, fb_0, fb_1, fb_5⟩, fr4⟩ := hp3
  have fb_2 : σ2 (b + 2) = aI E 25 lk := (fr4 (b + 2) (by omega) (by omega)).trans fb_2
  have fb_3 : σ2 (b + 3) = aI E 6 kp := (fr4 (b + 3) (by omega) (by omega)).trans fb_3
  have fb_4 : σ2 (b + 4) = aI E 3 wc := (fr4 (b + 4) (by omega) (by omega)).trans fb_4
  refine lv_aload_n hx hb dX1_moveLine_11 rfl (lv_at hl 0 rfl) ?_
  refine lv_aload_n hx hb dX1_moveLine_12 rfl (lv_at hl 0 rfl) ?_
  refine x_get hx hb hts hown hK hH b (by omega) fb_0 hinX1 rfl 1 (by decide) (List.mem_of_getElem? (i := 2) rfl) rfl dX1_moveLine_13 ?_
  refine lv_iload_n hx hb dX1_moveLine_16 rfl (lv_at hl 1 rfl) ?_
  refine lv_iload_n hx hb dX1_moveLine_17 rfl (lv_at hl 2 rfl) ?_
  refine lv_iload_n hx hb dX1_moveLine_18 rfl (lv_at hl 3 rfl) ?_
  refine x_cVV (As := [.ref (xad E (b + 2)), .int (iZ first), .int (iZ strd), .int (iZ steps)]) (rest := []) hx hb hml hts hown hK hST hOK hH b (c_X1_rotate l E ST hSF σ2 b (b + 2) first strd steps pn nw sh wk lk ro1_5 fb_0 fb_2 fb_5 (by omega) (by omega) (by omega) (by omega)) (cwV 4 hts gX1_moveLine_X1_rotate rfl rfl rfl (by decide +kernel) ⟨Nat.le_of_ble_eq_true rfl, Nat.le_of_ble_eq_true rfl⟩) (by omega) fb_0 rfl rfl hl.1 rfl (Nat.le_of_ble_eq_true rfl) dX1_moveLine_19 ⟨Nat.le_of_ble_eq_true rfl, Nat.le_of_ble_eq_true rfl⟩ (fun σ8 H locs hp9 hH => ?_)
  obtain ⟨⟨ro1_11, fb_0, fb_2, fb_5⟩, fr10⟩ := hp9
  have fb_1 : σ8 (b + 1) = aI E 25 (rotF op first strd steps) := (fr10 (b + 1) (by omega) (by omega)).trans fb_1
  have fb_3 : σ8 (b + 3) = aI E 6 kp := (fr10 (b + 3) (by omega) (by omega)).trans fb_3
  have fb_4 : σ8 (b + 4) = aI E 3 wc := (fr10 (b + 4) (by omega) (by omega)).trans fb_4
  refine x_iconst hx hb dX1_moveLine_22 ?_
  refine lv_istore (lv' := [(4, .int (iZ 0)), (0, .ref (xad E b)), (1, .int (iZ first)), (2, .int (iZ strd)), (3, .int (iZ steps))]) hx hb dX1_moveLine_23 hl (by decide) rfl (fun ls hl => ?_)
  have K25 : ∀ (nK : Nat) (i : Int) (g : Int → Int) (σ13 : xW) (H : Heap) (locs : List Loc) (ls : Array Slot), (6 - i).toNat < nK → (0 ≤ i ∧ i ≤ 6) → (g = mlK kp first strd steps i) → σ13 b = oB 0 [.ref (xad E (b + 1)), .ref (xad E (b + 2)), .ref (xad E (b + 3)), .ref (xad E (b + 4)), .ref (xad E (b + 5)), .int (iZ pn), .int (iZ nw), .int (iZ sh), .long (lZ wk)] → σ13 (b + 1) = aI E 25 (rotF op first strd steps) → σ13 (b + 2) = aI E 25 (rotF lk first strd steps) → σ13 (b + 3) = aI E 6 g → σ13 (b + 4) = aI E 3 wc → σ13 (b + 5) = aI E 5 ro1_11 → (∀ j : Nat, (j < b ∨ b + 6 ≤ j) → σ13 j = σ8 j) → Hx E (xA E s.heap.size) s.heap σ13 H locs → lv_has ls 5 [(4, .int (iZ i)), (0, .ref (xad E b)), (1, .int (iZ first)), (2, .int (iZ strd)), (3, .int (iZ steps))] → W p l e rm_X1_moveLine s m args below meth c H locs 0 0 Q (F0 m 25 ls []) := by
    intro n25
    induction n25 with
    | zero =>
      intro i g σ13 H locs ls hm
      exact absurd hm (by first | exact Nat.not_lt_zero _ | omega)
    | succ n25 ih25 =>
      intro i g σ13 H locs ls hm25 hi hg fb_0 fb_1 fb_2 fb_3 fb_4 fb_5 fr14 hH hl
      refine lv_iload hx hb dX1_moveLine_25 (lv_at hl 0 rfl) ?_
      refine x_bipush hx hb dX1_moveLine_27 (by decide) ?_
      refine x_icmp_ge (tgt := 58) hx hb dX1_moveLine_29 (by decide) (by omega) (by decide) (fun c29 => ?_) (fun c29 => ?_)
      · refine x_iconst hx hb dX1_moveLine_58 ?_
        refine lv_istore (lv' := [(4, .int (iZ 0)), (0, .ref (xad E b)), (1, .int (iZ first)), (2, .int (iZ strd)), (3, .int (iZ steps))]) hx hb dX1_moveLine_59 hl (by decide) rfl (fun ls hl => ?_)
        have K61 : ∀ (nK : Nat) (i2 : Int) (g2 : Int → Int) (σ15 : xW) (H : Heap) (locs : List Loc) (ls : Array Slot), (nw - i2).toNat < nK → (0 ≤ i2 ∧ i2 ≤ nw) → (g2 = mlK wc first strd steps i2) → σ15 b = oB 0 [.ref (xad E (b + 1)), .ref (xad E (b + 2)), .ref (xad E (b + 3)), .ref (xad E (b + 4)), .ref (xad E (b + 5)), .int (iZ pn), .int (iZ nw), .int (iZ sh), .long (lZ wk)] → σ15 (b + 1) = aI E 25 (rotF op first strd steps) → σ15 (b + 2) = aI E 25 (rotF lk first strd steps) → σ15 (b + 3) = aI E 6 g → σ15 (b + 4) = aI E 3 g2 → σ15 (b + 5) = aI E 5 ro1_11 → (∀ j : Nat, (j < b ∨ b + 6 ≤ j) → σ15 j = σ13 j) → Hx E (xA E s.heap.size) s.heap σ15 H locs → lv_has ls 5 [(4, .int (iZ i2)), (0, .ref (xad E b)), (1, .int (iZ first)), (2, .int (iZ strd)), (3, .int (iZ steps))] → W p l e rm_X1_moveLine s m args below meth c H locs 0 0 Q (F0 m 61 ls []) := by
          intro n61
          induction n61 with
          | zero =>
            intro i2 g2 σ15 H locs ls hm
            exact absurd hm (by first | exact Nat.not_lt_zero _ | omega)
          | succ n61 ih61 =>
            intro i2 g2 σ15 H locs ls hm61 hi2 hg2 fb_0 fb_1 fb_2 fb_3 fb_4 fb_5 fr16 hH hl
            refine lv_iload hx hb dX1_moveLine_61 (lv_at hl 0 rfl) ?_
            refine lv_aload_n hx hb dX1_moveLine_63 rfl (lv_at hl 1 rfl) ?_
            refine x_get hx hb hts hown hK hH b (by omega) fb_0 hinX1 rfl 6 (by decide) (List.mem_of_getElem? (i := 4) rfl) rfl dX1_moveLine_64 ?_
            refine x_icmp_ge (tgt := 96) hx hb dX1_moveLine_67 (by decide) (by omega) (by omega) (fun c67 => ?_) (fun c67 => ?_)
            · subst hQ
              exact x_vret hx hb hr hlocks hH (Nat.le_of_ble_eq_true rfl) (Nat.le_of_ble_eq_true rfl) ⟨⟨fb_0, fb_1, fb_2, (fb_3.trans (congrArg (fun g => aI E 6 g) (show g = (mlK kp first strd steps 6) from (by have e : i = 6 := (by omega); rw [hg, e])))), (fb_4.trans (congrArg (fun g => aI E 3 g) (show g2 = (mlK wc first strd steps nw) from (by have e : i2 = nw := (by omega); rw [hg2, e])))), _, fb_5⟩, fun j hj0 => ((fr16 j (by omega)).trans ((fr14 j (by omega)).trans ((fr10 j (by omega) (by omega)).trans (fr4 j (by omega) (by omega)))))⟩ dX1_moveLine_96
            · have hgi2 : g2 i2 = wc i2 := by rw [hg2]; exact mlK_at
              have hgr2 := hwc i2
              refine lv_aload_n hx hb dX1_moveLine_70 rfl (lv_at hl 1 rfl) ?_
              refine x_get hx hb hts hown hK hH b (by omega) fb_0 hinX1 rfl 3 (by decide) (List.mem_of_getElem? (i := 5) rfl) rfl dX1_moveLine_71 ?_
              refine lv_iload hx hb dX1_moveLine_74 (lv_at hl 0 rfl) ?_
              refine lv_aload_n hx hb dX1_moveLine_76 rfl (lv_at hl 1 rfl) ?_
              refine x_get hx hb hts hown hK hH b (by omega) fb_0 hinX1 rfl 3 (by decide) (List.mem_of_getElem? (i := 5) rfl) rfl dX1_moveLine_77 ?_
              refine lv_iload hx hb dX1_moveLine_80 (lv_at hl 0 rfl) ?_
              refine x_iald hx hb hK hH (b + 4) (by omega) fb_4 (by omega) (by omega) (by omega) dX1_moveLine_82 ?_
              refine lv_iload_n hx hb dX1_moveLine_83 rfl (lv_at hl 2 rfl) ?_
              refine lv_iload_n hx hb dX1_moveLine_84 rfl (lv_at hl 3 rfl) ?_
              refine lv_iload_n hx hb dX1_moveLine_85 rfl (lv_at hl 4 rfl) ?_
              refine x_cSID (As := [.int (iZ (g2 i2)), .int (iZ first), .int (iZ strd), .int (iZ steps)]) (rest := [.int (iZ i2), .ref (xad E (b + 4))]) hx hb hml hts hown hK hST hOK hH (c_X1_placeAfter l E ST hSF σ15 (g2 i2) first strd steps  (by omega) (by omega) (by omega)) (va_cwS 4 hts gX1_moveLine_X1_placeAfter rfl rfl rfl (by decide +kernel) ⟨Nat.le_of_ble_eq_true rfl, Nat.le_of_ble_eq_true rfl⟩) rfl hl.1 rfl (Nat.le_of_ble_eq_true rfl) dX1_moveLine_86 ⟨Nat.le_of_ble_eq_true rfl, Nat.le_of_ble_eq_true rfl⟩ (fun z u h => h) (fun H locs hH => ?_)
              refine x_iast hx hb hK hH (b + 4) (by omega) fb_4 (by omega) (by omega) (by omega) dX1_moveLine_89 (fun σ20 H locs fb_4 fr21 hH => ?_)
              have fb_0 : σ20 b = oB 0 [.ref (xad E (b + 1)), .ref (xad E (b + 2)), .ref (xad E (b + 3)), .ref (xad E (b + 4)), .ref (xad E (b + 5)), .int (iZ pn), .int (iZ nw), .int (iZ sh), .long (lZ wk)] := (fr21 b (by omega)).trans fb_0
              have fb_1 : σ20 (b + 1) = aI E 25 (rotF op first strd steps) := (fr21 (b + 1) (by omega)).trans fb_1
              have fb_2 : σ20 (b + 2) = aI E 25 (rotF lk first strd steps) := (fr21 (b + 2) (by omega)).trans fb_2
              have fb_3 : σ20 (b + 3) = aI E 6 g := (fr21 (b + 3) (by omega)).trans fb_3
              have fb_5 : σ20 (b + 5) = aI E 5 ro1_11 := (fr21 (b + 5) (by omega)).trans fb_5
              refine x_iinc (lv' := [(4, .int (iZ (i2 + 1))), (0, .ref (xad E b)), (1, .int (iZ first)), (2, .int (iZ strd)), (3, .int (iZ steps))]) hx hb dX1_moveLine_90 hl (k := 0) rfl (by decide) rfl (fun ls hl => ?_)
              refine lv_goto (tgt := 61) hx hb dX1_moveLine_93 (by decide) ?_
              exact ih61 (i2 + 1) (ui g2 i2 (paZ (g2 i2) first strd steps)) σ20 _ _ _ (by omega) (by first | omega | rfl | assumption | simp_all) (by rw [hgi2, hg2]; exact mlK_s (by omega)) fb_0 fb_1 fb_2 fb_3 fb_4 fb_5 (fun j hj0 => ((fr21 j (by omega)).trans (fr16 j (by omega)))) hH (lv_sub hl [0, 1, 2, 3, 4] rfl)
        exact K61 4 0 wc σ13 _ _ _ (by first | omega | decide) (by first | omega | rfl | assumption | simp_all) (by exact mlK_0.symm) fb_0 fb_1 fb_2 fb_3 fb_4 fb_5 (fun j _ => rfl) hH (lv_sub hl [0, 1, 2, 3, 4] rfl)
      · have hgi : g i = kp i := by rw [hg]; exact mlK_at
        have hgr := hkp i
        refine lv_aload_n hx hb dX1_moveLine_32 rfl (lv_at hl 1 rfl) ?_
        refine x_get hx hb hts hown hK hH b (by omega) fb_0 hinX1 rfl 2 (by decide) (List.mem_of_getElem? (i := 3) rfl) rfl dX1_moveLine_33 ?_
        refine lv_iload hx hb dX1_moveLine_36 (lv_at hl 0 rfl) ?_
        refine lv_aload_n hx hb dX1_moveLine_38 rfl (lv_at hl 1 rfl) ?_
        refine x_get hx hb hts hown hK hH b (by omega) fb_0 hinX1 rfl 2 (by decide) (List.mem_of_getElem? (i := 3) rfl) rfl dX1_moveLine_39 ?_
        refine lv_iload hx hb dX1_moveLine_42 (lv_at hl 0 rfl) ?_
        refine x_iald hx hb hK hH (b + 3) (by omega) fb_3 (by omega) (by omega) (by omega) dX1_moveLine_44 ?_
        refine lv_iload_n hx hb dX1_moveLine_45 rfl (lv_at hl 2 rfl) ?_
        refine lv_iload_n hx hb dX1_moveLine_46 rfl (lv_at hl 3 rfl) ?_
        refine lv_iload_n hx hb dX1_moveLine_47 rfl (lv_at hl 4 rfl) ?_
        refine x_cSID (As := [.int (iZ (g i)), .int (iZ first), .int (iZ strd), .int (iZ steps)]) (rest := [.int (iZ i), .ref (xad E (b + 3))]) hx hb hml hts hown hK hST hOK hH (c_X1_placeAfter l E ST hSF σ13 (g i) first strd steps  (by omega) (by omega) (by omega)) (va_cwS 4 hts gX1_moveLine_X1_placeAfter rfl rfl rfl (by decide +kernel) ⟨Nat.le_of_ble_eq_true rfl, Nat.le_of_ble_eq_true rfl⟩) rfl hl.1 rfl (Nat.le_of_ble_eq_true rfl) dX1_moveLine_48 ⟨Nat.le_of_ble_eq_true rfl, Nat.le_of_ble_eq_true rfl⟩ (fun z u h => h) (fun H locs hH => ?_)
        refine x_iast hx hb hK hH (b + 3) (by omega) fb_3 (by omega) (by omega) (by omega) dX1_moveLine_51 (fun σ25 H locs fb_3 fr26 hH => ?_)
        have fb_0 : σ25 b = oB 0 [.ref (xad E (b + 1)), .ref (xad E (b + 2)), .ref (xad E (b + 3)), .ref (xad E (b + 4)), .ref (xad E (b + 5)), .int (iZ pn), .int (iZ nw), .int (iZ sh), .long (lZ wk)] := (fr26 b (by omega)).trans fb_0
        have fb_1 : σ25 (b + 1) = aI E 25 (rotF op first strd steps) := (fr26 (b + 1) (by omega)).trans fb_1
        have fb_2 : σ25 (b + 2) = aI E 25 (rotF lk first strd steps) := (fr26 (b + 2) (by omega)).trans fb_2
        have fb_4 : σ25 (b + 4) = aI E 3 wc := (fr26 (b + 4) (by omega)).trans fb_4
        have fb_5 : σ25 (b + 5) = aI E 5 ro1_11 := (fr26 (b + 5) (by omega)).trans fb_5
        refine x_iinc (lv' := [(4, .int (iZ (i + 1))), (0, .ref (xad E b)), (1, .int (iZ first)), (2, .int (iZ strd)), (3, .int (iZ steps))]) hx hb dX1_moveLine_52 hl (k := 0) rfl (by decide) rfl (fun ls hl => ?_)
        refine lv_goto (tgt := 25) hx hb dX1_moveLine_55 (by decide) ?_
        exact ih25 (i + 1) (ui g i (paZ (g i) first strd steps)) σ25 _ _ _ (by omega) (by first | omega | rfl | assumption | simp_all) (by rw [hgi, hg]; exact mlK_s (by omega)) fb_0 fb_1 fb_2 fb_3 fb_4 fb_5 (fun j hj0 => ((fr26 j (by omega)).trans (fr14 j (by omega)))) hH (lv_sub hl [0, 1, 2, 3, 4] rfl)
  exact K25 7 0 kp σ8 _ _ _ (by first | omega | decide) (by first | omega | rfl | assumption | simp_all) (by exact mlK_0.symm) fb_0 fb_1 fb_2 fb_3 fb_4 fb_5 (fun j _ => rfl) hH (lv_sub hl [0, 1, 2, 3, 4] rfl)

def rm_X1_moveIfAllowed : Room := { frames := 3, cells := 0, slots := 0, locals := 71 }
set_option maxRecDepth 100000 in
set_option maxHeartbeats 4000000 in
theorem c_X1_moveIfAllowed (l : Launch) (E : xE) (ST : xST) (hSF : SF ST) (σ : xW) (b : Nat) (first : Int) (strd : Int) (steps : Int) (op : Int → Int) (lk : Int → Int) (kp : Int → Int) (wc : Int → Int) (pn : Int) (nw : Int) (sh : Int) (wk : Int) (hr0 : bd E σ b op lk kp wc pn nw sh wk) (hb : b + 6 ≤ 85) (hB : BI op lk kp wc pn nw) (hL : linP first strd) (hst : rg steps) : CI l E ST yX1_moveIfAllowed wsX1_moveIfAllowed rm_X1_moveIfAllowed [.ref (xad E b), .int (iZ first), .int (iZ strd), .int (iZ steps)] σ (fun (z : Int) (u : xW) => z = (moveF op lk kp wc pn nw sh wk first strd steps).1 ∧ (∃ (op1 lk1 kp1 wc1 : Int → Int) (pn1 nw1 sh1 wk1 : Int), bd E u b op1 lk1 kp1 wc1 pn1 nw1 sh1 wk1 ∧ ((op1, lk1, kp1, wc1, pn1, nw1, sh1, wk1) = (moveF op lk kp wc pn nw sh wk first strd steps).2)) ∧ ∀ j : Nat, (j < b ∨ b + 6 ≤ j) → u j = σ j) := by
  obtain ⟨fb_0, fb_1, fb_2, fb_3, fb_4, ro0, fb_5⟩ := hr0
  refine CI_of (by decide) rfl (Nat.le_of_ble_eq_true rfl) ?_
  intro p e s m args below meth c Q ls G hH hl hQ
  obtain ⟨hx, hb, hml, hown, hts, hK, hST, hlocks, hr, hno⟩ := G
  have hOK := hSF.1
  have hown : s.vm.findClass RX1 = some m.cls := hown
  have hl : lv_has ls 6 [(0, .ref (xad E b)), (1, .int (iZ first)), (2, .int (iZ strd)), (3, .int (iZ steps))] := hl
  have hinX1 : ∀ w ∈ u_ws RX1 TX1 9, w ∈ wsX1_moveIfAllowed := fun w h => (List.mem_cons_of_mem _ (List.mem_append_right _ h))
  obtain ⟨hop, hlk, hkp, hwc, hpn, hnw⟩ := id hB
  refine lv_iload_n hx hb dX1_moveIfAllowed_0 rfl (lv_at hl 3 rfl) ?_
  refine x_if_eq (tgt := 15) hx hb dX1_moveIfAllowed_1 (by decide) (by omega) (fun c1 => ?_) (fun c1 => ?_)
  · refine x_bipush hx hb dX1_moveIfAllowed_15 (by decide) ?_
    subst hQ
    exact x_iret hx hb hr hlocks hH (Nat.le_of_ble_eq_true rfl) (Nat.le_of_ble_eq_true rfl) ⟨(show (-2) = ((moveF op lk kp wc pn nw sh wk first strd steps).1) from (by unfold moveF; first | (rw [if_pos (by omega)]; done) | (rw [if_neg (by omega), if_pos (by assumption)]; done) | (rw [if_neg (by omega), if_neg (by simp_all)]; have e : i = 5 := (by omega); subst e; exact hcnt))), ⟨op, lk, kp, wc, pn, nw, sh, wk, ⟨fb_0, fb_1, fb_2, fb_3, fb_4, _, fb_5⟩, (by unfold moveF; first | (rw [if_pos (by omega)]; done) | (rw [if_neg (by omega), if_pos (by assumption)]; done) | (rw [if_neg (by omega), if_neg (by simp_all)]; done))⟩, fun j hj0 => rfl⟩ dX1_moveIfAllowed_17
  · refine lv_iload_n hx hb dX1_moveIfAllowed_4 rfl (lv_at hl 3 rfl) ?_
    refine x_bipush hx hb dX1_moveIfAllowed_5 (by decide) ?_
    refine x_icmp_le (tgt := 15) hx hb dX1_moveIfAllowed_7 (by decide) (by omega) (by decide) (fun c7 => ?_) (fun c7 => ?_)
    · refine x_bipush hx hb dX1_moveIfAllowed_15 (by decide) ?_
      subst hQ
      exact x_iret hx hb hr hlocks hH (Nat.le_of_ble_eq_true rfl) (Nat.le_of_ble_eq_true rfl) ⟨(show (-2) = ((moveF op lk kp wc pn nw sh wk first strd steps).1) from (by unfold moveF; first | (rw [if_pos (by omega)]; done) | (rw [if_neg (by omega), if_pos (by assumption)]; done) | (rw [if_neg (by omega), if_neg (by simp_all)]; have e : i = 5 := (by omega); subst e; exact hcnt))), ⟨op, lk, kp, wc, pn, nw, sh, wk, ⟨fb_0, fb_1, fb_2, fb_3, fb_4, _, fb_5⟩, (by unfold moveF; first | (rw [if_pos (by omega)]; done) | (rw [if_neg (by omega), if_pos (by assumption)]; done) | (rw [if_neg (by omega), if_neg (by simp_all)]; done))⟩, fun j hj0 => rfl⟩ dX1_moveIfAllowed_17
    · refine lv_iload_n hx hb dX1_moveIfAllowed_10 rfl (lv_at hl 3 rfl) ?_
      refine x_iconst hx hb dX1_moveIfAllowed_11 ?_
      refine x_icmp_lt (tgt := 18) hx hb dX1_moveIfAllowed_12 (by decide) (by omega) (by decide) (fun c12 => ?_) (fun c12 => ?_)
      · refine lv_aload_n hx hb dX1_moveIfAllowed_18 rfl (lv_at hl 0 rfl) ?_
        refine lv_iload_n hx hb dX1_moveIfAllowed_19 rfl (lv_at hl 1 rfl) ?_
        refine lv_iload_n hx hb dX1_moveIfAllowed_20 rfl (lv_at hl 2 rfl) ?_
        refine x_cVID (As := [.int (iZ first), .int (iZ strd)]) (rest := []) hx hb hml hts hown hK hST hOK hH b (c_X1_isLineFree l E ST hSF σ b first strd op lk kp wc pn nw sh wk ⟨fb_0, fb_1, fb_2, fb_3, fb_4, _, fb_5⟩ (by omega) (by omega)) (cwV 2 hts gX1_moveIfAllowed_X1_isLineFree rfl rfl rfl (by decide +kernel) ⟨Nat.le_of_ble_eq_true rfl, Nat.le_of_ble_eq_true rfl⟩) (by omega) fb_0 rfl rfl hl.1 rfl (Nat.le_of_ble_eq_true rfl) dX1_moveIfAllowed_21 ⟨Nat.le_of_ble_eq_true rfl, Nat.le_of_ble_eq_true rfl⟩ (fun z u h => h) (fun H locs hH => ?_)
        refine x_ifb_ne (tgt := 30) hx hb dX1_moveIfAllowed_24 (by decide) (fun c24 => ?_) (fun c24 => ?_)
        · refine lv_aload_n hx hb dX1_moveIfAllowed_30 rfl (lv_at hl 0 rfl) ?_
          refine lv_iload_n hx hb dX1_moveIfAllowed_31 rfl (lv_at hl 1 rfl) ?_
          refine lv_iload_n hx hb dX1_moveIfAllowed_32 rfl (lv_at hl 2 rfl) ?_
          refine lv_iload_n hx hb dX1_moveIfAllowed_33 rfl (lv_at hl 3 rfl) ?_
          refine x_cVV (As := [.int (iZ first), .int (iZ strd), .int (iZ steps)]) (rest := []) hx hb hml hts hown hK hST hOK hH b (c_X1_moveLine l E ST hSF σ b first strd steps op lk kp wc pn nw sh wk ⟨fb_0, fb_1, fb_2, fb_3, fb_4, _, fb_5⟩ (by omega) (by omega) (by omega) (by omega)) (cwV 3 hts gX1_moveIfAllowed_X1_moveLine rfl rfl rfl (by decide +kernel) ⟨Nat.le_of_ble_eq_true rfl, Nat.le_of_ble_eq_true rfl⟩) (by omega) fb_0 rfl rfl hl.1 rfl (Nat.le_of_ble_eq_true rfl) dX1_moveIfAllowed_34 ⟨Nat.le_of_ble_eq_true rfl, Nat.le_of_ble_eq_true rfl⟩ (fun σ5 H locs hp6 hH => ?_)
          obtain ⟨⟨fb_0, fb_1, fb_2, fb_3, fb_4, ro8, fb_5⟩, fr7⟩ := hp6
          refine lv_aload_n hx hb dX1_moveIfAllowed_37 rfl (lv_at hl 0 rfl) ?_
          refine lv_dup hx hb dX1_moveIfAllowed_38 rfl ?_
          refine x_get hx hb hts hown hK hH b (by omega) fb_0 hinX1 rfl 7 (by decide) (List.mem_of_getElem? (i := 1) rfl) rfl dX1_moveIfAllowed_39 ?_
          refine x_iconst hx hb dX1_moveIfAllowed_42 ?_
          refine x_iadd hx hb dX1_moveIfAllowed_43 ?_
          refine x_put (fs' := [.ref (xad E (b + 1)), .ref (xad E (b + 2)), .ref (xad E (b + 3)), .ref (xad E (b + 4)), .ref (xad E (b + 5)), .int (iZ pn), .int (iZ nw), .int (iZ (sh + 1)), .long (lZ wk)]) hx hb hts hown hK hH b (by omega) fb_0 hinX1 rfl tyX1 tyX1_ok nmX1 7 (by decide) (List.mem_of_getElem? (i := 1) rfl) rfl (ty := .int) (by decide +kernel) rfl rfl (Nat.le_of_ble_eq_true rfl) rfl dX1_moveIfAllowed_44 (fun σ10 H locs fb_0 fr11 hH => ?_)
          have fb_1 : σ10 (b + 1) = aI E 25 (rotF op first strd steps) := (fr11 (b + 1) (by omega)).trans fb_1
          have fb_2 : σ10 (b + 2) = aI E 25 (rotF lk first strd steps) := (fr11 (b + 2) (by omega)).trans fb_2
          have fb_3 : σ10 (b + 3) = aI E 6 (mlK kp first strd steps 6) := (fr11 (b + 3) (by omega)).trans fb_3
          have fb_4 : σ10 (b + 4) = aI E 3 (mlK wc first strd steps nw) := (fr11 (b + 4) (by omega)).trans fb_4
          have fb_5 : σ10 (b + 5) = aI E 5 ro8 := (fr11 (b + 5) (by omega)).trans fb_5
          refine x_iconst hx hb dX1_moveIfAllowed_47 ?_
          refine lv_istore (lv' := [(4, .int (iZ 0)), (0, .ref (xad E b)), (1, .int (iZ first)), (2, .int (iZ strd)), (3, .int (iZ steps))]) hx hb dX1_moveIfAllowed_48 hl (by decide) rfl (fun ls hl => ?_)
          refine x_iconst hx hb dX1_moveIfAllowed_50 ?_
          refine lv_istore (lv' := [(5, .int (iZ 0)), (4, .int (iZ 0)), (0, .ref (xad E b)), (1, .int (iZ first)), (2, .int (iZ strd)), (3, .int (iZ steps))]) hx hb dX1_moveIfAllowed_51 hl (by decide) rfl (fun ls hl => ?_)
          have K53 : ∀ (nK : Nat) (cnt i : Int) (H : Heap) (locs : List Loc) (ls : Array Slot), (5 - i).toNat < nK → (0 ≤ i ∧ i ≤ 5) → (cnt = smK (fun i => cntK (mlK wc first strd steps nw) (first + i * strd) nw) i) → (0 ≤ cnt ∧ cnt ≤ 1000 * i) → Hx E (xA E s.heap.size) s.heap σ10 H locs → lv_has ls 6 [(5, .int (iZ i)), (4, .int (iZ cnt)), (0, .ref (xad E b)), (1, .int (iZ first)), (2, .int (iZ strd)), (3, .int (iZ steps))] → W p l e rm_X1_moveIfAllowed s m args below meth c H locs 0 0 Q (F0 m 53 ls []) := by
            intro n53
            induction n53 with
            | zero =>
              intro cnt i H locs ls hm
              exact absurd hm (by first | exact Nat.not_lt_zero _ | omega)
            | succ n53 ih53 =>
              intro cnt i H locs ls hm53 hi hcnt hcb  hH hl
              refine lv_iload hx hb dX1_moveIfAllowed_53 (lv_at hl 0 rfl) ?_
              refine x_iconst hx hb dX1_moveIfAllowed_55 ?_
              refine x_icmp_ge (tgt := 80) hx hb dX1_moveIfAllowed_56 (by decide) (by omega) (by decide) (fun c56 => ?_) (fun c56 => ?_)
              · refine lv_iload hx hb dX1_moveIfAllowed_80 (lv_at hl 1 rfl) ?_
                subst hQ
                exact x_iret hx hb hr hlocks hH (Nat.le_of_ble_eq_true rfl) (Nat.le_of_ble_eq_true rfl) ⟨(show cnt = ((moveF op lk kp wc pn nw sh wk first strd steps).1) from (by unfold moveF; first | (rw [if_pos (by omega)]; done) | (rw [if_neg (by omega), if_pos (by assumption)]; done) | (rw [if_neg (by omega), if_neg (by simp_all)]; have e : i = 5 := (by omega); subst e; exact hcnt))), ⟨(rotF op first strd steps), (rotF lk first strd steps), (mlK kp first strd steps 6), (mlK wc first strd steps nw), pn, nw, (sh + 1), wk, ⟨fb_0, fb_1, fb_2, fb_3, fb_4, _, fb_5⟩, (by unfold moveF; first | (rw [if_pos (by omega)]; done) | (rw [if_neg (by omega), if_pos (by assumption)]; done) | (rw [if_neg (by omega), if_neg (by simp_all)]; done))⟩, fun j hj0 => ((fr11 j (by omega)).trans (fr7 j (by omega)))⟩ dX1_moveIfAllowed_82
              · have hq := lin_in hL (show 0 ≤ i by omega) (show i ≤ 4 by omega)
                refine lv_iload hx hb dX1_moveIfAllowed_59 (lv_at hl 1 rfl) ?_
                refine lv_aload_n hx hb dX1_moveIfAllowed_61 rfl (lv_at hl 2 rfl) ?_
                refine lv_iload_n hx hb dX1_moveIfAllowed_62 rfl (lv_at hl 3 rfl) ?_
                refine lv_iload hx hb dX1_moveIfAllowed_63 (lv_at hl 0 rfl) ?_
                refine lv_iload_n hx hb dX1_moveIfAllowed_65 rfl (lv_at hl 4 rfl) ?_
                refine x_imul hx hb dX1_moveIfAllowed_66 ?_
                refine x_iadd hx hb dX1_moveIfAllowed_67 ?_
                refine x_cVID (As := [.int (iZ (first + (i * strd)))]) (rest := [.int (iZ cnt)]) hx hb hml hts hown hK hST hOK hH b (c_X1_countWalkers l E ST hSF σ10 b (first + (i * strd)) (rotF op first strd steps) (rotF lk first strd steps) (mlK kp first strd steps 6) (mlK wc first strd steps nw) pn nw (sh + 1) wk ⟨fb_0, fb_1, fb_2, fb_3, fb_4, _, fb_5⟩ (by omega) (by omega) (fun j => mlK_in hL hwc j) (by omega)) (cwV 1 hts gX1_moveIfAllowed_X1_countWalkers rfl rfl rfl (by decide +kernel) ⟨Nat.le_of_ble_eq_true rfl, Nat.le_of_ble_eq_true rfl⟩) (by omega) fb_0 rfl rfl hl.1 rfl (Nat.le_of_ble_eq_true rfl) dX1_moveIfAllowed_68 ⟨Nat.le_of_ble_eq_true rfl, Nat.le_of_ble_eq_true rfl⟩ (fun z u h => h) (fun H locs hH => ?_)
                refine x_iadd hx hb dX1_moveIfAllowed_71 ?_
                refine lv_istore (lv' := [(4, .int (iZ (cnt + (cntK (mlK wc first strd steps nw) (first + (i * strd)) nw)))), (5, .int (iZ i)), (0, .ref (xad E b)), (1, .int (iZ first)), (2, .int (iZ strd)), (3, .int (iZ steps))]) hx hb dX1_moveIfAllowed_72 hl (by decide) rfl (fun ls hl => ?_)
                refine x_iinc (lv' := [(5, .int (iZ (i + 1))), (4, .int (iZ (cnt + (cntK (mlK wc first strd steps nw) (first + (i * strd)) nw)))), (0, .ref (xad E b)), (1, .int (iZ first)), (2, .int (iZ strd)), (3, .int (iZ steps))]) hx hb dX1_moveIfAllowed_74 hl (k := 1) rfl (by decide) rfl (fun ls hl => ?_)
                refine lv_goto (tgt := 53) hx hb dX1_moveIfAllowed_77 (by decide) ?_
                exact ih53 (cnt + (cntK (mlK wc first strd steps nw) (first + (i * strd)) nw)) (i + 1) _ _ _ (by omega) (by first | omega | rfl | assumption | simp_all) (by rw [smK_s (by omega), ← hcnt]) (by have := cntK_b (f := mlK wc first strd steps nw) (x := first + i * strd) (n := nw) (by omega); omega)  hH (lv_sub hl [0, 1, 2, 3, 4, 5] rfl)
          exact K53 6 0 0 _ _ _ (by first | omega | decide) (by first | omega | rfl | assumption | simp_all) (by rfl) (by first | omega | rfl | assumption | simp_all)  hH (lv_sub hl [0, 1, 2, 3, 4, 5] rfl)
        · refine x_bipush hx hb dX1_moveIfAllowed_27 (by decide) ?_
          subst hQ
          exact x_iret hx hb hr hlocks hH (Nat.le_of_ble_eq_true rfl) (Nat.le_of_ble_eq_true rfl) ⟨(show (-3) = ((moveF op lk kp wc pn nw sh wk first strd steps).1) from (by unfold moveF; first | (rw [if_pos (by omega)]; done) | (rw [if_neg (by omega), if_pos (by assumption)]; done) | (rw [if_neg (by omega), if_neg (by simp_all)]; have e : i = 5 := (by omega); subst e; exact hcnt))), ⟨op, lk, kp, wc, pn, nw, sh, wk, ⟨fb_0, fb_1, fb_2, fb_3, fb_4, _, fb_5⟩, (by unfold moveF; first | (rw [if_pos (by omega)]; done) | (rw [if_neg (by omega), if_pos (by assumption)]; done) | (rw [if_neg (by omega), if_neg (by simp_all)]; done))⟩, fun j hj0 => rfl⟩ dX1_moveIfAllowed_29
      · refine x_bipush hx hb dX1_moveIfAllowed_15 (by decide) ?_
        subst hQ
        exact x_iret hx hb hr hlocks hH (Nat.le_of_ble_eq_true rfl) (Nat.le_of_ble_eq_true rfl) ⟨(show (-2) = ((moveF op lk kp wc pn nw sh wk first strd steps).1) from (by unfold moveF; first | (rw [if_pos (by omega)]; done) | (rw [if_neg (by omega), if_pos (by assumption)]; done) | (rw [if_neg (by omega), if_neg (by simp_all)]; have e : i = 5 := (by omega); subst e; exact hcnt))), ⟨op, lk, kp, wc, pn, nw, sh, wk, ⟨fb_0, fb_1, fb_2, fb_3, fb_4, _, fb_5⟩, (by unfold moveF; first | (rw [if_pos (by omega)]; done) | (rw [if_neg (by omega), if_pos (by assumption)]; done) | (rw [if_neg (by omega), if_neg (by simp_all)]; done))⟩, fun j hj0 => rfl⟩ dX1_moveIfAllowed_17
