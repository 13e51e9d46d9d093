/-! ===== builders ===== -/
def catZ (n : Int) (L F : Int → Int) : Int → Int := fun j => if j < n then L j else F (j - n)
def sbP (E : xE) (σ : xW) (B : BT) (S : Option BT) (Y : lnQ) (b r : Nat) (n k : Int) (L : Int → Int) (Ez : xE) (u : xW) : Prop := xER E Ez r ∧ cw Ez u B S Y ∧ u b = oSb Ez r n ∧ (∃ (N : Nat) (G : Int → Int), u r = aY Ez N G ∧ k ≤ (N : Int) ∧ N ≤ 130 ∧ lt7 N G ∧ ∀ j : Int, 0 ≤ j → j < n → G j = L j) ∧ ∀ j : Nat, 85 ≤ j → j < 85 + xx E → j ≠ b → j ≠ r → u j = σ j
theorem lt7_0 {n : Int} : lt7 n (fun _ => 0) := fun _ _ _ => ⟨Int.le_refl 0, (by decide : (0 : Int) ≤ 127)⟩
theorem lt7_cd {d n m : Int} {f g : Int → Int} (h : lt7 m g) (h2 : lt7 n f) : lt7 m (cdZ d n f g) := by
  intro j h0 h1
  unfold cdZ
  by_cases e : d ≤ j ∧ j < d + n
  · rw [if_pos e]
    exact h2 _ (by omega) (by omega)
  · rw [if_neg e]
    exact h j h0 h1
theorem lt7_ui {m k v : Int} {g : Int → Int} (h : lt7 m g) (h0 : 0 ≤ v) (h1 : v ≤ 127) : lt7 m (ui g k v) := by
  intro j h2 h3
  by_cases e : j = k
  · rw [e, ui_s]
    exact ⟨h0, h1⟩
  · rw [ui_n e]
    exact h j h2 h3
theorem lt7_sc {i : Int} (h0 : 0 ≤ i) (h1 : i < 6) : lt7 (slZ i) (scZ i) := fun j h2 h3 => by
  have h := scZ_b h0 h1 h2 h3
  omega
theorem cd_0 {n j : Int} {f g : Int → Int} (h0 : 0 ≤ j) (h1 : j < n) : cdZ 0 n f g j = f j := by
  unfold cdZ
  rw [if_pos ⟨h0, by omega⟩, show j - 0 = j by omega]
theorem cd_cat {n m : Int} {L F G : Int → Int} (h : ∀ j : Int, 0 ≤ j → j < n → G j = L j) : ∀ j : Int, 0 ≤ j → j < n + m → cdZ n m F G j = catZ n L F j := by
  intro j h0 h1
  unfold cdZ catZ
  by_cases e : j < n
  · rw [if_neg (by omega), if_pos e]
    exact h j h0 e
  · rw [if_pos ⟨by omega, h1⟩, if_neg e]
theorem ui_cat {n v : Int} {L G : Int → Int} (h : ∀ j : Int, 0 ≤ j → j < n → G j = L j) : ∀ j : Int, 0 ≤ j → j < n + 1 → ui G n v j = catZ n L (fun _ => v) j := by
  intro j h0 h1
  unfold catZ
  by_cases e : j < n
  · rw [if_pos e, ui_n (by omega)]
    exact h j h0 e
  · rw [if_neg e, show j = n by omega, ui_s]

def rm_J5_newCapacity_0f7a4 : Room := { frames := 2, cells := 0, slots := 0, locals := 47 }
set_option maxRecDepth 100000 in
set_option maxHeartbeats 4000000 in
theorem c_J5_newCapacity_0f7a4 (l : Launch) (E : xE) (ST : xST) (hSF : SF ST) (Z : zE) (hSQ : SQ Z ST) (σ : xW) (b : Nat) (r : Nat) (N : Nat) (n : Int) (m9 : Int) (G : Int → Int) (hbb : b < 85 + xx E) (hrr : r < 85 + xx E) (hsb : σ b = oSb E r n) (hsr : σ r = aY E N G) (hm : 0 ≤ m9 ∧ m9 ≤ 200 ∧ N ≤ 200) : CI l E ST yJ5_newCapacity_0f7a4 wsJ5_newCapacity_0f7a4 rm_J5_newCapacity_0f7a4 [.ref (xad E b), .int (iZ m9)] σ (fun (z : Int) (u : xW) => (((N : Nat) : Int) + (((N : Nat) : Int) + 2) ≤ z ∧ m9 ≤ z ∧ (z = ((N : Nat) : Int) + (((N : Nat) : Int) + 2) ∨ z = m9)) ∧ u = σ) := by
  refine CI_of (by decide) rfl (Nat.le_of_ble_eq_true rfl) ?_
  intro p e s m args below meth c Q ls G hH hl hQ
  obtain ⟨hx, hb, hml, hown, hts, hK, hST, hlocks, hr, hno⟩ := G
  have hOK := hSF.1
  have hown : s.vm.findClass RJ5 = some m.cls := hown
  have hl : lv_has ls 6 [(0, .ref (xad E b)), (1, .int (iZ m9))] := hl
  have hinJ4 : ∀ w ∈ u_ws RJ4 TJ4 4, w ∈ wsJ5_newCapacity_0f7a4 := fun w h => (List.mem_cons_of_mem _ (List.mem_append_right _ h))
  have hF : xCf p E ST (xA E s.heap.size) s m args c cJ5_newCapacity_0f7a4 6 wsJ5_newCapacity_0f7a4 RJ5 := ⟨hx, hb, hml, hown, hts, hK, hST, hOK⟩
  have hlk9 : meth.locks = false := hlocks
  refine lv_aload_n hx hb dJ5_newCapacity_0f7a4_0 rfl (lv_at hl 0 rfl) ?_
  refine x_get hx hb hts hown hK hH b (by omega) hsb hinJ4 rfl 0 (by decide) (List.mem_of_getElem? (i := 1) rfl) rfl dJ5_newCapacity_0f7a4_1 ?_
  refine x_yalen hx hb hK hH r (by omega) hsr dJ5_newCapacity_0f7a4_4 ?_
  refine lv_istore_n (lv' := [(2, .int (iZ ((N : Nat) : Int))), (0, .ref (xad E b)), (1, .int (iZ m9))]) hx hb dJ5_newCapacity_0f7a4_5 rfl hl (by decide) rfl (fun ls hl => ?_)
  refine lv_iload_n hx hb dJ5_newCapacity_0f7a4_6 rfl (lv_at hl 2 rfl) ?_
  refine lv_aload_n hx hb dJ5_newCapacity_0f7a4_7 rfl (lv_at hl 1 rfl) ?_
  refine x_get hx hb hts hown hK hH b (by omega) hsb hinJ4 rfl 1 (by decide) (List.mem_of_getElem? (i := 2) rfl) rfl dJ5_newCapacity_0f7a4_8 ?_
  refine x_ishl hx hb dJ5_newCapacity_0f7a4_11 ?_
  rw [ishl_0 (x := m9) (by omega) (by omega)]
  refine lv_istore_n (lv' := [(3, .int (iZ m9)), (2, .int (iZ ((N : Nat) : Int))), (0, .ref (xad E b)), (1, .int (iZ m9))]) hx hb dJ5_newCapacity_0f7a4_12 rfl hl (by decide) rfl (fun ls hl => ?_)
  refine lv_iload_n hx hb dJ5_newCapacity_0f7a4_13 rfl (lv_at hl 0 rfl) ?_
  refine lv_iload_n hx hb dJ5_newCapacity_0f7a4_14 rfl (lv_at hl 1 rfl) ?_
  refine x_isub hx hb dJ5_newCapacity_0f7a4_15 ?_
  refine lv_istore (lv' := [(4, .int (iZ (m9 - ((N : Nat) : Int)))), (3, .int (iZ m9)), (2, .int (iZ ((N : Nat) : Int))), (0, .ref (xad E b)), (1, .int (iZ m9))]) hx hb dJ5_newCapacity_0f7a4_16 hl (by decide) rfl (fun ls hl => ?_)
  refine lv_iload_n hx hb dJ5_newCapacity_0f7a4_18 rfl (lv_at hl 2 rfl) ?_
  refine lv_iload hx hb dJ5_newCapacity_0f7a4_19 (lv_at hl 0 rfl) ?_
  refine lv_iload_n hx hb dJ5_newCapacity_0f7a4_21 rfl (lv_at hl 2 rfl) ?_
  refine x_iconst hx hb dJ5_newCapacity_0f7a4_22 ?_
  refine lv_aload_n hx hb dJ5_newCapacity_0f7a4_23 rfl (lv_at hl 3 rfl) ?_
  refine x_get hx hb hts hown hK hH b (by omega) hsb hinJ4 rfl 1 (by decide) (List.mem_of_getElem? (i := 2) rfl) rfl dJ5_newCapacity_0f7a4_24 ?_
  refine x_ishl hx hb dJ5_newCapacity_0f7a4_27 ?_
  rw [ishl_0 (x := 2) (by omega) (by omega)]
  refine x_iadd hx hb dJ5_newCapacity_0f7a4_28 ?_
  refine x_aftI (va_runS (As := [.int (iZ ((N : Nat) : Int)), .int (iZ (m9 - ((N : Nat) : Int))), .int (iZ (((N : Nat) : Int) + 2))]) (rest := []) hF.fx ((c_J8_newLength_cabcc l E ST hSF Z hSQ σ ((N : Nat) : Int) (m9 - ((N : Nat) : Int)) (((N : Nat) : Int) + 2) (by omega)) _) (va_cwS 3 hts gJ5_newCapacity_0f7a4_J8_newLength_cabcc rfl rfl rfl (by decide +kernel) ⟨Nat.le_of_ble_eq_true rfl, Nat.le_of_ble_eq_true rfl⟩) (hF.pre hH [.int (iZ ((N : Nat) : Int)), .int (iZ (m9 - ((N : Nat) : Int))), .int (iZ (((N : Nat) : Int) + 2))]) rfl rfl hl.1 rfl (lv_room (Nat.le_of_ble_eq_true rfl)) dJ5_newCapacity_0f7a4_29 ⟨Nat.le_of_ble_eq_true rfl, Nat.le_of_ble_eq_true rfl⟩) hH (fun z3 σ1 H locs hp2 hH => ?_)
  obtain ⟨hz4, hu5⟩ := hp2
  rw [hu5] at hH
  refine lv_istore (lv' := [(5, .int (iZ z3)), (4, .int (iZ (m9 - ((N : Nat) : Int)))), (3, .int (iZ m9)), (2, .int (iZ ((N : Nat) : Int))), (0, .ref (xad E b)), (1, .int (iZ m9))]) hx hb dJ5_newCapacity_0f7a4_32 hl (by decide) rfl (fun ls hl => ?_)
  refine lv_iload hx hb dJ5_newCapacity_0f7a4_34 (lv_at hl 0 rfl) ?_
  refine x_ldc (n := 2147483647) hx hb hown (hts _ (List.mem_of_getElem? (i := 3) rfl)) (by decide) dJ5_newCapacity_0f7a4_36 ?_
  refine x_icmp_ne (tgt := 51) hx hb dJ5_newCapacity_0f7a4_38 (by decide) (by omega) (by decide) (fun c38 => ?_) (fun c38 => ?_)
  · refine lv_iload hx hb dJ5_newCapacity_0f7a4_51 (lv_at hl 0 rfl) ?_
    refine lv_aload_n hx hb dJ5_newCapacity_0f7a4_53 rfl (lv_at hl 4 rfl) ?_
    refine x_get hx hb hts hown hK hH b (by omega) hsb hinJ4 rfl 1 (by decide) (List.mem_of_getElem? (i := 2) rfl) rfl dJ5_newCapacity_0f7a4_54 ?_
    refine x_ishr hx hb dJ5_newCapacity_0f7a4_57 ?_
    rw [ishr_0 (x := z3) (by omega) (by omega)]
    subst hQ
    exact x_iret hx hb hr hlocks hH (Nat.le_of_ble_eq_true rfl) (Nat.le_of_ble_eq_true rfl) ⟨(by omega), rfl⟩ dJ5_newCapacity_0f7a4_58
  · exact absurd c38 (by omega)

def rm_J7_copyOf_9075b : Room := { frames := 1, cells := 1, slots := 130, locals := 40 }
set_option maxRecDepth 100000 in
set_option maxHeartbeats 4000000 in
theorem c_J7_copyOf_9075b (l : Launch) (E : xE) (ST : xST) (hSF : SF ST) (Z : zE) (hSQ : SQ Z ST) (σ : xW) (q : Nat) (N : Nat) (M : Nat) (f : Int → Int) (B : BT) (S : Option BT) (Y : lnQ) (hr0 : cw E σ B S Y) (hq : 85 ≤ q ∧ q < 85 + xx E) (hsq : σ q = aY E N f) (hNM : N < M ∧ M ≤ 130) (h7 : lt7 N f) : CR l E ST yJ7_copyOf_9075b wsJ7_copyOf_9075b rm_J7_copyOf_9075b [.ref (xad E q), .int (iZ (M : Int))] σ (fun (Ez : xE) (g : Nat) (u : xW) => xE1 E Ez g ∧ cw Ez u B S Y ∧ u g = aY Ez M (cdZ 0 ((N : Nat) : Int) f (fun _ => 0)) ∧ ∀ j : Nat, 85 ≤ j → j ≠ g → u j = σ j) := by
  have fcw_0 : cw E σ B S Y := hr0
  refine CR_of (by decide) rfl (Nat.le_of_ble_eq_true rfl) ?_
  intro p e s m args below meth c Q ls G hH hl hQ
  obtain ⟨hx, hb, hml, hown, hts, hK, hST, hlocks, hr, hno⟩ := G
  have hOK := hSF.1
  have hown : s.vm.findClass RJ7 = some m.cls := hown
  have hl : lv_has ls 3 [(0, .ref (xad E q)), (1, .int (iZ (M : Int)))] := hl
  have hF : xCf p E ST (xA E s.heap.size) s m args c cJ7_copyOf_9075b 3 wsJ7_copyOf_9075b RJ7 := ⟨hx, hb, hml, hown, hts, hK, hST, hOK⟩
  have hlk9 : meth.locks = false := hlocks
  refine lv_iload_n hx hb dJ7_copyOf_9075b_0 rfl (lv_at hl 1 rfl) ?_
  refine lv_aload_n hx hb dJ7_copyOf_9075b_1 rfl (lv_at hl 0 rfl) ?_
  refine x_yalen hx hb hK hH q (by omega) hsq dJ7_copyOf_9075b_2 ?_
  refine x_icmp_ne (tgt := 14) hx hb dJ7_copyOf_9075b_3 (by decide) (by omega) (by omega) (fun c3 => ?_) (fun c3 => ?_)
  · refine lv_iload_n hx hb dJ7_copyOf_9075b_14 rfl (lv_at hl 1 rfl) ?_
    refine x_newY (n := (M : Int)) (N := M) hx hb hts hK hH fcw_0 (List.mem_of_getElem? (i := 7) rfl) 130 (by omega) (by omega) (by decide) (Nat.le_of_ble_eq_true rfl) (Nat.le_of_ble_eq_true rfl) dJ7_copyOf_9075b_15 (fun E1 g2 σ3 H hE5 hK hH fcw_0 fg2_0 fr4 => ?_)
    have hgg2 := hE5.lt
    have hxxE1 : xx E1 = xx E + 1 := hE5.2.2.2.1
    rw [← (hE5.ad (k := q) (by omega))] at hl
    have hsq : σ3 q = aY E1 N f := ((fr4 q (by omega) (by omega)).trans hsq).trans hE5.aY.symm
    have hF := hF.mv hE5.1 hE5.2.1
    have hK := hF.2.2.2.2.2.1
    refine lv_astore_n (lv' := [(2, .ref (xad E1 g2)), (0, .ref (xad E1 q)), (1, .int (iZ (M : Int)))]) hx hb dJ7_copyOf_9075b_17 rfl hl (by decide) rfl (fun ls hl => ?_)
    refine lv_aload_n hx hb dJ7_copyOf_9075b_18 rfl (lv_at hl 1 rfl) ?_
    refine x_iconst hx hb dJ7_copyOf_9075b_19 ?_
    refine lv_aload_n hx hb dJ7_copyOf_9075b_20 rfl (lv_at hl 0 rfl) ?_
    refine x_iconst hx hb dJ7_copyOf_9075b_21 ?_
    refine lv_aload_n hx hb dJ7_copyOf_9075b_22 rfl (lv_at hl 1 rfl) ?_
    refine x_yalen hx hb hK hH q (by omega) hsq dJ7_copyOf_9075b_23 ?_
    refine lv_iload_n hx hb dJ7_copyOf_9075b_24 rfl (lv_at hl 2 rfl) ?_
    refine x_min hx hb hml hown hts (List.mem_of_getElem? (i := 8) rfl) (List.mem_of_getElem? (i := 9) rfl) (List.mem_of_getElem? (i := 10) rfl) (List.mem_of_getElem? (i := 11) rfl) hl.1 (Nat.le_of_ble_eq_true rfl) (Nat.le_of_ble_eq_true rfl) (Nat.le_of_ble_eq_true rfl) (Nat.le_of_ble_eq_true rfl) (by omega) (by omega) dJ7_copyOf_9075b_25 ?_
    refine x_ycopy hx hb hml hts hown hK hH (List.mem_of_getElem? (i := 12) rfl) (List.mem_of_getElem? (i := 13) rfl) (List.mem_of_getElem? (i := 14) rfl) (List.mem_of_getElem? (i := 15) rfl) q g2 (by omega) (by omega) hsq fg2_0 (n := N) (dn := (0 : Int).toNat) (d := 0) (z := (if (M : Int) < ((N : Nat) : Int) then (M : Int) else ((N : Nat) : Int))) (by rw [if_neg (by omega)]) (by omega) (by omega) (by omega) (by omega) (h7) hl.1 (Nat.le_of_ble_eq_true rfl) (Nat.le_of_ble_eq_true rfl) dJ7_copyOf_9075b_28 (fun σ6 H locs fg2_0 fr7 hH => ?_)
    have fcw_0 := fcw_0.fr (fun j hj9 => fr7 j (by omega))
    have hsq : σ6 q = aY E1 N f := (fr7 q (by omega)).trans hsq
    refine lv_aload_n hx hb dJ7_copyOf_9075b_31 rfl (lv_at hl 0 rfl) ?_
    subst hQ
    exact x_aret (post := (fun (Ez : xE) (g : Nat) (u : xW) => xE1 E Ez g ∧ cw Ez u B S Y ∧ u g = aY Ez M (cdZ 0 ((N : Nat) : Int) f (fun _ => 0)) ∧ ∀ j : Nat, 85 ≤ j → j ≠ g → u j = σ j)) hx hb hr hlocks hH (Nat.le_of_ble_eq_true rfl) (Nat.le_of_ble_eq_true rfl) ⟨hE5, fcw_0, fg2_0, fun j h1 h2 => ((fr7 j (by omega)).trans (fr4 j (by omega) (by omega)))⟩ dJ7_copyOf_9075b_32
  · exact absurd c3 (by omega)

def rm_J7_checkLength_df160 : Room := { frames := 0, cells := 0, slots := 0, locals := 0 }
set_option maxRecDepth 100000 in
set_option maxHeartbeats 4000000 in
theorem c_J7_checkLength_df160 (l : Launch) (E : xE) (ST : xST) (hSF : SF ST) (Z : zE) (hSQ : SQ Z ST) (σ : xW) (x9 : Int) (y9 : Int) (hk : 0 ≤ x9 ∧ x9 ≤ y9 ∧ y9 ≤ 1000) : CV l E ST yJ7_checkLength_df160 wsJ7_checkLength_df160 rm_J7_checkLength_df160 [.int (iZ x9), .int (iZ y9)] σ (fun (u : xW) => u = σ) := by
  refine CV_of (by decide) rfl (Nat.le_of_ble_eq_true rfl) ?_
  intro p e s m args below meth c Q ls G hH hl hQ
  obtain ⟨hx, hb, hml, hown, hts, hK, hST, hlocks, hr, hno⟩ := G
  have hOK := hSF.1
  have hown : s.vm.findClass RJ7 = some m.cls := hown
  have hl : lv_has ls 2 [(0, .int (iZ x9)), (1, .int (iZ y9))] := hl
  have hF : xCf p E ST (xA E s.heap.size) s m args c cJ7_checkLength_df160 2 wsJ7_checkLength_df160 RJ7 := ⟨hx, hb, hml, hown, hts, hK, hST, hOK⟩
  have hlk9 : meth.locks = false := hlocks
  refine lv_iload_n hx hb dJ7_checkLength_df160_0 rfl (lv_at hl 1 rfl) ?_
  refine lv_iload_n hx hb dJ7_checkLength_df160_1 rfl (lv_at hl 0 rfl) ?_
  refine x_icmp_ge (tgt := 37) hx hb dJ7_checkLength_df160_2 (by decide) (by omega) (by omega) (fun c2 => ?_) (fun c2 => ?_)
  · subst hQ
    exact x_vret hx hb hr hlocks hH (Nat.le_of_ble_eq_true rfl) (Nat.le_of_ble_eq_true rfl) rfl dJ7_checkLength_df160_37
  · exact absurd c2 (by omega)

def rm_J7_copyOfRangeByte_39247 : Room := { frames := 1, cells := 1, slots := 130, locals := 40 }
set_option maxRecDepth 100000 in
set_option maxHeartbeats 4000000 in
theorem c_J7_copyOfRangeByte_39247 (l : Launch) (E : xE) (ST : xST) (hSF : SF ST) (Z : zE) (hSQ : SQ Z ST) (σ : xW) (q : Nat) (N : Nat) (ml : Nat) (f : Int → Int) (B : BT) (S : Option BT) (Y : lnQ) (hr0 : cw E σ B S Y) (hq : 85 ≤ q ∧ q < 85 + xx E) (hsq : σ q = aY E N f) (hNM : ml ≤ N ∧ N ≤ 130) (h7 : lt7 N f) : CR l E ST yJ7_copyOfRangeByte_39247 wsJ7_copyOfRangeByte_39247 rm_J7_copyOfRangeByte_39247 [.ref (xad E q), .int (iZ 0), .int (iZ (ml : Int))] σ (fun (Ez : xE) (g : Nat) (u : xW) => xE1 E Ez g ∧ cw Ez u B S Y ∧ u g = aY Ez ml (cdZ 0 ((ml : Nat) : Int) f (fun _ => 0)) ∧ ∀ j : Nat, 85 ≤ j → j ≠ g → u j = σ j) := by
  have fcw_0 : cw E σ B S Y := hr0
  refine CR_of (by decide) rfl (Nat.le_of_ble_eq_true rfl) ?_
  intro p e s m args below meth c Q ls G hH hl hQ
  obtain ⟨hx, hb, hml, hown, hts, hK, hST, hlocks, hr, hno⟩ := G
  have hOK := hSF.1
  have hown : s.vm.findClass RJ7 = some m.cls := hown
  have hl : lv_has ls 5 [(0, .ref (xad E q)), (1, .int (iZ 0)), (2, .int (iZ (ml : Int)))] := hl
  have hF : xCf p E ST (xA E s.heap.size) s m args c cJ7_copyOfRangeByte_39247 5 wsJ7_copyOfRangeByte_39247 RJ7 := ⟨hx, hb, hml, hown, hts, hK, hST, hOK⟩
  have hlk9 : meth.locks = false := hlocks
  refine lv_iload_n hx hb dJ7_copyOfRangeByte_39247_0 rfl (lv_at hl 1 rfl) ?_
  refine lv_iload_n hx hb dJ7_copyOfRangeByte_39247_1 rfl (lv_at hl 2 rfl) ?_
  refine x_aftV (va_runS (As := [.int (iZ 0), .int (iZ (ml : Int))]) (rest := []) hF.fx ((c_J7_checkLength_df160 l E ST hSF Z hSQ σ 0 (ml : Int) (by omega)) _) (va_cwS 2 hts gJ7_copyOfRangeByte_39247_J7_checkLength_df160 rfl rfl rfl (by decide +kernel) ⟨Nat.le_of_ble_eq_true rfl, Nat.le_of_ble_eq_true rfl⟩) (hF.pre hH [.int (iZ 0), .int (iZ (ml : Int))]) rfl rfl hl.1 rfl (lv_room (Nat.le_of_ble_eq_true rfl)) dJ7_copyOfRangeByte_39247_2 ⟨Nat.le_of_ble_eq_true rfl, Nat.le_of_ble_eq_true rfl⟩) hH (fun σ1 H locs hp2 hH => ?_)
  rw [hp2] at hH
  refine lv_iload_n hx hb dJ7_copyOfRangeByte_39247_5 rfl (lv_at hl 2 rfl) ?_
  refine lv_iload_n hx hb dJ7_copyOfRangeByte_39247_6 rfl (lv_at hl 1 rfl) ?_
  refine x_isub hx hb dJ7_copyOfRangeByte_39247_7 ?_
  refine lv_istore_n (lv' := [(3, .int (iZ ((ml : Int) - 0))), (0, .ref (xad E q)), (1, .int (iZ 0)), (2, .int (iZ (ml : Int)))]) hx hb dJ7_copyOfRangeByte_39247_8 rfl hl (by decide) rfl (fun ls hl => ?_)
  refine lv_iload_n hx hb dJ7_copyOfRangeByte_39247_9 rfl (lv_at hl 0 rfl) ?_
  refine x_newY (n := (ml : Int) - 0) (N := ml) hx hb hts hK hH fcw_0 (List.mem_of_getElem? (i := 1) rfl) 130 (by omega) (by omega) (by decide) (Nat.le_of_ble_eq_true rfl) (Nat.le_of_ble_eq_true rfl) dJ7_copyOfRangeByte_39247_10 (fun E3 g4 σ5 H hE7 hK hH fcw_0 fg4_0 fr6 => ?_)
  have hgg4 := hE7.lt
  have hxxE3 : xx E3 = xx E + 1 := hE7.2.2.2.1
  rw [← (hE7.ad (k := q) (by omega))] at hl
  have hsq : σ5 q = aY E3 N f := ((fr6 q (by omega) (by omega)).trans hsq).trans hE7.aY.symm
  have hF := hF.mv hE7.1 hE7.2.1
  have hK := hF.2.2.2.2.2.1
  refine lv_astore (lv' := [(4, .ref (xad E3 g4)), (3, .int (iZ ((ml : Int) - 0))), (0, .ref (xad E3 q)), (1, .int (iZ 0)), (2, .int (iZ (ml : Int)))]) hx hb dJ7_copyOfRangeByte_39247_12 hl (by decide) rfl (fun ls hl => ?_)
  refine lv_aload_n hx hb dJ7_copyOfRangeByte_39247_14 rfl (lv_at hl 2 rfl) ?_
  refine lv_iload_n hx hb dJ7_copyOfRangeByte_39247_15 rfl (lv_at hl 3 rfl) ?_
  refine lv_aload hx hb dJ7_copyOfRangeByte_39247_16 (lv_at hl 0 rfl) ?_
  refine x_iconst hx hb dJ7_copyOfRangeByte_39247_18 ?_
  refine lv_aload_n hx hb dJ7_copyOfRangeByte_39247_19 rfl (lv_at hl 2 rfl) ?_
  refine x_yalen hx hb hK hH q (by omega) hsq dJ7_copyOfRangeByte_39247_20 ?_
  refine lv_iload_n hx hb dJ7_copyOfRangeByte_39247_21 rfl (lv_at hl 3 rfl) ?_
  refine x_isub hx hb dJ7_copyOfRangeByte_39247_22 ?_
  refine lv_iload_n hx hb dJ7_copyOfRangeByte_39247_23 rfl (lv_at hl 1 rfl) ?_
  refine x_min hx hb hml hown hts (List.mem_of_getElem? (i := 2) rfl) (List.mem_of_getElem? (i := 3) rfl) (List.mem_of_getElem? (i := 4) rfl) (List.mem_of_getElem? (i := 5) rfl) hl.1 (Nat.le_of_ble_eq_true rfl) (Nat.le_of_ble_eq_true rfl) (Nat.le_of_ble_eq_true rfl) (Nat.le_of_ble_eq_true rfl) (by omega) (by omega) dJ7_copyOfRangeByte_39247_24 ?_
  refine x_ycopy hx hb hml hts hown hK hH (List.mem_of_getElem? (i := 6) rfl) (List.mem_of_getElem? (i := 7) rfl) (List.mem_of_getElem? (i := 8) rfl) (List.mem_of_getElem? (i := 9) rfl) q g4 (by omega) (by omega) hsq fg4_0 (n := ml) (dn := (0 : Int).toNat) (d := 0) (z := (if ((ml : Int) - 0) < (((N : Nat) : Int) - 0) then ((ml : Int) - 0) else (((N : Nat) : Int) - 0))) (by split <;> omega) (by omega) (by omega) (by omega) (by omega) (fun j h8 h9 => h7 j h8 (by omega)) hl.1 (Nat.le_of_ble_eq_true rfl) (Nat.le_of_ble_eq_true rfl) dJ7_copyOfRangeByte_39247_27 (fun σ8 H locs fg4_0 fr9 hH => ?_)
  have fcw_0 := fcw_0.fr (fun j hj9 => fr9 j (by omega))
  have hsq : σ8 q = aY E3 N f := (fr9 q (by omega)).trans hsq
  refine lv_aload hx hb dJ7_copyOfRangeByte_39247_30 (lv_at hl 0 rfl) ?_
  subst hQ
  exact x_aret (post := (fun (Ez : xE) (g : Nat) (u : xW) => xE1 E Ez g ∧ cw Ez u B S Y ∧ u g = aY Ez ml (cdZ 0 ((ml : Nat) : Int) f (fun _ => 0)) ∧ ∀ j : Nat, 85 ≤ j → j ≠ g → u j = σ j)) hx hb hr hlocks hH (Nat.le_of_ble_eq_true rfl) (Nat.le_of_ble_eq_true rfl) ⟨hE7, fcw_0, fg4_0, fun j h1 h2 => ((fr9 j (by omega)).trans (fr6 j (by omega) (by omega)))⟩ dJ7_copyOfRangeByte_39247_32

def rm_J7_copyOfRange_39247 : Room := { frames := 2, cells := 1, slots := 130, locals := 64 }
set_option maxRecDepth 100000 in
set_option maxHeartbeats 4000000 in
theorem c_J7_copyOfRange_39247 (l : Launch) (E : xE) (ST : xST) (hSF : SF ST) (Z : zE) (hSQ : SQ Z ST) (σ : xW) (q : Nat) (N : Nat) (ml : Nat) (f : Int → Int) (B : BT) (S : Option BT) (Y : lnQ) (hr0 : cw E σ B S Y) (hq : 85 ≤ q ∧ q < 85 + xx E) (hsq : σ q = aY E N f) (hNM : ml ≤ N ∧ N ≤ 130) (h7 : lt7 N f) : CR l E ST yJ7_copyOfRange_39247 wsJ7_copyOfRange_39247 rm_J7_copyOfRange_39247 [.ref (xad E q), .int (iZ 0), .int (iZ (ml : Int))] σ (fun (Ez : xE) (g : Nat) (u : xW) => xE1 E Ez g ∧ cw Ez u B S Y ∧ (∃ F : Int → Int, u g = aY Ez ml F ∧ lt7 ml F ∧ ∀ j : Int, 0 ≤ j → j < ml → F j = f j) ∧ ∀ j : Nat, 85 ≤ j → j ≠ g → u j = σ j) := by
  have fcw_0 : cw E σ B S Y := hr0
  refine CR_of (by decide) rfl (Nat.le_of_ble_eq_true rfl) ?_
  intro p e s m args below meth c Q ls G hH hl hQ
  obtain ⟨hx, hb, hml, hown, hts, hK, hST, hlocks, hr, hno⟩ := G
  have hOK := hSF.1
  have hown : s.vm.findClass RJ7 = some m.cls := hown
  have hl : lv_has ls 3 [(0, .ref (xad E q)), (1, .int (iZ 0)), (2, .int (iZ (ml : Int)))] := hl
  have hF : xCf p E ST (xA E s.heap.size) s m args c cJ7_copyOfRange_39247 3 wsJ7_copyOfRange_39247 RJ7 := ⟨hx, hb, hml, hown, hts, hK, hST, hOK⟩
  have hlk9 : meth.locks = false := hlocks
  refine lv_iload_n hx hb dJ7_copyOfRange_39247_0 rfl (lv_at hl 1 rfl) ?_
  refine x_if_ne (tgt := 10) hx hb dJ7_copyOfRange_39247_1 (by decide) (by decide) (fun c1 => ?_) (fun c1 => ?_)
  · exact absurd c1 (by decide)
  · refine lv_iload_n hx hb dJ7_copyOfRange_39247_4 rfl (lv_at hl 2 rfl) ?_
    refine lv_aload_n hx hb dJ7_copyOfRange_39247_5 rfl (lv_at hl 0 rfl) ?_
    refine x_yalen hx hb hK hH q (by omega) hsq dJ7_copyOfRange_39247_6 ?_
    refine x_icmp_eq (tgt := 17) hx hb dJ7_copyOfRange_39247_7 (by decide) (by omega) (by omega) (fun c7 => ?_) (fun c7 => ?_)
    · refine lv_aload_n hx hb dJ7_copyOfRange_39247_17 rfl (lv_at hl 0 rfl) ?_
      refine x_clone hx hb hml hts hown hK hSQ hST hH fcw_0 (List.mem_of_getElem? (i := 1) rfl) (List.mem_of_getElem? (i := 2) rfl) (List.mem_of_getElem? (i := 3) rfl) (List.mem_of_getElem? (i := 4) rfl) (List.mem_of_getElem? (i := 5) rfl) q (by omega) 130 hsq (by omega) h7 hl.1 (Nat.le_of_ble_eq_true rfl) (Nat.le_of_ble_eq_true rfl) (Nat.le_of_ble_eq_true rfl) (Nat.le_of_ble_eq_true rfl) dJ7_copyOfRange_39247_18 (fun E1 g2 σ3 H hE5 hK hH fcw_0 fg2_0 fr4 => ?_)
      have hgg2 := hE5.lt
      have hxxE1 : xx E1 = xx E + 1 := hE5.2.2.2.1
      rw [← (hE5.ad (k := q) (by omega))] at hl
      have hsq : σ3 q = aY E1 N f := ((fr4 q (by omega) (by omega)).trans hsq).trans hE5.aY.symm
      have hF := hF.mv hE5.1 hE5.2.1
      have hK := hF.2.2.2.2.2.1
      refine x_castB hx hb hts hown hK hH (List.mem_of_getElem? (i := 6) rfl) g2 (by omega) fg2_0 dJ7_copyOfRange_39247_21 ?_
      subst hQ
      exact x_aret (post := (fun (Ez : xE) (g : Nat) (u : xW) => xE1 E Ez g ∧ cw Ez u B S Y ∧ (∃ F : Int → Int, u g = aY Ez ml F ∧ lt7 ml F ∧ ∀ j : Int, 0 ≤ j → j < ml → F j = f j) ∧ ∀ j : Nat, 85 ≤ j → j ≠ g → u j = σ j)) hx hb hr hlocks hH (Nat.le_of_ble_eq_true rfl) (Nat.le_of_ble_eq_true rfl) ⟨hE5, fcw_0, ⟨f, (by have e9 : N = ml := (by omega); rw [← e9]; exact fg2_0), (fun j h8 h9 => h7 j h8 (by omega)), fun j h8 h9 => rfl⟩, fun j h1 h2 => (fr4 j (by omega) (by omega))⟩ dJ7_copyOfRange_39247_24
    · refine lv_aload_n hx hb dJ7_copyOfRange_39247_10 rfl (lv_at hl 0 rfl) ?_
      refine lv_iload_n hx hb dJ7_copyOfRange_39247_11 rfl (lv_at hl 1 rfl) ?_
      refine lv_iload_n hx hb dJ7_copyOfRange_39247_12 rfl (lv_at hl 2 rfl) ?_
      refine x_aftR (c_J7_copyOfRangeByte_39247 l E ST hSF Z hSQ σ q N ml f B S Y fcw_0 (by omega) hsq (by omega) h7) (va_runS (As := [.ref (xad E q), .int (iZ 0), .int (iZ (ml : Int))]) (rest := []) hF.fx ((c_J7_copyOfRangeByte_39247 l E ST hSF Z hSQ σ q N ml f B S Y fcw_0 (by omega) hsq (by omega) h7) _) (va_cwS 3 hts gJ7_copyOfRange_39247_J7_copyOfRangeByte_39247 rfl rfl rfl (by decide +kernel) ⟨Nat.le_of_ble_eq_true rfl, Nat.le_of_ble_eq_true rfl⟩) (hF.pre hH [.ref (xad E q), .int (iZ 0), .int (iZ (ml : Int))]) rfl rfl hl.1 rfl (lv_room (Nat.le_of_ble_eq_true rfl)) dJ7_copyOfRange_39247_13 ⟨Nat.le_of_ble_eq_true rfl, Nat.le_of_ble_eq_true rfl⟩) hH (fun E8 g9 σ6 H locs hp7 hH => ?_)
      obtain ⟨hE10, fcw_0, fg9_0, fr11⟩ := hp7
      have hgg9 := hE10.lt
      have hxxE8 : xx E8 = xx E + 1 := hE10.2.2.2.1
      rw [← (hE10.ad (k := q) (by omega))] at hl
      have hsq : σ6 q = aY E8 N f := ((fr11 q (by omega) (by omega)).trans hsq).trans hE10.aY.symm
      have hF := hF.mv hE10.1 hE10.2.1
      have hK := hF.2.2.2.2.2.1
      subst hQ
      exact x_aret (post := (fun (Ez : xE) (g : Nat) (u : xW) => xE1 E Ez g ∧ cw Ez u B S Y ∧ (∃ F : Int → Int, u g = aY Ez ml F ∧ lt7 ml F ∧ ∀ j : Int, 0 ≤ j → j < ml → F j = f j) ∧ ∀ j : Nat, 85 ≤ j → j ≠ g → u j = σ j)) hx hb hr hlocks hH (Nat.le_of_ble_eq_true rfl) (Nat.le_of_ble_eq_true rfl) ⟨hE10, fcw_0, ⟨_, fg9_0, lt7_cd lt7_0 (fun j h8 h9 => h7 j h8 (by omega)), fun j h8 h9 => cd_0 h8 h9⟩, fun j h1 h2 => (fr11 j (by omega) (by omega))⟩ dJ7_copyOfRange_39247_16

def rm_J5_ensureCapacityInternal_d00df : Room := { frames := 3, cells := 1, slots := 130, locals := 72 }
set_option maxRecDepth 100000 in
set_option maxHeartbeats 4000000 in
theorem c_J5_ensureCapacityInternal_d00df (l : Launch) (E : xE) (ST : xST) (hSF : SF ST) (Z : zE) (hSQ : SQ Z ST) (σ : xW) (b : Nat) (r : Nat) (N : Nat) (n : Int) (m9 : Int) (G : Int → Int) (B : BT) (S : Option BT) (Y : lnQ) (hr0 : cw E σ B S Y) (hbr : 85 ≤ b ∧ b < 85 + xx E ∧ 85 ≤ r ∧ r < 85 + xx E ∧ ¬ b = r) (hsb : σ b = oSb E r n) (hsr : σ r = aY E N G) (hnN : 0 ≤ n ∧ n ≤ N ∧ N ≤ 130) (h7 : lt7 N G) (hm : n ≤ m9 ∧ m9 ≤ 64) : CG l E ST yJ5_ensureCapacityInternal_d00df wsJ5_ensureCapacityInternal_d00df rm_J5_ensureCapacityInternal_d00df [.ref (xad E b), .int (iZ m9)] σ (fun (Ez : xE) (u : xW) => sbP E σ B S Y b r n m9 G Ez u) := by
  have fcw_0 : cw E σ B S Y := hr0
  refine CG_of (by decide) rfl (Nat.le_of_ble_eq_true rfl) ?_
  intro p e s m args below meth c Q ls G hname hH hl hQ
  obtain ⟨hx, hb, hml, hown, hts, hK, hST, hlocks, hr, hno⟩ := G
  have hOK := hSF.1
  have hown : s.vm.findClass RJ5 = some m.cls := hown
  have hl : lv_has ls 3 [(0, .ref (xad E b)), (1, .int (iZ m9))] := hl
  have hinJ4 : ∀ w ∈ u_ws RJ4 TJ4 4, w ∈ wsJ5_ensureCapacityInternal_d00df := fun w h => (List.mem_cons_of_mem _ (List.mem_append_right _ h))
  have hF : xCf p E ST (xA E s.heap.size) s m args c cJ5_ensureCapacityInternal_d00df 3 wsJ5_ensureCapacityInternal_d00df RJ5 := ⟨hx, hb, hml, hown, hts, hK, hST, hOK⟩
  have hlk9 : meth.locks = false := hlocks
  refine lv_aload_n hx hb dJ5_ensureCapacityInternal_d00df_0 rfl (lv_at hl 0 rfl) ?_
  refine x_get hx hb hts hown hK hH b (by omega) hsb hinJ4 rfl 0 (by decide) (List.mem_of_getElem? (i := 1) rfl) rfl dJ5_ensureCapacityInternal_d00df_1 ?_
  refine x_yalen hx hb hK hH r (by omega) hsr dJ5_ensureCapacityInternal_d00df_4 ?_
  refine lv_aload_n hx hb dJ5_ensureCapacityInternal_d00df_5 rfl (lv_at hl 0 rfl) ?_
  refine x_get hx hb hts hown hK hH b (by omega) hsb hinJ4 rfl 1 (by decide) (List.mem_of_getElem? (i := 2) rfl) rfl dJ5_ensureCapacityInternal_d00df_6 ?_
  refine x_ishr hx hb dJ5_ensureCapacityInternal_d00df_9 ?_
  rw [ishr_0 (x := ((N : Nat) : Int)) (by omega) (by omega)]
  refine lv_istore_n (lv' := [(2, .int (iZ ((N : Nat) : Int))), (0, .ref (xad E b)), (1, .int (iZ m9))]) hx hb dJ5_ensureCapacityInternal_d00df_10 rfl hl (by decide) rfl (fun ls hl => ?_)
  refine lv_iload_n hx hb dJ5_ensureCapacityInternal_d00df_11 rfl (lv_at hl 2 rfl) ?_
  refine lv_iload_n hx hb dJ5_ensureCapacityInternal_d00df_12 rfl (lv_at hl 0 rfl) ?_
  refine x_isub hx hb dJ5_ensureCapacityInternal_d00df_13 ?_
  refine x_if_le (tgt := 38) hx hb dJ5_ensureCapacityInternal_d00df_14 (by decide) (by omega) (fun c14 => ?_) (fun c14 => ?_)
  · subst hQ
    exact x_gret (post := (fun (Ez : xE) (u : xW) => sbP E σ B S Y b r n m9 G Ez u)) hx hb hr hlocks hH (Nat.le_of_ble_eq_true rfl) (Nat.le_of_ble_eq_true rfl) ⟨xER.rf, fcw_0, hsb, ⟨N, G, hsr, by omega, by omega, h7, fun _ _ _ => rfl⟩, fun j h1 h2 h3 h4 => rfl⟩ dJ5_ensureCapacityInternal_d00df_38
  · refine lv_aload_n hx hb dJ5_ensureCapacityInternal_d00df_17 rfl (lv_at hl 1 rfl) ?_
    refine lv_aload_n hx hb dJ5_ensureCapacityInternal_d00df_18 rfl (lv_at hl 1 rfl) ?_
    refine x_get hx hb hts hown hK hH b (by omega) hsb hinJ4 rfl 0 (by decide) (List.mem_of_getElem? (i := 1) rfl) rfl dJ5_ensureCapacityInternal_d00df_19 ?_
    refine lv_aload_n hx hb dJ5_ensureCapacityInternal_d00df_22 rfl (lv_at hl 1 rfl) ?_
    refine lv_iload_n hx hb dJ5_ensureCapacityInternal_d00df_23 rfl (lv_at hl 2 rfl) ?_
    refine x_aftI (va_runU (As := [.int (iZ m9)]) (rest := [.ref (xad E r), .ref (xad E b)]) hF.fx ((c_J5_newCapacity_0f7a4 l E ST hSF Z hSQ σ b r N n m9 G (by omega) (by omega) hsb hsr (by omega)) _) (va_cwU 1 hts gJ5_ensureCapacityInternal_d00df_J5_newCapacity_0f7a4_u104J4 rfl rfl rfl rfl (by decide +kernel) ⟨Nat.le_of_ble_eq_true rfl, Nat.le_of_ble_eq_true rfl⟩) (hF.prv hH (hF.rcv hH (k0 := b) (by omega) hsb rfl) [.int (iZ m9)]) rfl rfl hl.1 rfl (lv_room (Nat.le_of_ble_eq_true rfl)) dJ5_ensureCapacityInternal_d00df_24 ⟨Nat.le_of_ble_eq_true rfl, Nat.le_of_ble_eq_true rfl⟩) hH (fun z3 σ1 H locs hp2 hH => ?_)
    obtain ⟨hz4, hu5⟩ := hp2
    rw [hu5] at hH
    refine lv_aload_n hx hb dJ5_ensureCapacityInternal_d00df_27 rfl (lv_at hl 1 rfl) ?_
    refine x_get hx hb hts hown hK hH b (by omega) hsb hinJ4 rfl 1 (by decide) (List.mem_of_getElem? (i := 2) rfl) rfl dJ5_ensureCapacityInternal_d00df_28 ?_
    refine x_ishl hx hb dJ5_ensureCapacityInternal_d00df_31 ?_
    rw [ishl_0 (x := z3) (by omega) (by omega)]
    obtain ⟨M9, hM9⟩ : ∃ M9 : Nat, z3 = (M9 : Int) := ⟨(z3).toNat, by omega⟩
    subst hM9
    refine x_aftR (c_J7_copyOf_9075b l E ST hSF Z hSQ σ r N M9 G B S Y fcw_0 (by omega) hsr (by omega) h7) (va_runS (As := [.ref (xad E r), .int (iZ (M9 : Int))]) (rest := [.ref (xad E b)]) hF.fx ((c_J7_copyOf_9075b l E ST hSF Z hSQ σ r N M9 G B S Y fcw_0 (by omega) hsr (by omega) h7) _) (va_cwS 2 hts gJ5_ensureCapacityInternal_d00df_J7_copyOf_9075b rfl rfl rfl (by decide +kernel) ⟨Nat.le_of_ble_eq_true rfl, Nat.le_of_ble_eq_true rfl⟩) (hF.pre hH [.ref (xad E r), .int (iZ (M9 : Int))]) rfl rfl hl.1 rfl (lv_room (Nat.le_of_ble_eq_true rfl)) dJ5_ensureCapacityInternal_d00df_32 ⟨Nat.le_of_ble_eq_true rfl, Nat.le_of_ble_eq_true rfl⟩) hH (fun E8 g9 σ6 H locs hp7 hH => ?_)
    obtain ⟨hE10, fcw_0, fg9_0, fr11⟩ := hp7
    have hgg9 := hE10.lt
    have hxxE8 : xx E8 = xx E + 1 := hE10.2.2.2.1
    rw [← (hE10.ad (k := b) (by omega))] at hl
    rw [← (hE10.ad (k := b) (by omega))] at ⊢
    have hsb : σ6 b = oB 6 [.ref (xad E8 r), .int (iZ 0), .int (iZ 0), .int (iZ n)] := (by rw [(fr11 b (by omega) (by omega)), hsb, (hE10.ad (k := r) (by omega))])
    have hsr : σ6 r = aY E8 N G := ((fr11 r (by omega) (by omega)).trans hsr).trans hE10.aY.symm
    have hF := hF.mv hE10.1 hE10.2.1
    have hK := hF.2.2.2.2.2.1
    refine x_put (fs' := [.ref (xad E8 g9), .int (iZ 0), .int (iZ 0), .int (iZ n)]) hx hb hts hown hK hH b (by omega) hsb hinJ4 rfl tyJ4 tyJ4_ok nmJ4 0 (by decide) (List.mem_of_getElem? (i := 1) rfl) rfl (ty := (.array .byte)) (by decide +kernel) rfl rfl (Nat.le_of_ble_eq_true rfl) rfl dJ5_ensureCapacityInternal_d00df_35 (fun σ12 H locs hsb fr13 hH => ?_)
    have fcw_0 := fcw_0.fr (fun j hj9 => fr13 j (by omega))
    have hsr : σ12 r = aY E8 N G := (fr13 r (by omega)).trans hsr
    have fg9_0 : σ12 g9 = aY E8 M9 (cdZ 0 ((N : Nat) : Int) G (fun _ => 0)) := (fr13 g9 (by omega)).trans fg9_0
    obtain ⟨E5, v9, q1, q2, hH, fcw_0, q3, q4⟩ := Hx.swap hE10 (r := r) (by omega) fcw_0 hH
    subst hQ
    exact x_gret (post := (fun (Ez : xE) (u : xW) => sbP E σ B S Y b r n m9 G Ez u)) hx hb hr hlocks hH (Nat.le_of_ble_eq_true rfl) (Nat.le_of_ble_eq_true rfl) ⟨q1, fcw_0, (q4 b (by omega) (by omega) (by omega)).trans (hsb.trans (congrArg (fun q => oB 6 [.ref q, .int (iZ 0), .int (iZ 0), .int (iZ n)]) q2.symm)), ⟨_, _, q3.trans (fg9_0.trans (hE10.aY.trans q1.aY.symm)), by omega, by omega, lt7_cd lt7_0 h7, fun j h8 h9 => cd_0 h8 (by omega)⟩, fun j h1 h2 h3 h4 => (q4 j h1 h2 h4).trans (((fr13 j (by omega)).trans (fr11 j (by omega) (by omega))))⟩ dJ5_ensureCapacityInternal_d00df_38

def rm_J5_inflateIfNeededFor_a7421 : Room := { frames := 1, cells := 0, slots := 0, locals := 20 }
set_option maxRecDepth 100000 in
set_option maxHeartbeats 4000000 in
theorem c_J5_inflateIfNeededFor_a7421 (l : Launch) (E : xE) (ST : xST) (hSF : SF ST) (Z : zE) (hSQ : SQ Z ST) (σ : xW) (b : Nat) (r : Nat) (n : Int) (i : Int) (hbb : b < 85 + xx E) (hsb : σ b = oSb E r n) (h0 : 0 ≤ i) (h1 : i < 6) : CV l E ST yJ5_inflateIfNeededFor_a7421 wsJ5_inflateIfNeededFor_a7421 rm_J5_inflateIfNeededFor_a7421 [.ref (xad E b), .ref (zK Z i)] σ (fun (u : xW) => u = σ) := by
  refine CV_of (by decide) rfl (Nat.le_of_ble_eq_true rfl) ?_
  intro p e s m args below meth c Q ls G hH hl hQ
  obtain ⟨hx, hb, hml, hown, hts, hK, hST, hlocks, hr, hno⟩ := G
  have hOK := hSF.1
  have hown : s.vm.findClass RJ5 = some m.cls := hown
  have hl : lv_has ls 2 [(0, .ref (xad E b)), (1, .ref (zK Z i))] := hl
  have hinJ4 : ∀ w ∈ u_ws RJ4 TJ4 4, w ∈ wsJ5_inflateIfNeededFor_a7421 := fun w h => (List.mem_cons_of_mem _ (List.mem_append_left _ (List.mem_append_right _ h)))
  have hF : xCf p E ST (xA E s.heap.size) s m args c cJ5_inflateIfNeededFor_a7421 2 wsJ5_inflateIfNeededFor_a7421 RJ5 := ⟨hx, hb, hml, hown, hts, hK, hST, hOK⟩
  have hlk9 : meth.locks = false := hlocks
  refine x_gcs hx hb hSQ hST hH hown hts (List.mem_of_getElem? (i := 1) rfl) dJ5_inflateIfNeededFor_a7421_0 ?_
  refine x_if_eq (tgt := 21) hx hb dJ5_inflateIfNeededFor_a7421_3 (by decide) (by decide) (fun c3 => ?_) (fun c3 => ?_)
  · exact absurd c3 (by decide)
  · refine lv_aload_n hx hb dJ5_inflateIfNeededFor_a7421_6 rfl (lv_at hl 0 rfl) ?_
    refine x_get hx hb hts hown hK hH b (by omega) hsb hinJ4 rfl 1 (by decide) (List.mem_of_getElem? (i := 2) rfl) rfl dJ5_inflateIfNeededFor_a7421_7 ?_
    refine lv_aload_n hx hb dJ5_inflateIfNeededFor_a7421_10 rfl (lv_at hl 1 rfl) ?_
    refine x_aftI (va_runV (As := []) (rest := [.int (iZ 0)]) hF.fx ((c_J0_coder_7d493 l E ST hSF Z hSQ σ i (by omega) (by omega)) _) (cwV 0 hts gJ5_inflateIfNeededFor_a7421_J0_coder_7d493 rfl rfl rfl (by decide +kernel) ⟨Nat.le_of_ble_eq_true rfl, Nat.le_of_ble_eq_true rfl⟩) (hF.prv hH (x_recS hSQ hST hH (i := i) (by omega) (by omega)) []) rfl rfl hl.1 rfl (lv_room (Nat.le_of_ble_eq_true rfl)) dJ5_inflateIfNeededFor_a7421_11 ⟨Nat.le_of_ble_eq_true rfl, Nat.le_of_ble_eq_true rfl⟩) hH (fun z3 σ1 H locs hp2 hH => ?_)
    obtain ⟨hz4, hu5⟩ := hp2
    rw [hu5] at hH
    rw [hz4]
    refine x_icmp_eq (tgt := 21) hx hb dJ5_inflateIfNeededFor_a7421_14 (by decide) (by decide) (by decide) (fun c14 => ?_) (fun c14 => ?_)
    · subst hQ
      exact x_vret hx hb hr hlocks hH (Nat.le_of_ble_eq_true rfl) (Nat.le_of_ble_eq_true rfl) rfl dJ5_inflateIfNeededFor_a7421_21
    · exact absurd c14 (by decide)

def rm_J5_inflateIfNeededFor_d : Room := { frames := 1, cells := 0, slots := 0, locals := 20 }
set_option maxRecDepth 100000 in
set_option maxHeartbeats 4000000 in
theorem c_J5_inflateIfNeededFor_d (l : Launch) (E : xE) (ST : xST) (hSF : SF ST) (Z : zE) (hSQ : SQ Z ST) (σ : xW) (b : Nat) (r : Nat) (k : Nat) (q : Nat) (n : Int) (hbb : b < 85 + xx E) (hsb : σ b = oSb E r n) (hkk : k < 85 + xx E) (hst : σ k = oSt E q) : CV l E ST yJ5_inflateIfNeededFor_a7421 wsJ5_inflateIfNeededFor_a7421 rm_J5_inflateIfNeededFor_d [.ref (xad E b), .ref (xad E k)] σ (fun (u : xW) => u = σ) := by
  refine CV_of (by decide) rfl (Nat.le_of_ble_eq_true rfl) ?_
  intro p e s m args below meth c Q ls G hH hl hQ
  obtain ⟨hx, hb, hml, hown, hts, hK, hST, hlocks, hr, hno⟩ := G
  have hOK := hSF.1
  have hown : s.vm.findClass RJ5 = some m.cls := hown
  have hl : lv_has ls 2 [(0, .ref (xad E b)), (1, .ref (xad E k))] := hl
  have hinJ4 : ∀ w ∈ u_ws RJ4 TJ4 4, w ∈ wsJ5_inflateIfNeededFor_a7421 := fun w h => (List.mem_cons_of_mem _ (List.mem_append_left _ (List.mem_append_right _ h)))
  have hF : xCf p E ST (xA E s.heap.size) s m args c cJ5_inflateIfNeededFor_a7421 2 wsJ5_inflateIfNeededFor_a7421 RJ5 := ⟨hx, hb, hml, hown, hts, hK, hST, hOK⟩
  have hlk9 : meth.locks = false := hlocks
  refine x_gcs hx hb hSQ hST hH hown hts (List.mem_of_getElem? (i := 1) rfl) dJ5_inflateIfNeededFor_a7421_0 ?_
  refine x_if_eq (tgt := 21) hx hb dJ5_inflateIfNeededFor_a7421_3 (by decide) (by decide) (fun c3 => ?_) (fun c3 => ?_)
  · exact absurd c3 (by decide)
  · refine lv_aload_n hx hb dJ5_inflateIfNeededFor_a7421_6 rfl (lv_at hl 0 rfl) ?_
    refine x_get hx hb hts hown hK hH b (by omega) hsb hinJ4 rfl 1 (by decide) (List.mem_of_getElem? (i := 2) rfl) rfl dJ5_inflateIfNeededFor_a7421_7 ?_
    refine lv_aload_n hx hb dJ5_inflateIfNeededFor_a7421_10 rfl (lv_at hl 1 rfl) ?_
    refine x_aftI (va_runV (As := []) (rest := [.int (iZ 0)]) hF.fx ((c_J0_coder_d l E ST hSF Z hSQ σ k q (by omega) hst) _) (cwV 0 hts gJ5_inflateIfNeededFor_a7421_J0_coder_7d493 rfl rfl rfl (by decide +kernel) ⟨Nat.le_of_ble_eq_true rfl, Nat.le_of_ble_eq_true rfl⟩) (hF.prv hH (hF.rcv hH (k0 := k) (by omega) hst rfl) []) rfl rfl hl.1 rfl (lv_room (Nat.le_of_ble_eq_true rfl)) dJ5_inflateIfNeededFor_a7421_11 ⟨Nat.le_of_ble_eq_true rfl, Nat.le_of_ble_eq_true rfl⟩) hH (fun z3 σ1 H locs hp2 hH => ?_)
    obtain ⟨hz4, hu5⟩ := hp2
    rw [hu5] at hH
    rw [hz4]
    refine x_icmp_eq (tgt := 21) hx hb dJ5_inflateIfNeededFor_a7421_14 (by decide) (by decide) (by decide) (fun c14 => ?_) (fun c14 => ?_)
    · subst hQ
      exact x_vret hx hb hr hlocks hH (Nat.le_of_ble_eq_true rfl) (Nat.le_of_ble_eq_true rfl) rfl dJ5_inflateIfNeededFor_a7421_21
    · exact absurd c14 (by decide)

def rm_J0_getBytes_840e7 : Room := { frames := 1, cells := 0, slots := 0, locals := 40 }
set_option maxRecDepth 100000 in
set_option maxHeartbeats 4000000 in
theorem c_J0_getBytes_840e7 (l : Launch) (E : xE) (ST : xST) (hSF : SF ST) (Z : zE) (hSQ : SQ Z ST) (σ : xW) (r : Nat) (N : Nat) (i : Int) (d9 : Int) (G : Int → Int) (h0 : 0 ≤ i) (h1 : i < 6) (hrr : r < 85 + xx E) (hsr : σ r = aY E N G) (hd : 0 ≤ d9 ∧ d9 + slZ i ≤ N ∧ N ≤ 130) : CV l E ST yJ0_getBytes_840e7 wsJ0_getBytes_840e7 rm_J0_getBytes_840e7 [.ref (zK Z i), .ref (xad E r), .int (iZ d9), .int (iZ 0)] σ (fun (u : xW) => u r = aY E N (cdZ d9 (slZ i) (scZ i) G) ∧ ∀ j : Nat, j ≠ r → u j = σ j) := by
  refine CV_of (by decide) rfl (Nat.le_of_ble_eq_true rfl) ?_
  intro p e s m args below meth c Q ls G hH hl hQ
  obtain ⟨hx, hb, hml, hown, hts, hK, hST, hlocks, hr, hno⟩ := G
  have hOK := hSF.1
  have hown : s.vm.findClass RJ0 = some m.cls := hown
  have hl : lv_has ls 4 [(0, .ref (zK Z i)), (1, .ref (xad E r)), (2, .int (iZ d9)), (3, .int (iZ 0))] := hl
  have hsl := slZ_b h0 h1
  have hF : xCf p E ST (xA E s.heap.size) s m args c cJ0_getBytes_840e7 4 wsJ0_getBytes_840e7 RJ0 := ⟨hx, hb, hml, hown, hts, hK, hST, hOK⟩
  have hlk9 : meth.locks = false := hlocks
  refine lv_aload_n hx hb dJ0_getBytes_840e7_0 rfl (lv_at hl 0 rfl) ?_
  refine x_aftI (va_runV (As := []) (rest := []) hF.fx ((c_J0_coder_7d493 l E ST hSF Z hSQ σ i (by omega) (by omega)) _) (cwV 0 hts gJ0_getBytes_840e7_J0_coder_7d493 rfl rfl rfl (by decide +kernel) ⟨Nat.le_of_ble_eq_true rfl, Nat.le_of_ble_eq_true rfl⟩) (hF.prv hH (x_recS hSQ hST hH (i := i) (by omega) (by omega)) []) rfl rfl hl.1 rfl (lv_room (Nat.le_of_ble_eq_true rfl)) dJ0_getBytes_840e7_1 ⟨Nat.le_of_ble_eq_true rfl, Nat.le_of_ble_eq_true rfl⟩) hH (fun z3 σ1 H locs hp2 hH => ?_)
  obtain ⟨hz4, hu5⟩ := hp2
  rw [hu5] at hH
  rw [hz4]
  refine lv_iload_n hx hb dJ0_getBytes_840e7_4 rfl (lv_at hl 3 rfl) ?_
  refine x_icmp_ne (tgt := 28) hx hb dJ0_getBytes_840e7_5 (by decide) (by decide) (by decide) (fun c5 => ?_) (fun c5 => ?_)
  · exact absurd c5 (by decide)
  · refine lv_aload_n hx hb dJ0_getBytes_840e7_8 rfl (lv_at hl 0 rfl) ?_
    refine x_sval hx hb hSQ hST hH hown hts (i := i) (by omega) (by omega) (List.mem_of_getElem? (i := 1) rfl) dJ0_getBytes_840e7_9 ?_
    refine x_iconst hx hb dJ0_getBytes_840e7_12 ?_
    refine lv_aload_n hx hb dJ0_getBytes_840e7_13 rfl (lv_at hl 1 rfl) ?_
    refine lv_iload_n hx hb dJ0_getBytes_840e7_14 rfl (lv_at hl 2 rfl) ?_
    refine lv_iload_n hx hb dJ0_getBytes_840e7_15 rfl (lv_at hl 3 rfl) ?_
    refine x_ishl hx hb dJ0_getBytes_840e7_16 ?_
    rw [ishl_0 (x := d9) (by omega) (by omega)]
    refine lv_aload_n hx hb dJ0_getBytes_840e7_17 rfl (lv_at hl 0 rfl) ?_
    refine x_sval hx hb hSQ hST hH hown hts (i := i) (by omega) (by omega) (List.mem_of_getElem? (i := 1) rfl) dJ0_getBytes_840e7_18 ?_
    refine x_svlen hx hb hSQ hST hH (i := i) (by omega) (by omega) dJ0_getBytes_840e7_21 ?_
    refine x_scopy hx hb hml hts hown hK hSQ hST hH (List.mem_of_getElem? (i := 2) rfl) (List.mem_of_getElem? (i := 3) rfl) (List.mem_of_getElem? (i := 4) rfl) (List.mem_of_getElem? (i := 5) rfl) (i := i) (by omega) (by omega) r (by omega) hsr (d := d9) (dn := (d9 : Int).toNat) (by omega) (by omega) (by omega) hl.1 (Nat.le_of_ble_eq_true rfl) (Nat.le_of_ble_eq_true rfl) dJ0_getBytes_840e7_22 (fun σ6 H locs hsr fr7 hH => ?_)
    refine lv_goto (tgt := 43) hx hb dJ0_getBytes_840e7_25 (by decide) ?_
    subst hQ
    exact x_vret hx hb hr hlocks hH (Nat.le_of_ble_eq_true rfl) (Nat.le_of_ble_eq_true rfl) ⟨hsr, fun j h1 => (fr7 j (by omega))⟩ dJ0_getBytes_840e7_43

def rm_J0_getBytes_d : Room := { frames := 1, cells := 0, slots := 0, locals := 40 }
set_option maxRecDepth 100000 in
set_option maxHeartbeats 4000000 in
theorem c_J0_getBytes_d (l : Launch) (E : xE) (ST : xST) (hSF : SF ST) (Z : zE) (hSQ : SQ Z ST) (σ : xW) (r : Nat) (N : Nat) (k : Nat) (q : Nat) (M : Nat) (d9 : Int) (G : Int → Int) (F : Int → Int) (hkk : k < 85 + xx E) (hst : σ k = oSt E q) (hqq : q < 85 + xx E) (hsq : σ q = aY E M F) (hrr : r < 85 + xx E) (hsr : σ r = aY E N G) (hd : 0 ≤ d9 ∧ d9 + M ≤ N ∧ N ≤ 130) (h7 : lt7 M F) (hkr : ¬ k = r ∧ ¬ q = r) : CV l E ST yJ0_getBytes_840e7 wsJ0_getBytes_840e7 rm_J0_getBytes_d [.ref (xad E k), .ref (xad E r), .int (iZ d9), .int (iZ 0)] σ (fun (u : xW) => u r = aY E N (cdZ d9 ((M : Nat) : Int) F G) ∧ ∀ j : Nat, j ≠ r → u j = σ j) := by
  refine CV_of (by decide) rfl (Nat.le_of_ble_eq_true rfl) ?_
  intro p e s m args below meth c Q ls G hH hl hQ
  obtain ⟨hx, hb, hml, hown, hts, hK, hST, hlocks, hr, hno⟩ := G
  have hOK := hSF.1
  have hown : s.vm.findClass RJ0 = some m.cls := hown
  have hl : lv_has ls 4 [(0, .ref (xad E k)), (1, .ref (xad E r)), (2, .int (iZ d9)), (3, .int (iZ 0))] := hl
  have hinJ0 : ∀ w ∈ u_ws RJ0 TJ0 4, w ∈ wsJ0_getBytes_840e7 := fun w h => (List.mem_cons_of_mem _ (List.mem_append_right _ h))
  have hF : xCf p E ST (xA E s.heap.size) s m args c cJ0_getBytes_840e7 4 wsJ0_getBytes_840e7 RJ0 := ⟨hx, hb, hml, hown, hts, hK, hST, hOK⟩
  have hlk9 : meth.locks = false := hlocks
  refine lv_aload_n hx hb dJ0_getBytes_840e7_0 rfl (lv_at hl 0 rfl) ?_
  refine x_aftI (va_runV (As := []) (rest := []) hF.fx ((c_J0_coder_d l E ST hSF Z hSQ σ k q (by omega) hst) _) (cwV 0 hts gJ0_getBytes_840e7_J0_coder_7d493 rfl rfl rfl (by decide +kernel) ⟨Nat.le_of_ble_eq_true rfl, Nat.le_of_ble_eq_true rfl⟩) (hF.prv hH (hF.rcv hH (k0 := k) (by omega) hst rfl) []) rfl rfl hl.1 rfl (lv_room (Nat.le_of_ble_eq_true rfl)) dJ0_getBytes_840e7_1 ⟨Nat.le_of_ble_eq_true rfl, Nat.le_of_ble_eq_true rfl⟩) hH (fun z3 σ1 H locs hp2 hH => ?_)
  obtain ⟨hz4, hu5⟩ := hp2
  rw [hu5] at hH
  rw [hz4]
  refine lv_iload_n hx hb dJ0_getBytes_840e7_4 rfl (lv_at hl 3 rfl) ?_
  refine x_icmp_ne (tgt := 28) hx hb dJ0_getBytes_840e7_5 (by decide) (by decide) (by decide) (fun c5 => ?_) (fun c5 => ?_)
  · exact absurd c5 (by decide)
  · refine lv_aload_n hx hb dJ0_getBytes_840e7_8 rfl (lv_at hl 0 rfl) ?_
    refine x_get hx hb hts hown hK hH k (by omega) hst hinJ0 rfl 0 (by decide) (List.mem_of_getElem? (i := 1) rfl) rfl dJ0_getBytes_840e7_9 ?_
    refine x_iconst hx hb dJ0_getBytes_840e7_12 ?_
    refine lv_aload_n hx hb dJ0_getBytes_840e7_13 rfl (lv_at hl 1 rfl) ?_
    refine lv_iload_n hx hb dJ0_getBytes_840e7_14 rfl (lv_at hl 2 rfl) ?_
    refine lv_iload_n hx hb dJ0_getBytes_840e7_15 rfl (lv_at hl 3 rfl) ?_
    refine x_ishl hx hb dJ0_getBytes_840e7_16 ?_
    rw [ishl_0 (x := d9) (by omega) (by omega)]
    refine lv_aload_n hx hb dJ0_getBytes_840e7_17 rfl (lv_at hl 0 rfl) ?_
    refine x_get hx hb hts hown hK hH k (by omega) hst hinJ0 rfl 0 (by decide) (List.mem_of_getElem? (i := 1) rfl) rfl dJ0_getBytes_840e7_18 ?_
    refine x_yalen hx hb hK hH q (by omega) hsq dJ0_getBytes_840e7_21 ?_
    refine x_ycopy hx hb hml hts hown hK hH (List.mem_of_getElem? (i := 2) rfl) (List.mem_of_getElem? (i := 3) rfl) (List.mem_of_getElem? (i := 4) rfl) (List.mem_of_getElem? (i := 5) rfl) q r (by omega) (by omega) hsq hsr (n := M) (dn := (d9 : Int).toNat) (d := d9) (z := ((M : Nat) : Int)) (by rfl) (by omega) (by omega) (by omega) (by omega) (h7) hl.1 (Nat.le_of_ble_eq_true rfl) (Nat.le_of_ble_eq_true rfl) dJ0_getBytes_840e7_22 (fun σ6 H locs hsr fr7 hH => ?_)
    have hst : σ6 k = oB 5 [.ref (xad E q), .int (iZ 0), .int (iZ 0), .int (iZ 0)] := (fr7 k (by omega)).trans hst
    have hsq : σ6 q = aY E M F := (fr7 q (by omega)).trans hsq
    refine lv_goto (tgt := 43) hx hb dJ0_getBytes_840e7_25 (by decide) ?_
    subst hQ
    exact x_vret hx hb hr hlocks hH (Nat.le_of_ble_eq_true rfl) (Nat.le_of_ble_eq_true rfl) ⟨hsr, fun j h1 => (fr7 j (by omega))⟩ dJ0_getBytes_840e7_43

def rm_J5_putStringAt_47b60 : Room := { frames := 2, cells := 0, slots := 0, locals := 63 }
set_option maxRecDepth 100000 in
set_option maxHeartbeats 4000000 in
theorem c_J5_putStringAt_47b60 (l : Launch) (E : xE) (ST : xST) (hSF : SF ST) (Z : zE) (hSQ : SQ Z ST) (σ : xW) (b : Nat) (r : Nat) (N : Nat) (n : Int) (i : Int) (d9 : Int) (G : Int → Int) (hbb : b < 85 + xx E) (hsb : σ b = oSb E r n) (h0 : 0 ≤ i) (h1 : i < 6) (hrr : r < 85 + xx E) (hsr : σ r = aY E N G) (hd : 0 ≤ d9 ∧ d9 + slZ i ≤ N ∧ N ≤ 130) (hbr : ¬ b = r) : CV l E ST yJ5_putStringAt_47b60 wsJ5_putStringAt_47b60 rm_J5_putStringAt_47b60 [.ref (xad E b), .int (iZ d9), .ref (zK Z i)] σ (fun (u : xW) => u r = aY E N (cdZ d9 (slZ i) (scZ i) G) ∧ ∀ j : Nat, j ≠ r → u j = σ j) := by
  refine CV_of (by decide) rfl (Nat.le_of_ble_eq_true rfl) ?_
  intro p e s m args below meth c Q ls G hH hl hQ
  obtain ⟨hx, hb, hml, hown, hts, hK, hST, hlocks, hr, hno⟩ := G
  have hOK := hSF.1
  have hown : s.vm.findClass RJ5 = some m.cls := hown
  have hl : lv_has ls 3 [(0, .ref (xad E b)), (1, .int (iZ d9)), (2, .ref (zK Z i))] := hl
  have hinJ4 : ∀ w ∈ u_ws RJ4 TJ4 4, w ∈ wsJ5_putStringAt_47b60 := fun w h => (List.mem_cons_of_mem _ (List.mem_append_left _ (List.mem_append_right _ h)))
  have hF : xCf p E ST (xA E s.heap.size) s m args c cJ5_putStringAt_47b60 3 wsJ5_putStringAt_47b60 RJ5 := ⟨hx, hb, hml, hown, hts, hK, hST, hOK⟩
  have hlk9 : meth.locks = false := hlocks
  refine lv_aload_n hx hb dJ5_putStringAt_47b60_0 rfl (lv_at hl 0 rfl) ?_
  refine lv_aload_n hx hb dJ5_putStringAt_47b60_1 rfl (lv_at hl 2 rfl) ?_
  refine x_aftV (va_runU (As := [.ref (zK Z i)]) (rest := []) hF.fx ((c_J5_inflateIfNeededFor_a7421 l E ST hSF Z hSQ σ b r n i (by omega) hsb (by omega) (by omega)) _) (va_cwU 1 hts gJ5_putStringAt_47b60_J5_inflateIfNeededFor_a7421_u397J4 rfl rfl rfl rfl (by decide +kernel) ⟨Nat.le_of_ble_eq_true rfl, Nat.le_of_ble_eq_true rfl⟩) (hF.prv hH (hF.rcv hH (k0 := b) (by omega) hsb rfl) [.ref (zK Z i)]) rfl rfl hl.1 rfl (lv_room (Nat.le_of_ble_eq_true rfl)) dJ5_putStringAt_47b60_2 ⟨Nat.le_of_ble_eq_true rfl, Nat.le_of_ble_eq_true rfl⟩) hH (fun σ1 H locs hp2 hH => ?_)
  rw [hp2] at hH
  refine lv_aload_n hx hb dJ5_putStringAt_47b60_5 rfl (lv_at hl 2 rfl) ?_
  refine lv_aload_n hx hb dJ5_putStringAt_47b60_6 rfl (lv_at hl 0 rfl) ?_
  refine x_get hx hb hts hown hK hH b (by omega) hsb hinJ4 rfl 0 (by decide) (List.mem_of_getElem? (i := 1) rfl) rfl dJ5_putStringAt_47b60_7 ?_
  refine lv_iload_n hx hb dJ5_putStringAt_47b60_10 rfl (lv_at hl 1 rfl) ?_
  refine lv_aload_n hx hb dJ5_putStringAt_47b60_11 rfl (lv_at hl 0 rfl) ?_
  refine x_get hx hb hts hown hK hH b (by omega) hsb hinJ4 rfl 1 (by decide) (List.mem_of_getElem? (i := 2) rfl) rfl dJ5_putStringAt_47b60_12 ?_
  refine x_aftV (va_runV (As := [.ref (xad E r), .int (iZ d9), .int (iZ 0)]) (rest := []) hF.fx ((c_J0_getBytes_840e7 l E ST hSF Z hSQ σ r N i d9 G (by omega) (by omega) (by omega) hsr (by omega)) _) (cwV 3 hts gJ5_putStringAt_47b60_J0_getBytes_840e7 rfl rfl rfl (by decide +kernel) ⟨Nat.le_of_ble_eq_true rfl, Nat.le_of_ble_eq_true rfl⟩) (hF.prv hH (x_recS hSQ hST hH (i := i) (by omega) (by omega)) [.ref (xad E r), .int (iZ d9), .int (iZ 0)]) rfl rfl hl.1 rfl (lv_room (Nat.le_of_ble_eq_true rfl)) dJ5_putStringAt_47b60_15 ⟨Nat.le_of_ble_eq_true rfl, Nat.le_of_ble_eq_true rfl⟩) hH (fun σ3 H locs hp4 hH => ?_)
  obtain ⟨hsr, fr5⟩ := hp4
  have hsb : σ3 b = oB 6 [.ref (xad E r), .int (iZ 0), .int (iZ 0), .int (iZ n)] := (fr5 b (by omega)).trans hsb
  subst hQ
  exact x_vret hx hb hr hlocks hH (Nat.le_of_ble_eq_true rfl) (Nat.le_of_ble_eq_true rfl) ⟨hsr, fun j h1 => (fr5 j (by omega))⟩ dJ5_putStringAt_47b60_18

def rm_J5_putStringAt_d : Room := { frames := 2, cells := 0, slots := 0, locals := 63 }
set_option maxRecDepth 100000 in
set_option maxHeartbeats 4000000 in
theorem c_J5_putStringAt_d (l : Launch) (E : xE) (ST : xST) (hSF : SF ST) (Z : zE) (hSQ : SQ Z ST) (σ : xW) (b : Nat) (r : Nat) (N : Nat) (k : Nat) (q : Nat) (M : Nat) (n : Int) (d9 : Int) (G : Int → Int) (F : Int → Int) (hbb : b < 85 + xx E) (hsb : σ b = oSb E r n) (hkk : k < 85 + xx E) (hst : σ k = oSt E q) (hqq : q < 85 + xx E) (hsq : σ q = aY E M F) (hrr : r < 85 + xx E) (hsr : σ r = aY E N G) (hd : 0 ≤ d9 ∧ d9 + M ≤ N ∧ N ≤ 130) (h7 : lt7 M F) (hkr : ¬ b = r ∧ ¬ k = r ∧ ¬ q = r) : CV l E ST yJ5_putStringAt_47b60 wsJ5_putStringAt_47b60 rm_J5_putStringAt_d [.ref (xad E b), .int (iZ d9), .ref (xad E k)] σ (fun (u : xW) => u r = aY E N (cdZ d9 ((M : Nat) : Int) F G) ∧ ∀ j : Nat, j ≠ r → u j = σ j) := by
  refine CV_of (by decide) rfl (Nat.le_of_ble_eq_true rfl) ?_
  intro p e s m args below meth c Q ls G hH hl hQ
  obtain ⟨hx, hb, hml, hown, hts, hK, hST, hlocks, hr, hno⟩ := G
  have hOK := hSF.1
  have hown : s.vm.findClass RJ5 = some m.cls := hown
  have hl : lv_has ls 3 [(0, .ref (xad E b)), (1, .int (iZ d9)), (2, .ref (xad E k))] := hl
  have hinJ4 : ∀ w ∈ u_ws RJ4 TJ4 4, w ∈ wsJ5_putStringAt_47b60 := fun w h => (List.mem_cons_of_mem _ (List.mem_append_left _ (List.mem_append_right _ h)))
  have hF : xCf p E ST (xA E s.heap.size) s m args c cJ5_putStringAt_47b60 3 wsJ5_putStringAt_47b60 RJ5 := ⟨hx, hb, hml, hown, hts, hK, hST, hOK⟩
  have hlk9 : meth.locks = false := hlocks
  refine lv_aload_n hx hb dJ5_putStringAt_47b60_0 rfl (lv_at hl 0 rfl) ?_
  refine lv_aload_n hx hb dJ5_putStringAt_47b60_1 rfl (lv_at hl 2 rfl) ?_
  refine x_aftV (va_runU (As := [.ref (xad E k)]) (rest := []) hF.fx ((c_J5_inflateIfNeededFor_d l E ST hSF Z hSQ σ b r k q n (by omega) hsb (by omega) hst) _) (va_cwU 1 hts gJ5_putStringAt_47b60_J5_inflateIfNeededFor_a7421_u397J4 rfl rfl rfl rfl (by decide +kernel) ⟨Nat.le_of_ble_eq_true rfl, Nat.le_of_ble_eq_true rfl⟩) (hF.prv hH (hF.rcv hH (k0 := b) (by omega) hsb rfl) [.ref (xad E k)]) rfl rfl hl.1 rfl (lv_room (Nat.le_of_ble_eq_true rfl)) dJ5_putStringAt_47b60_2 ⟨Nat.le_of_ble_eq_true rfl, Nat.le_of_ble_eq_true rfl⟩) hH (fun σ1 H locs hp2 hH => ?_)
  rw [hp2] at hH
  refine lv_aload_n hx hb dJ5_putStringAt_47b60_5 rfl (lv_at hl 2 rfl) ?_
  refine lv_aload_n hx hb dJ5_putStringAt_47b60_6 rfl (lv_at hl 0 rfl) ?_
  refine x_get hx hb hts hown hK hH b (by omega) hsb hinJ4 rfl 0 (by decide) (List.mem_of_getElem? (i := 1) rfl) rfl dJ5_putStringAt_47b60_7 ?_
  refine lv_iload_n hx hb dJ5_putStringAt_47b60_10 rfl (lv_at hl 1 rfl) ?_
  refine lv_aload_n hx hb dJ5_putStringAt_47b60_11 rfl (lv_at hl 0 rfl) ?_
  refine x_get hx hb hts hown hK hH b (by omega) hsb hinJ4 rfl 1 (by decide) (List.mem_of_getElem? (i := 2) rfl) rfl dJ5_putStringAt_47b60_12 ?_
  refine x_aftV (va_runV (As := [.ref (xad E r), .int (iZ d9), .int (iZ 0)]) (rest := []) hF.fx ((c_J0_getBytes_d l E ST hSF Z hSQ σ r N k q M d9 G F (by omega) hst (by omega) hsq (by omega) hsr (by omega) h7 (by omega)) _) (cwV 3 hts gJ5_putStringAt_47b60_J0_getBytes_840e7 rfl rfl rfl (by decide +kernel) ⟨Nat.le_of_ble_eq_true rfl, Nat.le_of_ble_eq_true rfl⟩) (hF.prv hH (hF.rcv hH (k0 := k) (by omega) hst rfl) [.ref (xad E r), .int (iZ d9), .int (iZ 0)]) rfl rfl hl.1 rfl (lv_room (Nat.le_of_ble_eq_true rfl)) dJ5_putStringAt_47b60_15 ⟨Nat.le_of_ble_eq_true rfl, Nat.le_of_ble_eq_true rfl⟩) hH (fun σ3 H locs hp4 hH => ?_)
  obtain ⟨hsr, fr5⟩ := hp4
  have hsb : σ3 b = oB 6 [.ref (xad E r), .int (iZ 0), .int (iZ 0), .int (iZ n)] := (fr5 b (by omega)).trans hsb
  have hst : σ3 k = oB 5 [.ref (xad E q), .int (iZ 0), .int (iZ 0), .int (iZ 0)] := (fr5 k (by omega)).trans hst
  have hsq : σ3 q = aY E M F := (fr5 q (by omega)).trans hsq
  subst hQ
  exact x_vret hx hb hr hlocks hH (Nat.le_of_ble_eq_true rfl) (Nat.le_of_ble_eq_true rfl) ⟨hsr, fun j h1 => (fr5 j (by omega))⟩ dJ5_putStringAt_47b60_18

def rm_J5_append_cf1ce : Room := { frames := 4, cells := 1, slots := 130, locals := 94 }
set_option maxRecDepth 100000 in
set_option maxHeartbeats 4000000 in
theorem c_J5_append_cf1ce (l : Launch) (E : xE) (ST : xST) (hSF : SF ST) (Z : zE) (hSQ : SQ Z ST) (σ : xW) (b : Nat) (r : Nat) (N : Nat) (n : Int) (i : Int) (G : Int → Int) (B : BT) (S : Option BT) (Y : lnQ) (hr0 : cw E σ B S Y) (hbr : 85 ≤ b ∧ b < 85 + xx E ∧ 85 ≤ r ∧ r < 85 + xx E ∧ ¬ b = r) (hsb : σ b = oSb E r n) (hsr : σ r = aY E N G) (hnN : 0 ≤ n ∧ n ≤ N ∧ N ≤ 130) (h7 : lt7 N G) (h0 : 0 ≤ i) (h1 : i < 6) (hm : n + slZ i ≤ 64) : CR l E ST yJ5_append_cf1ce wsJ5_append_cf1ce rm_J5_append_cf1ce [.ref (xad E b), .ref (zK Z i)] σ (fun (Ez : xE) (g : Nat) (u : xW) => g = b ∧ sbP E σ B S Y b r (n + slZ i) (n + slZ i) (catZ n G (scZ i)) Ez u) := by
  have fcw_0 : cw E σ B S Y := hr0
  refine CR_of (by decide) rfl (Nat.le_of_ble_eq_true rfl) ?_
  intro p e s m args below meth c Q ls G hH hl hQ
  obtain ⟨hx, hb, hml, hown, hts, hK, hST, hlocks, hr, hno⟩ := G
  have hOK := hSF.1
  have hown : s.vm.findClass RJ5 = some m.cls := hown
  have hl : lv_has ls 3 [(0, .ref (xad E b)), (1, .ref (zK Z i))] := hl
  have hinJ4 : ∀ w ∈ u_ws RJ4 TJ4 4, w ∈ wsJ5_append_cf1ce := fun w h => (List.mem_cons_of_mem _ (List.mem_append_left _ (List.mem_append_right _ h)))
  have hsl := slZ_b h0 h1
  have hF : xCf p E ST (xA E s.heap.size) s m args c cJ5_append_cf1ce 3 wsJ5_append_cf1ce RJ5 := ⟨hx, hb, hml, hown, hts, hK, hST, hOK⟩
  have hlk9 : meth.locks = false := hlocks
  refine lv_aload_n hx hb dJ5_append_cf1ce_0 rfl (lv_at hl 1 rfl) ?_
  refine lv_ifnonnull (tgt := 9) hx hb dJ5_append_cf1ce_1 (by decide) ?_
  refine lv_aload_n hx hb dJ5_append_cf1ce_9 rfl (lv_at hl 1 rfl) ?_
  refine x_aftI (va_runV (As := []) (rest := []) hF.fx ((c_J0_length_8abf5 l E ST hSF Z hSQ σ i (by omega) (by omega)) _) (cwV 0 hts gJ5_append_cf1ce_J0_length_8abf5 rfl rfl rfl (by decide +kernel) ⟨Nat.le_of_ble_eq_true rfl, Nat.le_of_ble_eq_true rfl⟩) (hF.prv hH (x_recS hSQ hST hH (i := i) (by omega) (by omega)) []) rfl rfl hl.1 rfl (lv_room (Nat.le_of_ble_eq_true rfl)) dJ5_append_cf1ce_10 ⟨Nat.le_of_ble_eq_true rfl, Nat.le_of_ble_eq_true rfl⟩) hH (fun z3 σ1 H locs hp2 hH => ?_)
  obtain ⟨hz4, hu5⟩ := hp2
  rw [hu5] at hH
  rw [hz4]
  refine lv_istore_n (lv' := [(2, .int (iZ (slZ i))), (0, .ref (xad E b)), (1, .ref (zK Z i))]) hx hb dJ5_append_cf1ce_13 rfl hl (by decide) rfl (fun ls hl => ?_)
  refine lv_aload_n hx hb dJ5_append_cf1ce_14 rfl (lv_at hl 1 rfl) ?_
  refine lv_aload_n hx hb dJ5_append_cf1ce_15 rfl (lv_at hl 1 rfl) ?_
  refine x_get hx hb hts hown hK hH b (by omega) hsb hinJ4 rfl 3 (by decide) (List.mem_of_getElem? (i := 1) rfl) rfl dJ5_append_cf1ce_16 ?_
  refine lv_iload_n hx hb dJ5_append_cf1ce_19 rfl (lv_at hl 0 rfl) ?_
  refine x_iadd hx hb dJ5_append_cf1ce_20 ?_
  refine x_aftG (c_J5_ensureCapacityInternal_d00df l E ST hSF Z hSQ σ b r N n (n + (slZ i)) G B S Y fcw_0 (by omega) hsb hsr (by omega) h7 (by omega)) (va_runU (As := [.int (iZ (n + (slZ i)))]) (rest := []) hF.fx ((c_J5_ensureCapacityInternal_d00df l E ST hSF Z hSQ σ b r N n (n + (slZ i)) G B S Y fcw_0 (by omega) hsb hsr (by omega) h7 (by omega)) _) (va_cwU 1 hts gJ5_append_cf1ce_J5_ensureCapacityInternal_d00df_u100J4 rfl rfl rfl rfl (by decide +kernel) ⟨Nat.le_of_ble_eq_true rfl, Nat.le_of_ble_eq_true rfl⟩) (hF.prv hH (hF.rcv hH (k0 := b) (by omega) hsb rfl) [.int (iZ (n + (slZ i)))]) rfl rfl hl.1 rfl (lv_room (Nat.le_of_ble_eq_true rfl)) dJ5_append_cf1ce_21 ⟨Nat.le_of_ble_eq_true rfl, Nat.le_of_ble_eq_true rfl⟩) hH (fun E8 σ6 H locs hp7 hH => ?_)
  obtain ⟨hR9, fcw_0, hsb, ⟨N11, G12, hsr, hk15, hk16, h713, hG14⟩, fr10⟩ := hp7
  have hxxE8 : xx E8 = xx E := hR9.2.2.1
  have hF := hF.mv hR9.1 hR9.2.1
  have hK := hF.2.2.2.2.2.1
  rw [← hR9.2.2.2 b (by omega) (by omega)] at hl
  refine lv_aload_n hx hb dJ5_append_cf1ce_24 rfl (lv_at hl 1 rfl) ?_
  refine lv_aload_n hx hb dJ5_append_cf1ce_25 rfl (lv_at hl 1 rfl) ?_
  refine x_get hx hb hts hown hK hH b (by omega) hsb hinJ4 rfl 3 (by decide) (List.mem_of_getElem? (i := 1) rfl) rfl dJ5_append_cf1ce_26 ?_
  refine lv_aload_n hx hb dJ5_append_cf1ce_29 rfl (lv_at hl 2 rfl) ?_
  refine x_aftV (va_runU (As := [.int (iZ n), .ref (zK Z i)]) (rest := []) hF.fx ((c_J5_putStringAt_47b60 l E8 ST hSF Z hSQ σ6 b r N11 n i n G12 (by omega) hsb (by omega) (by omega) (by omega) hsr (by omega) (by omega)) _) (va_cwU 2 hts gJ5_append_cf1ce_J5_putStringAt_47b60_u208J4 rfl rfl rfl rfl (by decide +kernel) ⟨Nat.le_of_ble_eq_true rfl, Nat.le_of_ble_eq_true rfl⟩) (hF.prv hH (hF.rcv hH (k0 := b) (by omega) hsb rfl) [.int (iZ n), .ref (zK Z i)]) rfl rfl hl.1 rfl (lv_room (Nat.le_of_ble_eq_true rfl)) dJ5_append_cf1ce_30 ⟨Nat.le_of_ble_eq_true rfl, Nat.le_of_ble_eq_true rfl⟩) hH (fun σ17 H locs hp18 hH => ?_)
  obtain ⟨hsr, fr19⟩ := hp18
  have fcw_0 := fcw_0.fr (fun j hj9 => fr19 j (by omega))
  have hsb : σ17 b = oB 6 [.ref (xad E8 r), .int (iZ 0), .int (iZ 0), .int (iZ n)] := (fr19 b (by omega)).trans hsb
  refine lv_aload_n hx hb dJ5_append_cf1ce_33 rfl (lv_at hl 1 rfl) ?_
  refine lv_dup hx hb dJ5_append_cf1ce_34 rfl ?_
  refine x_get hx hb hts hown hK hH b (by omega) hsb hinJ4 rfl 3 (by decide) (List.mem_of_getElem? (i := 1) rfl) rfl dJ5_append_cf1ce_35 ?_
  refine lv_iload_n hx hb dJ5_append_cf1ce_38 rfl (lv_at hl 0 rfl) ?_
  refine x_iadd hx hb dJ5_append_cf1ce_39 ?_
  refine x_put (fs' := [.ref (xad E8 r), .int (iZ 0), .int (iZ 0), .int (iZ (n + (slZ i)))]) hx hb hts hown hK hH b (by omega) hsb hinJ4 rfl tyJ4 tyJ4_ok nmJ4 3 (by decide) (List.mem_of_getElem? (i := 1) rfl) rfl (ty := .int) (by decide +kernel) rfl rfl (Nat.le_of_ble_eq_true rfl) rfl dJ5_append_cf1ce_40 (fun σ20 H locs hsb fr21 hH => ?_)
  have fcw_0 := fcw_0.fr (fun j hj9 => fr21 j (by omega))
  have hsr : σ20 r = aY E8 N11 (cdZ n (slZ i) (scZ i) G12) := (fr21 r (by omega)).trans hsr
  refine lv_aload_n hx hb dJ5_append_cf1ce_43 rfl (lv_at hl 1 rfl) ?_
  subst hQ
  exact x_oret (post := (fun (Ez : xE) (g : Nat) (u : xW) => g = b ∧ sbP E σ B S Y b r (n + slZ i) (n + slZ i) (catZ n G (scZ i)) Ez u)) hx hb hr hlocks hH (Nat.le_of_ble_eq_true rfl) (Nat.le_of_ble_eq_true rfl) ⟨rfl, hR9, fcw_0, hsb, ⟨_, _, hsr, by omega, by omega, lt7_cd h713 (lt7_sc h0 h1), cd_cat hG14⟩, fun j h1 h2 h3 h4 => ((fr21 j (by omega)).trans ((fr19 j (by omega)).trans (fr10 j (by omega) (by omega) (by omega) (by omega))))⟩ dJ5_append_cf1ce_44

def rm_J5_append_d : Room := { frames := 4, cells := 1, slots := 130, locals := 94 }
set_option maxRecDepth 100000 in
set_option maxHeartbeats 4000000 in
theorem c_J5_append_d (l : Launch) (E : xE) (ST : xST) (hSF : SF ST) (Z : zE) (hSQ : SQ Z ST) (σ : xW) (b : Nat) (r : Nat) (N : Nat) (k : Nat) (q : Nat) (M : Nat) (n : Int) (G : Int → Int) (F : Int → Int) (B : BT) (S : Option BT) (Y : lnQ) (hr0 : cw E σ B S Y) (hbr : 85 ≤ b ∧ b < 85 + xx E ∧ 85 ≤ r ∧ r < 85 + xx E ∧ ¬ b = r) (hsb : σ b = oSb E r n) (hsr : σ r = aY E N G) (hnN : 0 ≤ n ∧ n ≤ N ∧ N ≤ 130) (h7 : lt7 N G) (hkk : k < 85 + xx E) (hst : σ k = oSt E q) (hqq : q < 85 + xx E) (hsq : σ q = aY E M F) (hm : n + M ≤ 64) (h77 : lt7 M F) (hkr : 85 ≤ k ∧ 85 ≤ q ∧ ¬ k = b ∧ ¬ k = r ∧ ¬ q = b ∧ ¬ q = r) : CR l E ST yJ5_append_cf1ce wsJ5_append_cf1ce rm_J5_append_d [.ref (xad E b), .ref (xad E k)] σ (fun (Ez : xE) (g : Nat) (u : xW) => g = b ∧ sbP E σ B S Y b r (n + ((M : Nat) : Int)) (n + ((M : Nat) : Int)) (catZ n G F) Ez u) := by
  have fcw_0 : cw E σ B S Y := hr0
  refine CR_of (by decide) rfl (Nat.le_of_ble_eq_true rfl) ?_
  intro p e s m args below meth c Q ls G hH hl hQ
  obtain ⟨hx, hb, hml, hown, hts, hK, hST, hlocks, hr, hno⟩ := G
  have hOK := hSF.1
  have hown : s.vm.findClass RJ5 = some m.cls := hown
  have hl : lv_has ls 3 [(0, .ref (xad E b)), (1, .ref (xad E k))] := hl
  have hinJ4 : ∀ w ∈ u_ws RJ4 TJ4 4, w ∈ wsJ5_append_cf1ce := fun w h => (List.mem_cons_of_mem _ (List.mem_append_left _ (List.mem_append_right _ h)))
  have hF : xCf p E ST (xA E s.heap.size) s m args c cJ5_append_cf1ce 3 wsJ5_append_cf1ce RJ5 := ⟨hx, hb, hml, hown, hts, hK, hST, hOK⟩
  have hlk9 : meth.locks = false := hlocks
  refine lv_aload_n hx hb dJ5_append_cf1ce_0 rfl (lv_at hl 1 rfl) ?_
  refine lv_ifnonnull (tgt := 9) hx hb dJ5_append_cf1ce_1 (by decide) ?_
  refine lv_aload_n hx hb dJ5_append_cf1ce_9 rfl (lv_at hl 1 rfl) ?_
  refine x_aftI (va_runV (As := []) (rest := []) hF.fx ((c_J0_length_d l E ST hSF Z hSQ σ k q M F (by omega) hst (by omega) hsq (by omega)) _) (cwV 0 hts gJ5_append_cf1ce_J0_length_8abf5 rfl rfl rfl (by decide +kernel) ⟨Nat.le_of_ble_eq_true rfl, Nat.le_of_ble_eq_true rfl⟩) (hF.prv hH (hF.rcv hH (k0 := k) (by omega) hst rfl) []) rfl rfl hl.1 rfl (lv_room (Nat.le_of_ble_eq_true rfl)) dJ5_append_cf1ce_10 ⟨Nat.le_of_ble_eq_true rfl, Nat.le_of_ble_eq_true rfl⟩) hH (fun z3 σ1 H locs hp2 hH => ?_)
  obtain ⟨hz4, hu5⟩ := hp2
  rw [hu5] at hH
  rw [hz4]
  refine lv_istore_n (lv' := [(2, .int (iZ ((M : Nat) : Int))), (0, .ref (xad E b)), (1, .ref (xad E k))]) hx hb dJ5_append_cf1ce_13 rfl hl (by decide) rfl (fun ls hl => ?_)
  refine lv_aload_n hx hb dJ5_append_cf1ce_14 rfl (lv_at hl 1 rfl) ?_
  refine lv_aload_n hx hb dJ5_append_cf1ce_15 rfl (lv_at hl 1 rfl) ?_
  refine x_get hx hb hts hown hK hH b (by omega) hsb hinJ4 rfl 3 (by decide) (List.mem_of_getElem? (i := 1) rfl) rfl dJ5_append_cf1ce_16 ?_
  refine lv_iload_n hx hb dJ5_append_cf1ce_19 rfl (lv_at hl 0 rfl) ?_
  refine x_iadd hx hb dJ5_append_cf1ce_20 ?_
  refine x_aftG (c_J5_ensureCapacityInternal_d00df l E ST hSF Z hSQ σ b r N n (n + ((M : Nat) : Int)) G B S Y fcw_0 (by omega) hsb hsr (by omega) h7 (by omega)) (va_runU (As := [.int (iZ (n + ((M : Nat) : Int)))]) (rest := []) hF.fx ((c_J5_ensureCapacityInternal_d00df l E ST hSF Z hSQ σ b r N n (n + ((M : Nat) : Int)) G B S Y fcw_0 (by omega) hsb hsr (by omega) h7 (by omega)) _) (va_cwU 1 hts gJ5_append_cf1ce_J5_ensureCapacityInternal_d00df_u100J4 rfl rfl rfl rfl (by decide +kernel) ⟨Nat.le_of_ble_eq_true rfl, Nat.le_of_ble_eq_true rfl⟩) (hF.prv hH (hF.rcv hH (k0 := b) (by omega) hsb rfl) [.int (iZ (n + ((M : Nat) : Int)))]) rfl rfl hl.1 rfl (lv_room (Nat.le_of_ble_eq_true rfl)) dJ5_append_cf1ce_21 ⟨Nat.le_of_ble_eq_true rfl, Nat.le_of_ble_eq_true rfl⟩) hH (fun E8 σ6 H locs hp7 hH => ?_)
  obtain ⟨hR9, fcw_0, hsb, ⟨N11, G12, hsr, hk15, hk16, h713, hG14⟩, fr10⟩ := hp7
  have hxxE8 : xx E8 = xx E := hR9.2.2.1
  rw [← (hR9.2.2.2 k (by omega) (by omega))] at hl
  have hst : σ6 k = oB 5 [.ref (xad E8 q), .int (iZ 0), .int (iZ 0), .int (iZ 0)] := (by rw [(fr10 k (by omega) (by omega) (by omega) (by omega)), hst, (hR9.2.2.2 q (by omega) (by omega))])
  have hsq : σ6 q = aY E8 M F := ((fr10 q (by omega) (by omega) (by omega) (by omega)).trans hsq).trans hR9.aY.symm
  have hF := hF.mv hR9.1 hR9.2.1
  have hK := hF.2.2.2.2.2.1
  rw [← hR9.2.2.2 b (by omega) (by omega)] at hl
  refine lv_aload_n hx hb dJ5_append_cf1ce_24 rfl (lv_at hl 1 rfl) ?_
  refine lv_aload_n hx hb dJ5_append_cf1ce_25 rfl (lv_at hl 1 rfl) ?_
  refine x_get hx hb hts hown hK hH b (by omega) hsb hinJ4 rfl 3 (by decide) (List.mem_of_getElem? (i := 1) rfl) rfl dJ5_append_cf1ce_26 ?_
  refine lv_aload_n hx hb dJ5_append_cf1ce_29 rfl (lv_at hl 2 rfl) ?_
  refine x_aftV (va_runU (As := [.int (iZ n), .ref (xad E8 k)]) (rest := []) hF.fx ((c_J5_putStringAt_d l E8 ST hSF Z hSQ σ6 b r N11 k q M n n G12 F (by omega) hsb (by omega) hst (by omega) hsq (by omega) hsr (by omega) h77 (by omega)) _) (va_cwU 2 hts gJ5_append_cf1ce_J5_putStringAt_47b60_u208J4 rfl rfl rfl rfl (by decide +kernel) ⟨Nat.le_of_ble_eq_true rfl, Nat.le_of_ble_eq_true rfl⟩) (hF.prv hH (hF.rcv hH (k0 := b) (by omega) hsb rfl) [.int (iZ n), .ref (xad E8 k)]) rfl rfl hl.1 rfl (lv_room (Nat.le_of_ble_eq_true rfl)) dJ5_append_cf1ce_30 ⟨Nat.le_of_ble_eq_true rfl, Nat.le_of_ble_eq_true rfl⟩) hH (fun σ17 H locs hp18 hH => ?_)
  obtain ⟨hsr, fr19⟩ := hp18
  have fcw_0 := fcw_0.fr (fun j hj9 => fr19 j (by omega))
  have hsb : σ17 b = oB 6 [.ref (xad E8 r), .int (iZ 0), .int (iZ 0), .int (iZ n)] := (fr19 b (by omega)).trans hsb
  have hst : σ17 k = oB 5 [.ref (xad E8 q), .int (iZ 0), .int (iZ 0), .int (iZ 0)] := (fr19 k (by omega)).trans hst
  have hsq : σ17 q = aY E8 M F := (fr19 q (by omega)).trans hsq
  refine lv_aload_n hx hb dJ5_append_cf1ce_33 rfl (lv_at hl 1 rfl) ?_
  refine lv_dup hx hb dJ5_append_cf1ce_34 rfl ?_
  refine x_get hx hb hts hown hK hH b (by omega) hsb hinJ4 rfl 3 (by decide) (List.mem_of_getElem? (i := 1) rfl) rfl dJ5_append_cf1ce_35 ?_
  refine lv_iload_n hx hb dJ5_append_cf1ce_38 rfl (lv_at hl 0 rfl) ?_
  refine x_iadd hx hb dJ5_append_cf1ce_39 ?_
  refine x_put (fs' := [.ref (xad E8 r), .int (iZ 0), .int (iZ 0), .int (iZ (n + ((M : Nat) : Int)))]) hx hb hts hown hK hH b (by omega) hsb hinJ4 rfl tyJ4 tyJ4_ok nmJ4 3 (by decide) (List.mem_of_getElem? (i := 1) rfl) rfl (ty := .int) (by decide +kernel) rfl rfl (Nat.le_of_ble_eq_true rfl) rfl dJ5_append_cf1ce_40 (fun σ20 H locs hsb fr21 hH => ?_)
  have fcw_0 := fcw_0.fr (fun j hj9 => fr21 j (by omega))
  have hsr : σ20 r = aY E8 N11 (cdZ n ((M : Nat) : Int) F G12) := (fr21 r (by omega)).trans hsr
  have hst : σ20 k = oB 5 [.ref (xad E8 q), .int (iZ 0), .int (iZ 0), .int (iZ 0)] := (fr21 k (by omega)).trans hst
  have hsq : σ20 q = aY E8 M F := (fr21 q (by omega)).trans hsq
  refine lv_aload_n hx hb dJ5_append_cf1ce_43 rfl (lv_at hl 1 rfl) ?_
  subst hQ
  exact x_oret (post := (fun (Ez : xE) (g : Nat) (u : xW) => g = b ∧ sbP E σ B S Y b r (n + ((M : Nat) : Int)) (n + ((M : Nat) : Int)) (catZ n G F) Ez u)) hx hb hr hlocks hH (Nat.le_of_ble_eq_true rfl) (Nat.le_of_ble_eq_true rfl) ⟨rfl, hR9, fcw_0, hsb, ⟨_, _, hsr, by omega, by omega, lt7_cd h713 h77, cd_cat hG14⟩, fun j h1 h2 h3 h4 => ((fr21 j (by omega)).trans ((fr19 j (by omega)).trans (fr10 j (by omega) (by omega) (by omega) (by omega))))⟩ dJ5_append_cf1ce_44

def rm_J4_append_15ec4 : Room := { frames := 5, cells := 1, slots := 130, locals := 116 }
set_option maxRecDepth 100000 in
set_option maxHeartbeats 4000000 in
theorem c_J4_append_15ec4 (l : Launch) (E : xE) (ST : xST) (hSF : SF ST) (Z : zE) (hSQ : SQ Z ST) (σ : xW) (b : Nat) (r : Nat) (N : Nat) (n : Int) (i : Int) (G : Int → Int) (B : BT) (S : Option BT) (Y : lnQ) (hr0 : cw E σ B S Y) (hbr : 85 ≤ b ∧ b < 85 + xx E ∧ 85 ≤ r ∧ r < 85 + xx E ∧ ¬ b = r) (hsb : σ b = oSb E r n) (hsr : σ r = aY E N G) (hnN : 0 ≤ n ∧ n ≤ N ∧ N ≤ 130) (h7 : lt7 N G) (h0 : 0 ≤ i) (h1 : i < 6) (hm : n + slZ i ≤ 64) : CR l E ST yJ4_append_15ec4 wsJ4_append_15ec4 rm_J4_append_15ec4 [.ref (xad E b), .ref (zK Z i)] σ (fun (Ez : xE) (g : Nat) (u : xW) => g = b ∧ sbP E σ B S Y b r (n + slZ i) (n + slZ i) (catZ n G (scZ i)) Ez u) := by
  have fcw_0 : cw E σ B S Y := hr0
  refine CR_of (by decide) rfl (Nat.le_of_ble_eq_true rfl) ?_
  intro p e s m args below meth c Q ls G hH hl hQ
  obtain ⟨hx, hb, hml, hown, hts, hK, hST, hlocks, hr, hno⟩ := G
  have hOK := hSF.1
  have hown : s.vm.findClass RJ4 = some m.cls := hown
  have hl : lv_has ls 2 [(0, .ref (xad E b)), (1, .ref (zK Z i))] := hl
  have hsl := slZ_b h0 h1
  have hF : xCf p E ST (xA E s.heap.size) s m args c cJ4_append_15ec4 2 wsJ4_append_15ec4 RJ4 := ⟨hx, hb, hml, hown, hts, hK, hST, hOK⟩
  have hlk9 : meth.locks = false := hlocks
  refine lv_aload_n hx hb dJ4_append_15ec4_0 rfl (lv_at hl 0 rfl) ?_
  refine lv_aload_n hx hb dJ4_append_15ec4_1 rfl (lv_at hl 1 rfl) ?_
  refine x_aftR (c_J5_append_cf1ce l E ST hSF Z hSQ σ b r N n i G B S Y fcw_0 (by omega) hsb hsr (by omega) h7 (by omega) (by omega) (by omega)) (va_runSU (hK.1 6 (RJ4, TJ4, 4) rfl).2 (As := [.ref (zK Z i)]) (rest := []) hF.fx ((c_J5_append_cf1ce l E ST hSF Z hSQ σ b r N n i G B S Y fcw_0 (by omega) hsb hsr (by omega) h7 (by omega) (by omega) (by omega)) _) (va_cwSU 1 hts gJ4_append_15ec4_J5_append_cf1ce_s29 rfl rfl rfl (by decide +kernel) ⟨Nat.le_of_ble_eq_true rfl, Nat.le_of_ble_eq_true rfl⟩) (hF.prv hH (hF.rcv hH (k0 := b) (by omega) hsb rfl) [.ref (zK Z i)]) rfl rfl hl.1 rfl (lv_room (Nat.le_of_ble_eq_true rfl)) dJ4_append_15ec4_2 ⟨Nat.le_of_ble_eq_true rfl, Nat.le_of_ble_eq_true rfl⟩) hH (fun E3 g4 σ1 H locs hp2 hH => ?_)
  obtain ⟨eg4, hp5⟩ := hp2
  rw [eg4]
  obtain ⟨hR6, fcw_0, hsb, ⟨N8, G9, hsr, hk12, hk13, h710, hG11⟩, fr7⟩ := hp5
  have hxxE3 : xx E3 = xx E := hR6.2.2.1
  have hF := hF.mv hR6.1 hR6.2.1
  have hK := hF.2.2.2.2.2.1
  rw [← hR6.2.2.2 b (by omega) (by omega)] at hl
  refine lv_pop hx hb dJ4_append_15ec4_5 rfl ?_
  refine lv_aload_n hx hb dJ4_append_15ec4_6 rfl (lv_at hl 0 rfl) ?_
  subst hQ
  exact x_oret (post := (fun (Ez : xE) (g : Nat) (u : xW) => g = b ∧ sbP E σ B S Y b r (n + slZ i) (n + slZ i) (catZ n G (scZ i)) Ez u)) hx hb hr hlocks hH (Nat.le_of_ble_eq_true rfl) (Nat.le_of_ble_eq_true rfl) ⟨rfl, hR6, fcw_0, hsb, ⟨_, _, hsr, by omega, by omega, h710, hG11⟩, fun j h1 h2 h3 h4 => (fr7 j (by omega) (by omega) (by omega) (by omega))⟩ dJ4_append_15ec4_7

def rm_J4_append_d : Room := { frames := 5, cells := 1, slots := 130, locals := 116 }
set_option maxRecDepth 100000 in
set_option maxHeartbeats 4000000 in
theorem c_J4_append_d (l : Launch) (E : xE) (ST : xST) (hSF : SF ST) (Z : zE) (hSQ : SQ Z ST) (σ : xW) (b : Nat) (r : Nat) (N : Nat) (k : Nat) (q : Nat) (M : Nat) (n : Int) (G : Int → Int) (F : Int → Int) (B : BT) (S : Option BT) (Y : lnQ) (hr0 : cw E σ B S Y) (hbr : 85 ≤ b ∧ b < 85 + xx E ∧ 85 ≤ r ∧ r < 85 + xx E ∧ ¬ b = r) (hsb : σ b = oSb E r n) (hsr : σ r = aY E N G) (hnN : 0 ≤ n ∧ n ≤ N ∧ N ≤ 130) (h7 : lt7 N G) (hkk : k < 85 + xx E) (hst : σ k = oSt E q) (hqq : q < 85 + xx E) (hsq : σ q = aY E M F) (hm : n + M ≤ 64) (h77 : lt7 M F) (hkr : 85 ≤ k ∧ 85 ≤ q ∧ ¬ k = b ∧ ¬ k = r ∧ ¬ q = b ∧ ¬ q = r) : CR l E ST yJ4_append_15ec4 wsJ4_append_15ec4 rm_J4_append_d [.ref (xad E b), .ref (xad E k)] σ (fun (Ez : xE) (g : Nat) (u : xW) => g = b ∧ sbP E σ B S Y b r (n + ((M : Nat) : Int)) (n + ((M : Nat) : Int)) (catZ n G F) Ez u) := by
  have fcw_0 : cw E σ B S Y := hr0
  refine CR_of (by decide) rfl (Nat.le_of_ble_eq_true rfl) ?_
  intro p e s m args below meth c Q ls G hH hl hQ
  obtain ⟨hx, hb, hml, hown, hts, hK, hST, hlocks, hr, hno⟩ := G
  have hOK := hSF.1
  have hown : s.vm.findClass RJ4 = some m.cls := hown
  have hl : lv_has ls 2 [(0, .ref (xad E b)), (1, .ref (xad E k))] := hl
  have hF : xCf p E ST (xA E s.heap.size) s m args c cJ4_append_15ec4 2 wsJ4_append_15ec4 RJ4 := ⟨hx, hb, hml, hown, hts, hK, hST, hOK⟩
  have hlk9 : meth.locks = false := hlocks
  refine lv_aload_n hx hb dJ4_append_15ec4_0 rfl (lv_at hl 0 rfl) ?_
  refine lv_aload_n hx hb dJ4_append_15ec4_1 rfl (lv_at hl 1 rfl) ?_
  refine x_aftR (c_J5_append_d l E ST hSF Z hSQ σ b r N k q M n G F B S Y fcw_0 (by omega) hsb hsr (by omega) h7 (by omega) hst (by omega) hsq (by omega) h77 (by omega)) (va_runSU (hK.1 6 (RJ4, TJ4, 4) rfl).2 (As := [.ref (xad E k)]) (rest := []) hF.fx ((c_J5_append_d l E ST hSF Z hSQ σ b r N k q M n G F B S Y fcw_0 (by omega) hsb hsr (by omega) h7 (by omega) hst (by omega) hsq (by omega) h77 (by omega)) _) (va_cwSU 1 hts gJ4_append_15ec4_J5_append_cf1ce_s29 rfl rfl rfl (by decide +kernel) ⟨Nat.le_of_ble_eq_true rfl, Nat.le_of_ble_eq_true rfl⟩) (hF.prv hH (hF.rcv hH (k0 := b) (by omega) hsb rfl) [.ref (xad E k)]) rfl rfl hl.1 rfl (lv_room (Nat.le_of_ble_eq_true rfl)) dJ4_append_15ec4_2 ⟨Nat.le_of_ble_eq_true rfl, Nat.le_of_ble_eq_true rfl⟩) hH (fun E3 g4 σ1 H locs hp2 hH => ?_)
  obtain ⟨eg4, hp5⟩ := hp2
  rw [eg4]
  obtain ⟨hR6, fcw_0, hsb, ⟨N8, G9, hsr, hk12, hk13, h710, hG11⟩, fr7⟩ := hp5
  have hxxE3 : xx E3 = xx E := hR6.2.2.1
  rw [← (hR6.2.2.2 k (by omega) (by omega))] at hl
  have hst : σ1 k = oB 5 [.ref (xad E3 q), .int (iZ 0), .int (iZ 0), .int (iZ 0)] := (by rw [(fr7 k (by omega) (by omega) (by omega) (by omega)), hst, (hR6.2.2.2 q (by omega) (by omega))])
  have hsq : σ1 q = aY E3 M F := ((fr7 q (by omega) (by omega) (by omega) (by omega)).trans hsq).trans hR6.aY.symm
  have hF := hF.mv hR6.1 hR6.2.1
  have hK := hF.2.2.2.2.2.1
  rw [← hR6.2.2.2 b (by omega) (by omega)] at hl
  refine lv_pop hx hb dJ4_append_15ec4_5 rfl ?_
  refine lv_aload_n hx hb dJ4_append_15ec4_6 rfl (lv_at hl 0 rfl) ?_
  subst hQ
  exact x_oret (post := (fun (Ez : xE) (g : Nat) (u : xW) => g = b ∧ sbP E σ B S Y b r (n + ((M : Nat) : Int)) (n + ((M : Nat) : Int)) (catZ n G F) Ez u)) hx hb hr hlocks hH (Nat.le_of_ble_eq_true rfl) (Nat.le_of_ble_eq_true rfl) ⟨rfl, hR6, fcw_0, hsb, ⟨_, _, hsr, by omega, by omega, h710, hG11⟩, fun j h1 h2 h3 h4 => (fr7 j (by omega) (by omega) (by omega) (by omega))⟩ dJ4_append_15ec4_7

def rm_J5_append_3fe6f : Room := { frames := 4, cells := 1, slots := 130, locals := 94 }
set_option maxRecDepth 100000 in
set_option maxHeartbeats 4000000 in
theorem c_J5_append_3fe6f (l : Launch) (E : xE) (ST : xST) (hSF : SF ST) (Z : zE) (hSQ : SQ Z ST) (σ : xW) (b : Nat) (r : Nat) (N : Nat) (n : Int) (c9 : Int) (G : Int → Int) (B : BT) (S : Option BT) (Y : lnQ) (hr0 : cw E σ B S Y) (hbr : 85 ≤ b ∧ b < 85 + xx E ∧ 85 ≤ r ∧ r < 85 + xx E ∧ ¬ b = r) (hsb : σ b = oSb E r n) (hsr : σ r = aY E N G) (hnN : 0 ≤ n ∧ n ≤ N ∧ N ≤ 130) (h7 : lt7 N G) (hc : 0 ≤ c9 ∧ c9 ≤ 127) (hm : n + 1 ≤ 64) : CR l E ST yJ5_append_3fe6f wsJ5_append_3fe6f rm_J5_append_3fe6f [.ref (xad E b), .int (iZ c9)] σ (fun (Ez : xE) (g : Nat) (u : xW) => g = b ∧ sbP E σ B S Y b r (n + 1) (n + 1) (catZ n G (fun _ => c9)) Ez u) := by
  have fcw_0 : cw E σ B S Y := hr0
  refine CR_of (by decide) rfl (Nat.le_of_ble_eq_true rfl) ?_
  intro p e s m args below meth c Q ls G hH hl hQ
  obtain ⟨hx, hb, hml, hown, hts, hK, hST, hlocks, hr, hno⟩ := G
  have hOK := hSF.1
  have hown : s.vm.findClass RJ5 = some m.cls := hown
  have hl : lv_has ls 2 [(0, .ref (xad E b)), (1, .int (iZ c9))] := hl
  have hinJ4 : ∀ w ∈ u_ws RJ4 TJ4 4, w ∈ wsJ5_append_3fe6f := fun w h => (List.mem_cons_of_mem _ (List.mem_append_right _ h))
  have hF : xCf p E ST (xA E s.heap.size) s m args c cJ5_append_3fe6f 2 wsJ5_append_3fe6f RJ5 := ⟨hx, hb, hml, hown, hts, hK, hST, hOK⟩
  have hlk9 : meth.locks = false := hlocks
  refine lv_aload_n hx hb dJ5_append_3fe6f_0 rfl (lv_at hl 0 rfl) ?_
  refine lv_aload_n hx hb dJ5_append_3fe6f_1 rfl (lv_at hl 0 rfl) ?_
  refine x_get hx hb hts hown hK hH b (by omega) hsb hinJ4 rfl 3 (by decide) (List.mem_of_getElem? (i := 1) rfl) rfl dJ5_append_3fe6f_2 ?_
  refine x_iconst hx hb dJ5_append_3fe6f_5 ?_
  refine x_iadd hx hb dJ5_append_3fe6f_6 ?_
  refine x_aftG (c_J5_ensureCapacityInternal_d00df l E ST hSF Z hSQ σ b r N n (n + 1) G B S Y fcw_0 (by omega) hsb hsr (by omega) h7 (by omega)) (va_runU (As := [.int (iZ (n + 1))]) (rest := []) hF.fx ((c_J5_ensureCapacityInternal_d00df l E ST hSF Z hSQ σ b r N n (n + 1) G B S Y fcw_0 (by omega) hsb hsr (by omega) h7 (by omega)) _) (va_cwU 1 hts gJ5_append_3fe6f_J5_ensureCapacityInternal_d00df_u100J4 rfl rfl rfl rfl (by decide +kernel) ⟨Nat.le_of_ble_eq_true rfl, Nat.le_of_ble_eq_true rfl⟩) (hF.prv hH (hF.rcv hH (k0 := b) (by omega) hsb rfl) [.int (iZ (n + 1))]) rfl rfl hl.1 rfl (lv_room (Nat.le_of_ble_eq_true rfl)) dJ5_append_3fe6f_7 ⟨Nat.le_of_ble_eq_true rfl, Nat.le_of_ble_eq_true rfl⟩) hH (fun E3 σ1 H locs hp2 hH => ?_)
  obtain ⟨hR4, fcw_0, hsb, ⟨N6, G7, hsr, hk10, hk11, h78, hG9⟩, fr5⟩ := hp2
  have hxxE3 : xx E3 = xx E := hR4.2.2.1
  have hF := hF.mv hR4.1 hR4.2.1
  have hK := hF.2.2.2.2.2.1
  rw [← hR4.2.2.2 b (by omega) (by omega)] at hl
  refine lv_aload_n hx hb dJ5_append_3fe6f_10 rfl (lv_at hl 0 rfl) ?_
  refine x_aftI (va_runU (As := []) (rest := []) hF.fx ((c_J5_isLatin1_aae02 l E3 ST hSF Z hSQ σ1 b r n (by omega) hsb) _) (va_cwU 0 hts gJ5_append_3fe6f_J5_isLatin1_aae02_u83J4 rfl rfl rfl rfl (by decide +kernel) ⟨Nat.le_of_ble_eq_true rfl, Nat.le_of_ble_eq_true rfl⟩) (hF.prv hH (hF.rcv hH (k0 := b) (by omega) hsb rfl) []) rfl rfl hl.1 rfl (lv_room (Nat.le_of_ble_eq_true rfl)) dJ5_append_3fe6f_11 ⟨Nat.le_of_ble_eq_true rfl, Nat.le_of_ble_eq_true rfl⟩) hH (fun z14 σ12 H locs hp13 hH => ?_)
  obtain ⟨hz15, hu16⟩ := hp13
  rw [hu16] at hH
  rw [hz15]
  refine x_if_eq (tgt := 45) hx hb dJ5_append_3fe6f_14 (by decide) (rg_b2 _) (fun c14 => ?_) (fun c14 => ?_)
  · exact absurd c14 (by decide)
  · refine lv_iload_n hx hb dJ5_append_3fe6f_17 rfl (lv_at hl 1 rfl) ?_
    refine x_aftI (va_runS (As := [.int (iZ c9)]) (rest := []) hF.fx ((c_J1_canEncode_fc78d l E3 ST hSF Z hSQ σ1 c9 (by omega)) _) (va_cwS 1 hts gJ5_append_3fe6f_J1_canEncode_fc78d rfl rfl rfl (by decide +kernel) ⟨Nat.le_of_ble_eq_true rfl, Nat.le_of_ble_eq_true rfl⟩) (hF.pre hH [.int (iZ c9)]) rfl rfl hl.1 rfl (lv_room (Nat.le_of_ble_eq_true rfl)) dJ5_append_3fe6f_18 ⟨Nat.le_of_ble_eq_true rfl, Nat.le_of_ble_eq_true rfl⟩) hH (fun z19 σ17 H locs hp18 hH => ?_)
    obtain ⟨hz20, hu21⟩ := hp18
    rw [hu21] at hH
    rw [hz20]
    refine x_if_eq (tgt := 45) hx hb dJ5_append_3fe6f_21 (by decide) (rg_b2 _) (fun c21 => ?_) (fun c21 => ?_)
    · exact absurd c21 (by decide)
    · refine lv_aload_n hx hb dJ5_append_3fe6f_24 rfl (lv_at hl 0 rfl) ?_
      refine x_get hx hb hts hown hK hH b (by omega) hsb hinJ4 rfl 0 (by decide) (List.mem_of_getElem? (i := 2) rfl) rfl dJ5_append_3fe6f_25 ?_
      refine lv_aload_n hx hb dJ5_append_3fe6f_28 rfl (lv_at hl 0 rfl) ?_
      refine lv_dup hx hb dJ5_append_3fe6f_29 rfl ?_
      refine x_get hx hb hts hown hK hH b (by omega) hsb hinJ4 rfl 3 (by decide) (List.mem_of_getElem? (i := 1) rfl) rfl dJ5_append_3fe6f_30 ?_
      refine lv_dup_x1 hx hb dJ5_append_3fe6f_33 rfl rfl ?_
      refine x_iconst hx hb dJ5_append_3fe6f_34 ?_
      refine x_iadd hx hb dJ5_append_3fe6f_35 ?_
      refine x_put (fs' := [.ref (xad E3 r), .int (iZ 0), .int (iZ 0), .int (iZ (n + 1))]) hx hb hts hown hK hH b (by omega) hsb hinJ4 rfl tyJ4 tyJ4_ok nmJ4 3 (by decide) (List.mem_of_getElem? (i := 1) rfl) rfl (ty := .int) (by decide +kernel) rfl rfl (Nat.le_of_ble_eq_true rfl) rfl dJ5_append_3fe6f_36 (fun σ22 H locs hsb fr23 hH => ?_)
      have fcw_0 := fcw_0.fr (fun j hj9 => fr23 j (by omega))
      have hsr : σ22 r = aY E3 N6 G7 := (fr23 r (by omega)).trans hsr
      refine lv_iload_n hx hb dJ5_append_3fe6f_39 rfl (lv_at hl 1 rfl) ?_
      refine lv_i2b hx hb dJ5_append_3fe6f_40 (nar_byte (x := c9) (by omega) (by omega)).2.1 ?_
      refine x_yast hx hb hK hH r (by omega) hsr (by omega) (by omega) (by omega) (by omega) (by omega) dJ5_append_3fe6f_41 (fun σ24 H locs hsr fr25 hH => ?_)
      have fcw_0 := fcw_0.fr (fun j hj9 => fr25 j (by omega))
      have hsb : σ24 b = oB 6 [.ref (xad E3 r), .int (iZ 0), .int (iZ 0), .int (iZ (n + 1))] := (fr25 b (by omega)).trans hsb
      refine lv_goto (tgt := 75) hx hb dJ5_append_3fe6f_42 (by decide) ?_
      refine lv_aload_n hx hb dJ5_append_3fe6f_75 rfl (lv_at hl 0 rfl) ?_
      subst hQ
      exact x_oret (post := (fun (Ez : xE) (g : Nat) (u : xW) => g = b ∧ sbP E σ B S Y b r (n + 1) (n + 1) (catZ n G (fun _ => c9)) Ez u)) hx hb hr hlocks hH (Nat.le_of_ble_eq_true rfl) (Nat.le_of_ble_eq_true rfl) ⟨rfl, hR4, fcw_0, hsb, ⟨_, _, hsr, by omega, by omega, lt7_ui h78 (by omega) (by omega), ui_cat hG9⟩, fun j h1 h2 h3 h4 => ((fr25 j (by omega)).trans ((fr23 j (by omega)).trans (fr5 j (by omega) (by omega) (by omega) (by omega))))⟩ dJ5_append_3fe6f_76

def rm_J4_append_cf468 : Room := { frames := 5, cells := 1, slots := 130, locals := 115 }
set_option maxRecDepth 100000 in
set_option maxHeartbeats 4000000 in
theorem c_J4_append_cf468 (l : Launch) (E : xE) (ST : xST) (hSF : SF ST) (Z : zE) (hSQ : SQ Z ST) (σ : xW) (b : Nat) (r : Nat) (N : Nat) (n : Int) (c9 : Int) (G : Int → Int) (B : BT) (S : Option BT) (Y : lnQ) (hr0 : cw E σ B S Y) (hbr : 85 ≤ b ∧ b < 85 + xx E ∧ 85 ≤ r ∧ r < 85 + xx E ∧ ¬ b = r) (hsb : σ b = oSb E r n) (hsr : σ r = aY E N G) (hnN : 0 ≤ n ∧ n ≤ N ∧ N ≤ 130) (h7 : lt7 N G) (hc : 0 ≤ c9 ∧ c9 ≤ 127) (hm : n + 1 ≤ 64) : CR l E ST yJ4_append_cf468 wsJ4_append_cf468 rm_J4_append_cf468 [.ref (xad E b), .int (iZ c9)] σ (fun (Ez : xE) (g : Nat) (u : xW) => g = b ∧ sbP E σ B S Y b r (n + 1) (n + 1) (catZ n G (fun _ => c9)) Ez u) := by
  have fcw_0 : cw E σ B S Y := hr0
  refine CR_of (by decide) rfl (Nat.le_of_ble_eq_true rfl) ?_
  intro p e s m args below meth c Q ls G hH hl hQ
  obtain ⟨hx, hb, hml, hown, hts, hK, hST, hlocks, hr, hno⟩ := G
  have hOK := hSF.1
  have hown : s.vm.findClass RJ4 = some m.cls := hown
  have hl : lv_has ls 2 [(0, .ref (xad E b)), (1, .int (iZ c9))] := hl
  have hF : xCf p E ST (xA E s.heap.size) s m args c cJ4_append_cf468 2 wsJ4_append_cf468 RJ4 := ⟨hx, hb, hml, hown, hts, hK, hST, hOK⟩
  have hlk9 : meth.locks = false := hlocks
  refine lv_aload_n hx hb dJ4_append_cf468_0 rfl (lv_at hl 0 rfl) ?_
  refine lv_iload_n hx hb dJ4_append_cf468_1 rfl (lv_at hl 1 rfl) ?_
  refine x_aftR (c_J5_append_3fe6f l E ST hSF Z hSQ σ b r N n c9 G B S Y fcw_0 (by omega) hsb hsr (by omega) h7 (by omega) (by omega)) (va_runSU (hK.1 6 (RJ4, TJ4, 4) rfl).2 (As := [.int (iZ c9)]) (rest := []) hF.fx ((c_J5_append_3fe6f l E ST hSF Z hSQ σ b r N n c9 G B S Y fcw_0 (by omega) hsb hsr (by omega) h7 (by omega) (by omega)) _) (va_cwSU 1 hts gJ4_append_cf468_J5_append_3fe6f_s50 rfl rfl rfl (by decide +kernel) ⟨Nat.le_of_ble_eq_true rfl, Nat.le_of_ble_eq_true rfl⟩) (hF.prv hH (hF.rcv hH (k0 := b) (by omega) hsb rfl) [.int (iZ c9)]) rfl rfl hl.1 rfl (lv_room (Nat.le_of_ble_eq_true rfl)) dJ4_append_cf468_2 ⟨Nat.le_of_ble_eq_true rfl, Nat.le_of_ble_eq_true rfl⟩) hH (fun E3 g4 σ1 H locs hp2 hH => ?_)
  obtain ⟨eg4, hp5⟩ := hp2
  rw [eg4]
  obtain ⟨hR6, fcw_0, hsb, ⟨N8, G9, hsr, hk12, hk13, h710, hG11⟩, fr7⟩ := hp5
  have hxxE3 : xx E3 = xx E := hR6.2.2.1
  have hF := hF.mv hR6.1 hR6.2.1
  have hK := hF.2.2.2.2.2.1
  rw [← hR6.2.2.2 b (by omega) (by omega)] at hl
  refine lv_pop hx hb dJ4_append_cf468_5 rfl ?_
  refine lv_aload_n hx hb dJ4_append_cf468_6 rfl (lv_at hl 0 rfl) ?_
  subst hQ
  exact x_oret (post := (fun (Ez : xE) (g : Nat) (u : xW) => g = b ∧ sbP E σ B S Y b r (n + 1) (n + 1) (catZ n G (fun _ => c9)) Ez u)) hx hb hr hlocks hH (Nat.le_of_ble_eq_true rfl) (Nat.le_of_ble_eq_true rfl) ⟨rfl, hR6, fcw_0, hsb, ⟨_, _, hsr, by omega, by omega, h710, hG11⟩, fun j h1 h2 h3 h4 => (fr7 j (by omega) (by omega) (by omega) (by omega))⟩ dJ4_append_cf468_7

def rm_J5_init_d00df : Room := { frames := 1, cells := 1, slots := 16, locals := 24 }
set_option maxRecDepth 100000 in
set_option maxHeartbeats 4000000 in
theorem c_J5_init_d00df (l : Launch) (E : xE) (ST : xST) (hSF : SF ST) (Z : zE) (hSQ : SQ Z ST) (σ : xW) (b : Nat) (B : BT) (S : Option BT) (Y : lnQ) (hr0 : cw E σ B S Y) (hbb : 85 ≤ b ∧ b < 85 + xx E) (hsb : σ b = oB 6 [.null, .int (iZ 0), .int (iZ 0), .int (iZ 0)]) : CG l E ST yJ5_init_d00df wsJ5_init_d00df rm_J5_init_d00df [.ref (xad E b), .int (iZ 16)] σ (fun (Ez : xE) (u : xW) => ∃ g : Nat, xE1 E Ez g ∧ cw Ez u B S Y ∧ u b = oSb Ez g 0 ∧ u g = aY Ez 16 (fun _ => 0) ∧ ∀ j : Nat, 85 ≤ j → j < 85 + xx E → j ≠ b → u j = σ j) := by
  have fcw_0 : cw E σ B S Y := hr0
  refine CG_of (by decide) rfl (Nat.le_of_ble_eq_true rfl) ?_
  intro p e s m args below meth c Q ls G hname hH hl hQ
  obtain ⟨hx, hb, hml, hown, hts, hK, hST, hlocks, hr, hno⟩ := G
  have hOK := hSF.1
  have hown : s.vm.findClass RJ5 = some m.cls := hown
  have hl : lv_has ls 2 [(0, .ref (xad E b)), (1, .int (iZ 16))] := hl
  have hinJ4 : ∀ w ∈ u_ws RJ4 TJ4 4, w ∈ wsJ5_init_d00df := fun w h => (List.mem_cons_of_mem _ (List.mem_append_right _ h))
  have hF : xCf p E ST (xA E s.heap.size) s m args c cJ5_init_d00df 2 wsJ5_init_d00df RJ5 := ⟨hx, hb, hml, hown, hts, hK, hST, hOK⟩
  have hlk9 : meth.locks = false := hlocks
  refine lv_aload_n hx hb dJ5_init_d00df_0 rfl (lv_at hl 0 rfl) ?_
  refine W.objInit hx hb hown (hts _ (List.mem_of_getElem? (i := 1) rfl)) (hts _ (List.mem_of_getElem? (i := 2) rfl)) (hts _ (List.mem_of_getElem? (i := 3) rfl)) rfl (by rw [hml]; exact hl.1) rfl dJ5_init_d00df_1 (Nat.le_of_ble_eq_true rfl) (Nat.le_of_ble_eq_true rfl) ?_
  refine W.eq (g2 := F0 m 4 ls []) rfl ?_
  refine x_gcs hx hb hSQ hST hH hown hts (List.mem_of_getElem? (i := 4) rfl) dJ5_init_d00df_4 ?_
  refine x_if_eq (tgt := 25) hx hb dJ5_init_d00df_7 (by decide) (by decide) (fun c7 => ?_) (fun c7 => ?_)
  · exact absurd c7 (by decide)
  · refine lv_aload_n hx hb dJ5_init_d00df_10 rfl (lv_at hl 0 rfl) ?_
    refine lv_iload_n hx hb dJ5_init_d00df_11 rfl (lv_at hl 1 rfl) ?_
    refine x_newY (n := 16) (N := 16) hx hb hts hK hH fcw_0 (List.mem_of_getElem? (i := 5) rfl) 16 (by omega) (by omega) (by decide) (Nat.le_of_ble_eq_true rfl) (Nat.le_of_ble_eq_true rfl) dJ5_init_d00df_12 (fun E1 g2 σ3 H hE5 hK hH fcw_0 fg2_0 fr4 => ?_)
    have hgg2 := hE5.lt
    have hxxE1 : xx E1 = xx E + 1 := hE5.2.2.2.1
    rw [← (hE5.ad (k := b) (by omega))] at hl
    rw [← (hE5.ad (k := b) (by omega))] at ⊢
    have hsb : σ3 b = oB 6 [.null, .int (iZ 0), .int (iZ 0), .int (iZ 0)] := (by rw [(fr4 b (by omega) (by omega)), hsb])
    have hF := hF.mv hE5.1 hE5.2.1
    have hK := hF.2.2.2.2.2.1
    refine x_put (fs' := [.ref (xad E1 g2), .int (iZ 0), .int (iZ 0), .int (iZ 0)]) hx hb hts hown hK hH b (by omega) hsb hinJ4 rfl tyJ4 tyJ4_ok nmJ4 0 (by decide) (List.mem_of_getElem? (i := 6) rfl) rfl (ty := (.array .byte)) (by decide +kernel) rfl rfl (Nat.le_of_ble_eq_true rfl) rfl dJ5_init_d00df_14 (fun σ6 H locs hsb fr7 hH => ?_)
    have fcw_0 := fcw_0.fr (fun j hj9 => fr7 j (by omega))
    have fg2_0 : σ6 g2 = aY E1 16 (fun _ => 0) := (fr7 g2 (by omega)).trans fg2_0
    refine lv_aload_n hx hb dJ5_init_d00df_17 rfl (lv_at hl 0 rfl) ?_
    refine x_iconst hx hb dJ5_init_d00df_18 ?_
    refine x_put (fs' := [.ref (xad E1 g2), .int (iZ 0), .int (iZ 0), .int (iZ 0)]) hx hb hts hown hK hH b (by omega) hsb hinJ4 rfl tyJ4 tyJ4_ok nmJ4 1 (by decide) (List.mem_of_getElem? (i := 7) rfl) rfl (ty := .byte) (by decide +kernel) (by decide) (by decide) (Nat.le_of_ble_eq_true rfl) rfl dJ5_init_d00df_19 (fun σ8 H locs hsb fr9 hH => ?_)
    have fcw_0 := fcw_0.fr (fun j hj9 => fr9 j (by omega))
    have fg2_0 : σ8 g2 = aY E1 16 (fun _ => 0) := (fr9 g2 (by omega)).trans fg2_0
    refine lv_goto (tgt := 38) hx hb dJ5_init_d00df_22 (by decide) ?_
    subst hQ
    exact x_gret (post := (fun (Ez : xE) (u : xW) => ∃ g : Nat, xE1 E Ez g ∧ cw Ez u B S Y ∧ u b = oSb Ez g 0 ∧ u g = aY Ez 16 (fun _ => 0) ∧ ∀ j : Nat, 85 ≤ j → j < 85 + xx E → j ≠ b → u j = σ j)) hx hb hr hlocks hH (Nat.le_of_ble_eq_true rfl) (Nat.le_of_ble_eq_true rfl) ⟨_, hE5, fcw_0, hsb, fg2_0, fun j h1 h2 h3 => ((fr9 j (by omega)).trans ((fr7 j (by omega)).trans (fr4 j (by omega) (by omega))))⟩ dJ5_init_d00df_38

def rm_J4_init_da8c8 : Room := { frames := 2, cells := 1, slots := 16, locals := 45 }
set_option maxRecDepth 100000 in
set_option maxHeartbeats 4000000 in
theorem c_J4_init_da8c8 (l : Launch) (E : xE) (ST : xST) (hSF : SF ST) (Z : zE) (hSQ : SQ Z ST) (σ : xW) (b : Nat) (B : BT) (S : Option BT) (Y : lnQ) (hr0 : cw E σ B S Y) (hbb : 85 ≤ b ∧ b < 85 + xx E) (hsb : σ b = oB 6 [.null, .int (iZ 0), .int (iZ 0), .int (iZ 0)]) : CG l E ST yJ4_init_da8c8 wsJ4_init_da8c8 rm_J4_init_da8c8 [.ref (xad E b)] σ (fun (Ez : xE) (u : xW) => ∃ g : Nat, xE1 E Ez g ∧ cw Ez u B S Y ∧ u b = oSb Ez g 0 ∧ u g = aY Ez 16 (fun _ => 0) ∧ ∀ j : Nat, 85 ≤ j → j < 85 + xx E → j ≠ b → u j = σ j) := by
  have fcw_0 : cw E σ B S Y := hr0
  refine CG_of (by decide) rfl (Nat.le_of_ble_eq_true rfl) ?_
  intro p e s m args below meth c Q ls G hname hH hl hQ
  obtain ⟨hx, hb, hml, hown, hts, hK, hST, hlocks, hr, hno⟩ := G
  have hOK := hSF.1
  have hown : s.vm.findClass RJ4 = some m.cls := hown
  have hl : lv_has ls 1 [(0, .ref (xad E b))] := hl
  have hF : xCf p E ST (xA E s.heap.size) s m args c cJ4_init_da8c8 1 wsJ4_init_da8c8 RJ4 := ⟨hx, hb, hml, hown, hts, hK, hST, hOK⟩
  have hlk9 : meth.locks = false := hlocks
  refine lv_aload_n hx hb dJ4_init_da8c8_0 rfl (lv_at hl 0 rfl) ?_
  refine x_bipush hx hb dJ4_init_da8c8_1 (by decide) ?_
  refine x_aftG (c_J5_init_d00df l E ST hSF Z hSQ σ b B S Y fcw_0 (by omega) hsb) (va_runI (As := [.int (iZ 16)]) (rest := []) hF.fx ((c_J5_init_d00df l E ST hSF Z hSQ σ b B S Y fcw_0 (by omega) hsb) _) (cwI 1 hts gJ4_init_da8c8_J5_init_d00df rfl rfl rfl (hts _ (List.mem_of_getElem? (i := 3) rfl)) (hts _ (List.mem_of_getElem? (i := 1) rfl)) (hts _ (List.mem_of_getElem? (i := 2) rfl)) rfl (by decide +kernel) ⟨Nat.le_of_ble_eq_true rfl, Nat.le_of_ble_eq_true rfl⟩) (hF.pre hH [.ref (xad E b), .int (iZ 16)]) rfl rfl hl.1 rfl (lv_room (Nat.le_of_ble_eq_true rfl)) dJ4_init_da8c8_3 ⟨Nat.le_of_ble_eq_true rfl, Nat.le_of_ble_eq_true rfl⟩) hH (fun E3 σ1 H locs hp2 hH => ?_)
  obtain ⟨g4, hE5, fcw_0, hsb, fg4_0, fr6⟩ := hp2
  have hgg4 := hE5.lt
  have hxxE3 : xx E3 = xx E + 1 := hE5.2.2.2.1
  have hF := hF.mv hE5.1 hE5.2.1
  have hK := hF.2.2.2.2.2.1
  rw [← hE5.ad (k := b) (by omega)] at hl
  subst hQ
  exact x_gret (post := (fun (Ez : xE) (u : xW) => ∃ g : Nat, xE1 E Ez g ∧ cw Ez u B S Y ∧ u b = oSb Ez g 0 ∧ u g = aY Ez 16 (fun _ => 0) ∧ ∀ j : Nat, 85 ≤ j → j < 85 + xx E → j ≠ b → u j = σ j)) hx hb hr hlocks hH (Nat.le_of_ble_eq_true rfl) (Nat.le_of_ble_eq_true rfl) ⟨_, hE5, fcw_0, hsb, fg4_0, fun j h1 h2 h3 => (fr6 j (by omega) (by omega) (by omega))⟩ dJ4_init_da8c8_6

def rm_J0_init_db425 : Room := { frames := 3, cells := 1, slots := 130, locals := 86 }
set_option maxRecDepth 100000 in
set_option maxHeartbeats 4000000 in
theorem c_J0_init_db425 (l : Launch) (E : xE) (ST : xST) (hSF : SF ST) (Z : zE) (hSQ : SQ Z ST) (σ : xW) (t : Nat) (b : Nat) (r : Nat) (N : Nat) (ml : Nat) (G : Int → Int) (B : BT) (S : Option BT) (Y : lnQ) (hr0 : cw E σ B S Y) (hbr : 85 ≤ b ∧ b < 85 + xx E ∧ 85 ≤ r ∧ r < 85 + xx E ∧ ¬ b = r) (hsb : σ b = oSb E r (ml : Int)) (hsr : σ r = aY E N G) (hnN : ml ≤ N ∧ N ≤ 130) (h7 : lt7 N G) (htt : 85 ≤ t ∧ t < 85 + xx E ∧ ¬ t = b ∧ ¬ t = r) (hst : σ t = oB 5 [.null, .int (iZ 0), .int (iZ 0), .int (iZ 0)]) : CG l E ST yJ0_init_db425 wsJ0_init_db425 rm_J0_init_db425 [.ref (xad E t), .ref (xad E b), .null] σ (fun (Ez : xE) (u : xW) => ∃ g : Nat, xE1 E Ez g ∧ cw Ez u B S Y ∧ u t = oSt Ez g ∧ (∃ F : Int → Int, u g = aY Ez ml F ∧ lt7 ml F ∧ ∀ j : Int, 0 ≤ j → j < ml → F j = G j) ∧ ∀ j : Nat, 85 ≤ j → j < 85 + xx E → j ≠ t → u j = σ j) := by
  have fcw_0 : cw E σ B S Y := hr0
  refine CG_of (by decide) rfl (Nat.le_of_ble_eq_true rfl) ?_
  intro p e s m args below meth c Q ls G hname hH hl hQ
  obtain ⟨hx, hb, hml, hown, hts, hK, hST, hlocks, hr, hno⟩ := G
  have hOK := hSF.1
  have hown : s.vm.findClass RJ0 = some m.cls := hown
  have hl : lv_has ls 5 [(0, .ref (xad E t)), (1, .ref (xad E b)), (2, .null)] := hl
  have hinJ0 : ∀ w ∈ u_ws RJ0 TJ0 4, w ∈ wsJ0_init_db425 := fun w h => (List.mem_cons_of_mem _ (List.mem_append_left _ (List.mem_append_right _ h)))
  have hF : xCf p E ST (xA E s.heap.size) s m args c cJ0_init_db425 5 wsJ0_init_db425 RJ0 := ⟨hx, hb, hml, hown, hts, hK, hST, hOK⟩
  have hlk9 : meth.locks = false := hlocks
  refine lv_aload_n hx hb dJ0_init_db425_0 rfl (lv_at hl 0 rfl) ?_
  refine W.objInit hx hb hown (hts _ (List.mem_of_getElem? (i := 1) rfl)) (hts _ (List.mem_of_getElem? (i := 2) rfl)) (hts _ (List.mem_of_getElem? (i := 3) rfl)) rfl (by rw [hml]; exact hl.1) rfl dJ0_init_db425_1 (Nat.le_of_ble_eq_true rfl) (Nat.le_of_ble_eq_true rfl) ?_
  refine W.eq (g2 := F0 m 4 ls []) rfl ?_
  refine lv_aload_n hx hb dJ0_init_db425_4 rfl (lv_at hl 1 rfl) ?_
  refine x_aftR (c_J5_getValue_6d5f1 l E ST hSF Z hSQ σ b r (ml : Int) (by omega) hsb) (va_runU (As := []) (rest := []) hF.fx ((c_J5_getValue_6d5f1 l E ST hSF Z hSQ σ b r (ml : Int) (by omega) hsb) _) (va_cwU 0 hts gJ0_init_db425_J5_getValue_6d5f1_u552J4 rfl rfl rfl rfl (by decide +kernel) ⟨Nat.le_of_ble_eq_true rfl, Nat.le_of_ble_eq_true rfl⟩) (hF.prv hH (hF.rcv hH (k0 := b) (by omega) hsb rfl) []) rfl rfl hl.1 rfl (lv_room (Nat.le_of_ble_eq_true rfl)) dJ0_init_db425_5 ⟨Nat.le_of_ble_eq_true rfl, Nat.le_of_ble_eq_true rfl⟩) hH (fun E3 g4 σ1 H locs hp2 hH => ?_)
  obtain ⟨e1, e2, e3⟩ := hp2
  rw [e1, e3] at hH
  rw [e1, e2]
  refine lv_astore_n (lv' := [(3, .ref (xad E r)), (0, .ref (xad E t)), (1, .ref (xad E b)), (2, .null)]) hx hb dJ0_init_db425_8 rfl hl (by decide) rfl (fun ls hl => ?_)
  refine lv_aload_n hx hb dJ0_init_db425_9 rfl (lv_at hl 2 rfl) ?_
  refine x_aftI (va_runU (As := []) (rest := []) hF.fx ((c_J4_length_8abf5 l E ST hSF Z hSQ σ b r (ml : Int) (by omega) hsb) _) (va_cwO 0 hts gJ0_init_db425_J4_length_8abf5_u549J4 rfl rfl rfl (List.mem_of_getElem? (i := 25) rfl) (by decide +kernel) ⟨Nat.le_of_ble_eq_true rfl, Nat.le_of_ble_eq_true rfl⟩) (hF.prv hH (hF.rcv hH (k0 := b) (by omega) hsb rfl) []) rfl rfl hl.1 rfl (lv_room (Nat.le_of_ble_eq_true rfl)) dJ0_init_db425_10 ⟨Nat.le_of_ble_eq_true rfl, Nat.le_of_ble_eq_true rfl⟩) hH (fun z7 σ5 H locs hp6 hH => ?_)
  obtain ⟨hz8, hu9⟩ := hp6
  rw [hu9] at hH
  rw [hz8]
  refine lv_istore (lv' := [(4, .int (iZ (ml : Int))), (3, .ref (xad E r)), (0, .ref (xad E t)), (1, .ref (xad E b)), (2, .null)]) hx hb dJ0_init_db425_13 hl (by decide) rfl (fun ls hl => ?_)
  refine lv_aload_n hx hb dJ0_init_db425_15 rfl (lv_at hl 3 rfl) ?_
  refine x_aftI (va_runU (As := []) (rest := []) hF.fx ((c_J5_isLatin1_aae02 l E ST hSF Z hSQ σ b r (ml : Int) (by omega) hsb) _) (va_cwU 0 hts gJ0_init_db425_J5_isLatin1_aae02_u1047J4 rfl rfl rfl rfl (by decide +kernel) ⟨Nat.le_of_ble_eq_true rfl, Nat.le_of_ble_eq_true rfl⟩) (hF.prv hH (hF.rcv hH (k0 := b) (by omega) hsb rfl) []) rfl rfl hl.1 rfl (lv_room (Nat.le_of_ble_eq_true rfl)) dJ0_init_db425_16 ⟨Nat.le_of_ble_eq_true rfl, Nat.le_of_ble_eq_true rfl⟩) hH (fun z12 σ10 H locs hp11 hH => ?_)
  obtain ⟨hz13, hu14⟩ := hp11
  rw [hu14] at hH
  rw [hz13]
  refine x_if_eq (tgt := 41) hx hb dJ0_init_db425_19 (by decide) (rg_b2 _) (fun c19 => ?_) (fun c19 => ?_)
  · exact absurd c19 (by decide)
  · refine lv_aload_n hx hb dJ0_init_db425_22 rfl (lv_at hl 2 rfl) ?_
    refine x_iconst hx hb dJ0_init_db425_23 ?_
    refine x_putF (fs' := [.null, .int (iZ 0), .int (iZ 0), .int (iZ 0)]) hx hb hts hown hK hH t (by omega) hst hinJ0 rfl tyJ0 tyJ0_ok nmJ0 1 (by decide) (List.mem_of_getElem? (i := 4) rfl) rfl hname rfl (ty := .byte) (by decide +kernel) (by decide) (by decide) (Nat.le_of_ble_eq_true rfl) rfl dJ0_init_db425_24 (fun σ15 H locs hst fr16 hH => ?_)
    have fcw_0 := fcw_0.fr (fun j hj9 => fr16 j (by omega))
    have hsb : σ15 b = oB 6 [.ref (xad E r), .int (iZ 0), .int (iZ 0), .int (iZ (ml : Int))] := (fr16 b (by omega)).trans hsb
    have hsr : σ15 r = aY E N G := (fr16 r (by omega)).trans hsr
    refine lv_aload_n hx hb dJ0_init_db425_27 rfl (lv_at hl 2 rfl) ?_
    refine lv_aload_n hx hb dJ0_init_db425_28 rfl (lv_at hl 1 rfl) ?_
    refine x_iconst hx hb dJ0_init_db425_29 ?_
    refine lv_iload hx hb dJ0_init_db425_30 (lv_at hl 0 rfl) ?_
    refine x_aftR (c_J7_copyOfRange_39247 l E ST hSF Z hSQ σ15 r N ml G B S Y fcw_0 (by omega) hsr (by omega) h7) (va_runS (As := [.ref (xad E r), .int (iZ 0), .int (iZ (ml : Int))]) (rest := [.ref (xad E t)]) hF.fx ((c_J7_copyOfRange_39247 l E ST hSF Z hSQ σ15 r N ml G B S Y fcw_0 (by omega) hsr (by omega) h7) _) (va_cwS 3 hts gJ0_init_db425_J7_copyOfRange_39247 rfl rfl rfl (by decide +kernel) ⟨Nat.le_of_ble_eq_true rfl, Nat.le_of_ble_eq_true rfl⟩) (hF.pre hH [.ref (xad E r), .int (iZ 0), .int (iZ (ml : Int))]) rfl rfl hl.1 rfl (lv_room (Nat.le_of_ble_eq_true rfl)) dJ0_init_db425_32 ⟨Nat.le_of_ble_eq_true rfl, Nat.le_of_ble_eq_true rfl⟩) hH (fun E19 g20 σ17 H locs hp18 hH => ?_)
    obtain ⟨hE21, fcw_0, ⟨F23, fg20_0, h724, hF25⟩, fr22⟩ := hp18
    have hgg20 := hE21.lt
    have hxxE19 : xx E19 = xx E + 1 := hE21.2.2.2.1
    rw [← (hE21.ad (k := b) (by omega))] at hl
    rw [← (hE21.ad (k := r) (by omega))] at hl
    rw [← (hE21.ad (k := t) (by omega))] at hl
    rw [← (hE21.ad (k := t) (by omega))] at ⊢
    have hsb : σ17 b = oB 6 [.ref (xad E19 r), .int (iZ 0), .int (iZ 0), .int (iZ (ml : Int))] := (by rw [(fr22 b (by omega) (by omega)), hsb, (hE21.ad (k := r) (by omega))])
    have hsr : σ17 r = aY E19 N G := ((fr22 r (by omega) (by omega)).trans hsr).trans hE21.aY.symm
    have hst : σ17 t = oB 5 [.null, .int (iZ 0), .int (iZ 0), .int (iZ 0)] := (by rw [(fr22 t (by omega) (by omega)), hst])
    have hF := hF.mv hE21.1 hE21.2.1
    have hK := hF.2.2.2.2.2.1
    refine x_putF (fs' := [.ref (xad E19 g20), .int (iZ 0), .int (iZ 0), .int (iZ 0)]) hx hb hts hown hK hH t (by omega) hst hinJ0 rfl tyJ0 tyJ0_ok nmJ0 0 (by decide) (List.mem_of_getElem? (i := 5) rfl) rfl hname rfl (ty := (.array .byte)) (by decide +kernel) rfl rfl (Nat.le_of_ble_eq_true rfl) rfl dJ0_init_db425_35 (fun σ26 H locs hst fr27 hH => ?_)
    have fcw_0 := fcw_0.fr (fun j hj9 => fr27 j (by omega))
    have hsb : σ26 b = oB 6 [.ref (xad E19 r), .int (iZ 0), .int (iZ 0), .int (iZ (ml : Int))] := (fr27 b (by omega)).trans hsb
    have hsr : σ26 r = aY E19 N G := (fr27 r (by omega)).trans hsr
    have fg20_0 : σ26 g20 = aY E19 ml F23 := (fr27 g20 (by omega)).trans fg20_0
    refine lv_goto (tgt := 97) hx hb dJ0_init_db425_38 (by decide) ?_
    subst hQ
    exact x_gret (post := (fun (Ez : xE) (u : xW) => ∃ g : Nat, xE1 E Ez g ∧ cw Ez u B S Y ∧ u t = oSt Ez g ∧ (∃ F : Int → Int, u g = aY Ez ml F ∧ lt7 ml F ∧ ∀ j : Int, 0 ≤ j → j < ml → F j = G j) ∧ ∀ j : Nat, 85 ≤ j → j < 85 + xx E → j ≠ t → u j = σ j)) hx hb hr hlocks hH (Nat.le_of_ble_eq_true rfl) (Nat.le_of_ble_eq_true rfl) ⟨_, hE21, fcw_0, hst, ⟨_, fg20_0, h724, hF25⟩, fun j h1 h2 h3 => ((fr27 j (by omega)).trans ((fr22 j (by omega) (by omega)).trans (fr16 j (by omega))))⟩ dJ0_init_db425_97

def rm_J0_init_81219 : Room := { frames := 4, cells := 1, slots := 130, locals := 110 }
set_option maxRecDepth 100000 in
set_option maxHeartbeats 4000000 in
theorem c_J0_init_81219 (l : Launch) (E : xE) (ST : xST) (hSF : SF ST) (Z : zE) (hSQ : SQ Z ST) (σ : xW) (t : Nat) (b : Nat) (r : Nat) (N : Nat) (ml : Nat) (G : Int → Int) (B : BT) (S : Option BT) (Y : lnQ) (hr0 : cw E σ B S Y) (hbr : 85 ≤ b ∧ b < 85 + xx E ∧ 85 ≤ r ∧ r < 85 + xx E ∧ ¬ b = r) (hsb : σ b = oSb E r (ml : Int)) (hsr : σ r = aY E N G) (hnN : ml ≤ N ∧ N ≤ 130) (h7 : lt7 N G) (htt : 85 ≤ t ∧ t < 85 + xx E ∧ ¬ t = b ∧ ¬ t = r) (hst : σ t = oB 5 [.null, .int (iZ 0), .int (iZ 0), .int (iZ 0)]) : CG l E ST yJ0_init_81219 wsJ0_init_81219 rm_J0_init_81219 [.ref (xad E t), .ref (xad E b)] σ (fun (Ez : xE) (u : xW) => ∃ g : Nat, xE1 E Ez g ∧ cw Ez u B S Y ∧ u t = oSt Ez g ∧ (∃ F : Int → Int, u g = aY Ez ml F ∧ lt7 ml F ∧ ∀ j : Int, 0 ≤ j → j < ml → F j = G j) ∧ ∀ j : Nat, 85 ≤ j → j < 85 + xx E → j ≠ t → u j = σ j) := by
  have fcw_0 : cw E σ B S Y := hr0
  refine CG_of (by decide) rfl (Nat.le_of_ble_eq_true rfl) ?_
  intro p e s m args below meth c Q ls G hname hH hl hQ
  obtain ⟨hx, hb, hml, hown, hts, hK, hST, hlocks, hr, hno⟩ := G
  have hOK := hSF.1
  have hown : s.vm.findClass RJ0 = some m.cls := hown
  have hl : lv_has ls 2 [(0, .ref (xad E t)), (1, .ref (xad E b))] := hl
  have hF : xCf p E ST (xA E s.heap.size) s m args c cJ0_init_81219 2 wsJ0_init_81219 RJ0 := ⟨hx, hb, hml, hown, hts, hK, hST, hOK⟩
  have hlk9 : meth.locks = false := hlocks
  refine lv_aload_n hx hb dJ0_init_81219_0 rfl (lv_at hl 0 rfl) ?_
  refine lv_aload_n hx hb dJ0_init_81219_1 rfl (lv_at hl 1 rfl) ?_
  refine lv_null hx hb dJ0_init_81219_2 ?_
  refine x_aftG (c_J0_init_db425 l E ST hSF Z hSQ σ t b r N ml G B S Y fcw_0 (by omega) hsb hsr (by omega) h7 (by omega) hst) (va_runI (As := [.ref (xad E b), .null]) (rest := []) hF.fx ((c_J0_init_db425 l E ST hSF Z hSQ σ t b r N ml G B S Y fcw_0 (by omega) hsb hsr (by omega) h7 (by omega) hst) _) (cwI 2 hts gJ0_init_81219_J0_init_db425 rfl rfl rfl (hts _ (List.mem_of_getElem? (i := 3) rfl)) (hts _ (List.mem_of_getElem? (i := 1) rfl)) (hts _ (List.mem_of_getElem? (i := 2) rfl)) rfl (by decide +kernel) ⟨Nat.le_of_ble_eq_true rfl, Nat.le_of_ble_eq_true rfl⟩) (hF.pre hH [.ref (xad E t), .ref (xad E b), .null]) rfl rfl hl.1 rfl (lv_room (Nat.le_of_ble_eq_true rfl)) dJ0_init_81219_3 ⟨Nat.le_of_ble_eq_true rfl, Nat.le_of_ble_eq_true rfl⟩) hH (fun E3 σ1 H locs hp2 hH => ?_)
  obtain ⟨g4, hE5, fcw_0, hst, ⟨F7, fg4_0, h78, hF9⟩, fr6⟩ := hp2
  have hgg4 := hE5.lt
  have hxxE3 : xx E3 = xx E + 1 := hE5.2.2.2.1
  rw [← (hE5.ad (k := b) (by omega))] at hl
  have hsb : σ1 b = oB 6 [.ref (xad E3 r), .int (iZ 0), .int (iZ 0), .int (iZ (ml : Int))] := (by rw [(fr6 b (by omega) (by omega) (by omega)), hsb, (hE5.ad (k := r) (by omega))])
  have hsr : σ1 r = aY E3 N G := ((fr6 r (by omega) (by omega) (by omega)).trans hsr).trans hE5.aY.symm
  have hF := hF.mv hE5.1 hE5.2.1
  have hK := hF.2.2.2.2.2.1
  rw [← hE5.ad (k := t) (by omega)] at hl
  subst hQ
  exact x_gret (post := (fun (Ez : xE) (u : xW) => ∃ g : Nat, xE1 E Ez g ∧ cw Ez u B S Y ∧ u t = oSt Ez g ∧ (∃ F : Int → Int, u g = aY Ez ml F ∧ lt7 ml F ∧ ∀ j : Int, 0 ≤ j → j < ml → F j = G j) ∧ ∀ j : Nat, 85 ≤ j → j < 85 + xx E → j ≠ t → u j = σ j)) hx hb hr hlocks hH (Nat.le_of_ble_eq_true rfl) (Nat.le_of_ble_eq_true rfl) ⟨_, hE5, fcw_0, hst, ⟨_, fg4_0, h78, hF9⟩, fun j h1 h2 h3 => (fr6 j (by omega) (by omega) (by omega))⟩ dJ0_init_81219_6

def rm_J4_toString_0e30d : Room := { frames := 5, cells := 2, slots := 134, locals := 131 }
set_option maxRecDepth 100000 in
set_option maxHeartbeats 4000000 in
theorem c_J4_toString_0e30d (l : Launch) (E : xE) (ST : xST) (hSF : SF ST) (Z : zE) (hSQ : SQ Z ST) (σ : xW) (b : Nat) (r : Nat) (N : Nat) (ml : Nat) (G : Int → Int) (B : BT) (S : Option BT) (Y : lnQ) (hr0 : cw E σ B S Y) (hbr : 85 ≤ b ∧ b < 85 + xx E ∧ 85 ≤ r ∧ r < 85 + xx E ∧ ¬ b = r) (hsb : σ b = oSb E r (ml : Int)) (hsr : σ r = aY E N G) (hnN : ml ≤ N ∧ N ≤ 130) (h7 : lt7 N G) : CR l E ST yJ4_toString_0e30d wsJ4_toString_0e30d rm_J4_toString_0e30d [.ref (xad E b)] σ (fun (Ez : xE) (g : Nat) (u : xW) => ∃ (E2 : xE) (g2 : Nat), xE1 E E2 g ∧ xE1 E2 Ez g2 ∧ cw Ez u B S Y ∧ u g = oSt Ez g2 ∧ (∃ F : Int → Int, u g2 = aY Ez ml F ∧ lt7 ml F ∧ ∀ j : Int, 0 ≤ j → j < ml → F j = G j) ∧ ∀ j : Nat, 85 ≤ j → j < 85 + xx E → u j = σ j) := by
  have fcw_0 : cw E σ B S Y := hr0
  refine CR_of (by decide) rfl (Nat.le_of_ble_eq_true rfl) ?_
  intro p e s m args below meth c Q ls G hH hl hQ
  obtain ⟨hx, hb, hml, hown, hts, hK, hST, hlocks, hr, hno⟩ := G
  have hOK := hSF.1
  have hown : s.vm.findClass RJ4 = some m.cls := hown
  have hl : lv_has ls 1 [(0, .ref (xad E b))] := hl
  have hinJ0 : ∀ w ∈ u_ws RJ0 TJ0 4, w ∈ wsJ4_toString_0e30d := fun w h => (List.mem_cons_of_mem _ (List.mem_append_left _ (List.mem_append_right _ h)))
  have hF : xCf p E ST (xA E s.heap.size) s m args c cJ4_toString_0e30d 1 wsJ4_toString_0e30d RJ4 := ⟨hx, hb, hml, hown, hts, hK, hST, hOK⟩
  have hlk9 : meth.locks = false := hlocks
  refine x_newO (fs := [.null, .int (iZ 0), .int (iZ 0), .int (iZ 0)]) hx hb hts hown hK hH fcw_0 hinJ0 tyJ0 tyJ0_ok (List.mem_of_getElem? (i := 1) rfl) (List.mem_of_getElem? (i := 2) rfl) (List.mem_of_getElem? (i := 3) rfl) (ci := 5) rfl (fun j hj => by rcases (show j = 0 ∨ j = 1 ∨ j = 2 ∨ j = 3 by omega) with rfl | rfl | rfl | rfl <;> rfl) (Nat.le_of_ble_eq_true rfl) (Nat.le_of_ble_eq_true rfl) dJ4_toString_0e30d_0 (fun E1 g2 σ3 H hE5 hK hH fcw_0 fg2_0 fr4 => ?_)
  have hgg2 := hE5.lt
  have hxxE1 : xx E1 = xx E + 1 := hE5.2.2.2.1
  rw [← (hE5.ad (k := b) (by omega))] at hl
  have hsb : σ3 b = oB 6 [.ref (xad E1 r), .int (iZ 0), .int (iZ 0), .int (iZ (ml : Int))] := (by rw [(fr4 b (by omega) (by omega)), hsb, (hE5.ad (k := r) (by omega))])
  have hsr : σ3 r = aY E1 N G := ((fr4 r (by omega) (by omega)).trans hsr).trans hE5.aY.symm
  have hF := hF.mv hE5.1 hE5.2.1
  have hK := hF.2.2.2.2.2.1
  refine lv_dup hx hb dJ4_toString_0e30d_3 rfl ?_
  refine lv_aload_n hx hb dJ4_toString_0e30d_4 rfl (lv_at hl 0 rfl) ?_
  refine x_aftG (c_J0_init_81219 l E1 ST hSF Z hSQ σ3 g2 b r N ml G B S Y fcw_0 (by omega) hsb hsr (by omega) h7 (by omega) fg2_0) (va_runI (As := [.ref (xad E1 b)]) (rest := [.ref (xad E1 g2)]) hF.fx ((c_J0_init_81219 l E1 ST hSF Z hSQ σ3 g2 b r N ml G B S Y fcw_0 (by omega) hsb hsr (by omega) h7 (by omega) fg2_0) _) (cwI 1 hts gJ4_toString_0e30d_J0_init_81219 rfl rfl rfl (hts _ (List.mem_of_getElem? (i := 3) rfl)) (hts _ (List.mem_of_getElem? (i := 4) rfl)) (hts _ (List.mem_of_getElem? (i := 5) rfl)) rfl (by decide +kernel) ⟨Nat.le_of_ble_eq_true rfl, Nat.le_of_ble_eq_true rfl⟩) (hF.pre hH [.ref (xad E1 g2), .ref (xad E1 b)]) rfl rfl hl.1 rfl (lv_room (Nat.le_of_ble_eq_true rfl)) dJ4_toString_0e30d_5 ⟨Nat.le_of_ble_eq_true rfl, Nat.le_of_ble_eq_true rfl⟩) hH (fun E8 σ6 H locs hp7 hH => ?_)
  obtain ⟨g9, hE10, fcw_0, fg2_0, ⟨F12, fg9_0, h713, hF14⟩, fr11⟩ := hp7
  have hgg9 := hE10.lt
  have hxxE8 : xx E8 = xx E1 + 1 := hE10.2.2.2.1
  rw [← (hE10.ad (k := b) (by omega))] at hl
  have hsb : σ6 b = oB 6 [.ref (xad E8 r), .int (iZ 0), .int (iZ 0), .int (iZ (ml : Int))] := (by rw [(fr11 b (by omega) (by omega) (by omega)), hsb, (hE10.ad (k := r) (by omega))])
  have hsr : σ6 r = aY E8 N G := ((fr11 r (by omega) (by omega) (by omega)).trans hsr).trans hE10.aY.symm
  have hF := hF.mv hE10.1 hE10.2.1
  have hK := hF.2.2.2.2.2.1
  rw [← hE10.ad (k := g2) (by omega)] at ⊢
  subst hQ
  exact x_oret (post := (fun (Ez : xE) (g : Nat) (u : xW) => ∃ (E2 : xE) (g2 : Nat), xE1 E E2 g ∧ xE1 E2 Ez g2 ∧ cw Ez u B S Y ∧ u g = oSt Ez g2 ∧ (∃ F : Int → Int, u g2 = aY Ez ml F ∧ lt7 ml F ∧ ∀ j : Int, 0 ≤ j → j < ml → F j = G j) ∧ ∀ j : Nat, 85 ≤ j → j < 85 + xx E → u j = σ j)) hx hb hr hlocks hH (Nat.le_of_ble_eq_true rfl) (Nat.le_of_ble_eq_true rfl) ⟨_, _, hE5, hE10, fcw_0, fg2_0, ⟨_, fg9_0, h713, hF14⟩, fun j h1 h2 => ((fr11 j (by omega) (by omega) (by omega)).trans (fr4 j (by omega) (by omega)))⟩ dJ4_toString_0e30d_8
