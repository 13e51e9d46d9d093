/-! ===== the law's own methods, over any contract of the class's method ===== -/
def rm_L_setTile : Room := { frames := 8, cells := 1, slots := 6, locals := 134 }
set_option maxRecDepth 100000 in
set_option maxHeartbeats 4000000 in
theorem c_L_setTile (l : Launch) (E : xE) (ST : xST) (hSF : SF ST) (hSX : SX ST) (σ : xW) (p0 p1 p2 : Int) {P : Int → xW → Prop} {px : String → xW → Prop} (hM : XI l E ST yX6_setTile wsX6_setTile rm_X6_setTile [.ref (xad E 0), .int (iZ p0), .int (iZ p1), .int (iZ p2)] σ P px) {fs : List Value} (h0 : σ 0 = oB 4 fs) (hP96 : ∀ (z : Int) (u : xW), P z u → ∃ f : Nat → Int64, u 96 = .inl (xJ E, 1, .inr (.inl f))) (hpx : ∀ (n : String) (u : xW), px n u → n = "java/lang/IndexOutOfBoundsException" ∨ n = "java/lang/IllegalArgumentException") : CI l E ST yL_setTile wsL_setTile rm_L_setTile [.ref (xad E 0), .int (iZ p0), .int (iZ p1), .int (iZ p2), .ref (xad E 96)] σ (fun (z9 : Int) (u : xW) => (z9 = 0 ∧ ∃ (z : Int) (u0 : xW), P z u0 ∧ u 96 = oJ E (iZ z).toInt64 ∧ ∀ j : Nat, j ≠ 96 → u j = u0 j) ∨ (z9 = 1 ∧ px "java/lang/IndexOutOfBoundsException" u) ∨ (z9 = 2 ∧ px "java/lang/IllegalArgumentException" u)) := by
  refine CW_of (by decide) rfl (Nat.le_of_ble_eq_true rfl) ?_
  intro p e s m args below meth c Q ls G hH hl hQ
  obtain ⟨hx, hb, hml, hown, hts, hK, hST, hlocks, hr, htab⟩ := G
  have hOK := hSF.1
  have hown : s.vm.findClass RL = some m.cls := hown
  have hl : lv_has ls 6 [(0, .ref (xad E 0)), (1, .int (iZ p0)), (2, .int (iZ p1)), (3, .int (iZ p2)), (4, .ref (xad E 96))] := hl
  subst hQ
  refine lv_aload hx hb dL_setTile_0 (lv_at hl 4 rfl) ?_
  refine x_iconst (n := 0) hx hb dL_setTile_2 ?_
  refine lv_aload_n hx hb dL_setTile_3 rfl (lv_at hl 0 rfl) ?_
  refine lv_iload_n hx hb dL_setTile_4 rfl (lv_at hl 1 rfl) ?_
  refine lv_iload_n hx hb dL_setTile_5 rfl (lv_at hl 2 rfl) ?_
  refine lv_iload_n hx hb dL_setTile_6 rfl (lv_at hl 3 rfl) ?_
  refine x_cXVI (As := [.int (iZ p0), .int (iZ p1), .int (iZ p2)]) (rest := [.int (iZ 0), .ref (xad E 96)]) hx hb hml hts hown hK hST hOK hH 0 hM (cwV 3 hts gL_setTile_X6_setTile rfl rfl rfl (by decide +kernel) ⟨Nat.le_of_ble_eq_true rfl, Nat.le_of_ble_eq_true rfl⟩) (by decide) h0 rfl rfl hl.1 rfl (Nat.le_of_ble_eq_true rfl) dL_setTile_7 ⟨Nat.le_of_ble_eq_true rfl, Nat.le_of_ble_eq_true rfl⟩ ?_ (fun z u H locs hp hH => ?_)
  · intro n ce q9 u H locs hp hH hce hcv hcl
    rcases hpx n u hp with rfl | rfl
    · refine x_catch hown hts hSX hST [] (0, 12, 15, 13) [(0, 12, 19, 15)] htab (by decide +kernel) (fun _ h => absurd h List.not_mem_nil) rfl (by decide) (List.mem_of_getElem? (i := 1) rfl) hce hcv hcl ?_
      refine lv_astore (lv' := (5, .ref q9) :: [(0, .ref (xad E 0)), (1, .int (iZ p0)), (2, .int (iZ p1)), (3, .int (iZ p2)), (4, .ref (xad E 96))]) hx hb dL_setTile_15 hl (by decide) rfl (fun ls hl => ?_)
      refine x_iconst hx hb dL_setTile_17 ?_
      exact x_iret hx hb hr hlocks hH (Nat.le_of_ble_eq_true rfl) (Nat.le_of_ble_eq_true rfl) (Or.inr (Or.inl (⟨rfl, hp⟩))) dL_setTile_18
    · refine x_catch hown hts hSX hST [(0, 12, 15, 13)] (0, 12, 19, 15) [] htab (by decide +kernel) (List.forall_mem_cons.mpr ⟨⟨by decide, "java/lang/IndexOutOfBoundsException", (List.mem_of_getElem? (i := 1) rfl), by decide +kernel, by decide +kernel⟩, (fun _ h => absurd h List.not_mem_nil)⟩) rfl (by decide) (List.mem_of_getElem? (i := 2) rfl) hce hcv hcl ?_
      refine lv_astore (lv' := (5, .ref q9) :: [(0, .ref (xad E 0)), (1, .int (iZ p0)), (2, .int (iZ p1)), (3, .int (iZ p2)), (4, .ref (xad E 96))]) hx hb dL_setTile_19 hl (by decide) rfl (fun ls hl => ?_)
      refine x_iconst hx hb dL_setTile_21 ?_
      exact x_iret hx hb hr hlocks hH (Nat.le_of_ble_eq_true rfl) (Nat.le_of_ble_eq_true rfl) (Or.inr (Or.inr (⟨rfl, hp⟩))) dL_setTile_22
  · obtain ⟨f, h96⟩ := hP96 z u hp
    refine lv_i2l (v := (iZ z).toInt64) hx hb dL_setTile_10 rfl ?_
    refine x_last hx hb hK hH h96 dL_setTile_11 (fun u1 H locs e96 fr hH => ?_)
    refine lv_goto (tgt := 23) hx hb dL_setTile_12 (by decide) ?_
    refine x_iconst hx hb dL_setTile_23 ?_
    exact x_iret hx hb hr hlocks hH (Nat.le_of_ble_eq_true rfl) (Nat.le_of_ble_eq_true rfl) (Or.inl ⟨rfl, z, u, hp, e96, fr⟩) dL_setTile_24
def rm_L_turnTile : Room := { frames := 8, cells := 1, slots := 6, locals := 134 }
set_option maxRecDepth 100000 in
set_option maxHeartbeats 4000000 in
theorem c_L_turnTile (l : Launch) (E : xE) (ST : xST) (hSF : SF ST) (hSX : SX ST) (σ : xW) (p0 p1 p2 : Int) {P : Int → xW → Prop} {px : String → xW → Prop} (hM : XI l E ST yX6_turnTile wsX6_turnTile rm_X6_turnTile [.ref (xad E 0), .int (iZ p0), .int (iZ p1), .int (iZ p2)] σ P px) {fs : List Value} (h0 : σ 0 = oB 4 fs) (hP96 : ∀ (z : Int) (u : xW), P z u → ∃ f : Nat → Int64, u 96 = .inl (xJ E, 1, .inr (.inl f))) (hpx : ∀ (n : String) (u : xW), px n u → n = "java/lang/IndexOutOfBoundsException" ∨ n = "java/lang/IllegalArgumentException" ∨ n = "java/lang/IllegalStateException") : CI l E ST yL_turnTile wsL_turnTile rm_L_turnTile [.ref (xad E 0), .int (iZ p0), .int (iZ p1), .int (iZ p2), .ref (xad E 96)] σ (fun (z9 : Int) (u : xW) => (z9 = 0 ∧ ∃ (z : Int) (u0 : xW), P z u0 ∧ u 96 = oJ E (iZ z).toInt64 ∧ ∀ j : Nat, j ≠ 96 → u j = u0 j) ∨ (z9 = 1 ∧ px "java/lang/IndexOutOfBoundsException" u) ∨ (z9 = 2 ∧ px "java/lang/IllegalArgumentException" u) ∨ (z9 = 3 ∧ px "java/lang/IllegalStateException" u)) := by
  refine CW_of (by decide) rfl (Nat.le_of_ble_eq_true rfl) ?_
  intro p e s m args below meth c Q ls G hH hl hQ
  obtain ⟨hx, hb, hml, hown, hts, hK, hST, hlocks, hr, htab⟩ := G
  have hOK := hSF.1
  have hown : s.vm.findClass RL = some m.cls := hown
  have hl : lv_has ls 6 [(0, .ref (xad E 0)), (1, .int (iZ p0)), (2, .int (iZ p1)), (3, .int (iZ p2)), (4, .ref (xad E 96))] := hl
  subst hQ
  refine lv_aload hx hb dL_turnTile_0 (lv_at hl 4 rfl) ?_
  refine x_iconst (n := 0) hx hb dL_turnTile_2 ?_
  refine lv_aload_n hx hb dL_turnTile_3 rfl (lv_at hl 0 rfl) ?_
  refine lv_iload_n hx hb dL_turnTile_4 rfl (lv_at hl 1 rfl) ?_
  refine lv_iload_n hx hb dL_turnTile_5 rfl (lv_at hl 2 rfl) ?_
  refine lv_iload_n hx hb dL_turnTile_6 rfl (lv_at hl 3 rfl) ?_
  refine x_cXVI (As := [.int (iZ p0), .int (iZ p1), .int (iZ p2)]) (rest := [.int (iZ 0), .ref (xad E 96)]) hx hb hml hts hown hK hST hOK hH 0 hM (cwV 3 hts gL_turnTile_X6_turnTile rfl rfl rfl (by decide +kernel) ⟨Nat.le_of_ble_eq_true rfl, Nat.le_of_ble_eq_true rfl⟩) (by decide) h0 rfl rfl hl.1 rfl (Nat.le_of_ble_eq_true rfl) dL_turnTile_7 ⟨Nat.le_of_ble_eq_true rfl, Nat.le_of_ble_eq_true rfl⟩ ?_ (fun z u H locs hp hH => ?_)
  · intro n ce q9 u H locs hp hH hce hcv hcl
    rcases hpx n u hp with rfl | rfl | rfl
    · refine x_catch hown hts hSX hST [] (0, 12, 15, 13) [(0, 12, 19, 15), (0, 12, 23, 20)] htab (by decide +kernel) (fun _ h => absurd h List.not_mem_nil) rfl (by decide) (List.mem_of_getElem? (i := 1) rfl) hce hcv hcl ?_
      refine lv_astore (lv' := (5, .ref q9) :: [(0, .ref (xad E 0)), (1, .int (iZ p0)), (2, .int (iZ p1)), (3, .int (iZ p2)), (4, .ref (xad E 96))]) hx hb dL_turnTile_15 hl (by decide) rfl (fun ls hl => ?_)
      refine x_iconst hx hb dL_turnTile_17 ?_
      exact x_iret hx hb hr hlocks hH (Nat.le_of_ble_eq_true rfl) (Nat.le_of_ble_eq_true rfl) (Or.inr (Or.inl (⟨rfl, hp⟩))) dL_turnTile_18
    · refine x_catch hown hts hSX hST [(0, 12, 15, 13)] (0, 12, 19, 15) [(0, 12, 23, 20)] htab (by decide +kernel) (List.forall_mem_cons.mpr ⟨⟨by decide, "java/lang/IndexOutOfBoundsException", (List.mem_of_getElem? (i := 1) rfl), by decide +kernel, by decide +kernel⟩, (fun _ h => absurd h List.not_mem_nil)⟩) rfl (by decide) (List.mem_of_getElem? (i := 2) rfl) hce hcv hcl ?_
      refine lv_astore (lv' := (5, .ref q9) :: [(0, .ref (xad E 0)), (1, .int (iZ p0)), (2, .int (iZ p1)), (3, .int (iZ p2)), (4, .ref (xad E 96))]) hx hb dL_turnTile_19 hl (by decide) rfl (fun ls hl => ?_)
      refine x_iconst hx hb dL_turnTile_21 ?_
      exact x_iret hx hb hr hlocks hH (Nat.le_of_ble_eq_true rfl) (Nat.le_of_ble_eq_true rfl) (Or.inr (Or.inr (Or.inl (⟨rfl, hp⟩)))) dL_turnTile_22
    · refine x_catch hown hts hSX hST [(0, 12, 15, 13), (0, 12, 19, 15)] (0, 12, 23, 20) [] htab (by decide +kernel) (List.forall_mem_cons.mpr ⟨⟨by decide, "java/lang/IndexOutOfBoundsException", (List.mem_of_getElem? (i := 1) rfl), by decide +kernel, by decide +kernel⟩, (List.forall_mem_cons.mpr ⟨⟨by decide, "java/lang/IllegalArgumentException", (List.mem_of_getElem? (i := 2) rfl), by decide +kernel, by decide +kernel⟩, (fun _ h => absurd h List.not_mem_nil)⟩)⟩) rfl (by decide) (List.mem_of_getElem? (i := 3) rfl) hce hcv hcl ?_
      refine lv_astore (lv' := (5, .ref q9) :: [(0, .ref (xad E 0)), (1, .int (iZ p0)), (2, .int (iZ p1)), (3, .int (iZ p2)), (4, .ref (xad E 96))]) hx hb dL_turnTile_23 hl (by decide) rfl (fun ls hl => ?_)
      refine x_iconst hx hb dL_turnTile_25 ?_
      exact x_iret hx hb hr hlocks hH (Nat.le_of_ble_eq_true rfl) (Nat.le_of_ble_eq_true rfl) (Or.inr (Or.inr (Or.inr (⟨rfl, hp⟩)))) dL_turnTile_26
  · obtain ⟨f, h96⟩ := hP96 z u hp
    refine lv_i2l (v := (iZ z).toInt64) hx hb dL_turnTile_10 rfl ?_
    refine x_last hx hb hK hH h96 dL_turnTile_11 (fun u1 H locs e96 fr hH => ?_)
    refine lv_goto (tgt := 27) hx hb dL_turnTile_12 (by decide) ?_
    refine x_iconst hx hb dL_turnTile_27 ?_
    exact x_iret hx hb hr hlocks hH (Nat.le_of_ble_eq_true rfl) (Nat.le_of_ble_eq_true rfl) (Or.inl ⟨rfl, z, u, hp, e96, fr⟩) dL_turnTile_28
def rm_L_pin : Room := { frames := 8, cells := 1, slots := 6, locals := 133 }
set_option maxRecDepth 100000 in
set_option maxHeartbeats 4000000 in
theorem c_L_pin (l : Launch) (E : xE) (ST : xST) (hSF : SF ST) (hSX : SX ST) (σ : xW) (p0 p1 : Int) {P : Int → xW → Prop} {px : String → xW → Prop} (hM : XI l E ST yX6_pin wsX6_pin rm_X6_pin [.ref (xad E 0), .int (iZ p0), .int (iZ p1)] σ P px) {fs : List Value} (h0 : σ 0 = oB 4 fs) (hP96 : ∀ (z : Int) (u : xW), P z u → ∃ f : Nat → Int64, u 96 = .inl (xJ E, 1, .inr (.inl f))) (hpx : ∀ (n : String) (u : xW), px n u → n = "java/lang/IndexOutOfBoundsException" ∨ n = "java/lang/IllegalStateException") : CI l E ST yL_pin wsL_pin rm_L_pin [.ref (xad E 0), .int (iZ p0), .int (iZ p1), .ref (xad E 96)] σ (fun (z9 : Int) (u : xW) => (z9 = 0 ∧ ∃ (z : Int) (u0 : xW), P z u0 ∧ u 96 = oJ E (iZ z).toInt64 ∧ ∀ j : Nat, j ≠ 96 → u j = u0 j) ∨ (z9 = 1 ∧ px "java/lang/IndexOutOfBoundsException" u) ∨ (z9 = 2 ∧ px "java/lang/IllegalStateException" u)) := by
  refine CW_of (by decide) rfl (Nat.le_of_ble_eq_true rfl) ?_
  intro p e s m args below meth c Q ls G hH hl hQ
  obtain ⟨hx, hb, hml, hown, hts, hK, hST, hlocks, hr, htab⟩ := G
  have hOK := hSF.1
  have hown : s.vm.findClass RL = some m.cls := hown
  have hl : lv_has ls 5 [(0, .ref (xad E 0)), (1, .int (iZ p0)), (2, .int (iZ p1)), (3, .ref (xad E 96))] := hl
  subst hQ
  refine lv_aload_n hx hb dL_pin_0 rfl (lv_at hl 3 rfl) ?_
  refine x_iconst (n := 0) hx hb dL_pin_1 ?_
  refine lv_aload_n hx hb dL_pin_2 rfl (lv_at hl 0 rfl) ?_
  refine lv_iload_n hx hb dL_pin_3 rfl (lv_at hl 1 rfl) ?_
  refine lv_iload_n hx hb dL_pin_4 rfl (lv_at hl 2 rfl) ?_
  refine x_cXVI (As := [.int (iZ p0), .int (iZ p1)]) (rest := [.int (iZ 0), .ref (xad E 96)]) hx hb hml hts hown hK hST hOK hH 0 hM (cwV 2 hts gL_pin_X6_pin rfl rfl rfl (by decide +kernel) ⟨Nat.le_of_ble_eq_true rfl, Nat.le_of_ble_eq_true rfl⟩) (by decide) h0 rfl rfl hl.1 rfl (Nat.le_of_ble_eq_true rfl) dL_pin_5 ⟨Nat.le_of_ble_eq_true rfl, Nat.le_of_ble_eq_true rfl⟩ ?_ (fun z u H locs hp hH => ?_)
  · intro n ce q9 u H locs hp hH hce hcv hcl
    rcases hpx n u hp with rfl | rfl
    · refine x_catch hown hts hSX hST [] (0, 10, 13, 13) [(0, 10, 17, 20)] htab (by decide +kernel) (fun _ h => absurd h List.not_mem_nil) rfl (by decide) (List.mem_of_getElem? (i := 1) rfl) hce hcv hcl ?_
      refine lv_astore (lv' := (4, .ref q9) :: [(0, .ref (xad E 0)), (1, .int (iZ p0)), (2, .int (iZ p1)), (3, .ref (xad E 96))]) hx hb dL_pin_13 hl (by decide) rfl (fun ls hl => ?_)
      refine x_iconst hx hb dL_pin_15 ?_
      exact x_iret hx hb hr hlocks hH (Nat.le_of_ble_eq_true rfl) (Nat.le_of_ble_eq_true rfl) (Or.inr (Or.inl (⟨rfl, hp⟩))) dL_pin_16
    · refine x_catch hown hts hSX hST [(0, 10, 13, 13)] (0, 10, 17, 20) [] htab (by decide +kernel) (List.forall_mem_cons.mpr ⟨⟨by decide, "java/lang/IndexOutOfBoundsException", (List.mem_of_getElem? (i := 1) rfl), by decide +kernel, by decide +kernel⟩, (fun _ h => absurd h List.not_mem_nil)⟩) rfl (by decide) (List.mem_of_getElem? (i := 2) rfl) hce hcv hcl ?_
      refine lv_astore (lv' := (4, .ref q9) :: [(0, .ref (xad E 0)), (1, .int (iZ p0)), (2, .int (iZ p1)), (3, .ref (xad E 96))]) hx hb dL_pin_17 hl (by decide) rfl (fun ls hl => ?_)
      refine x_iconst hx hb dL_pin_19 ?_
      exact x_iret hx hb hr hlocks hH (Nat.le_of_ble_eq_true rfl) (Nat.le_of_ble_eq_true rfl) (Or.inr (Or.inr (⟨rfl, hp⟩))) dL_pin_20
  · obtain ⟨f, h96⟩ := hP96 z u hp
    refine lv_i2l (v := (iZ z).toInt64) hx hb dL_pin_8 rfl ?_
    refine x_last hx hb hK hH h96 dL_pin_9 (fun u1 H locs e96 fr hH => ?_)
    refine lv_goto (tgt := 21) hx hb dL_pin_10 (by decide) ?_
    refine x_iconst hx hb dL_pin_21 ?_
    exact x_iret hx hb hr hlocks hH (Nat.le_of_ble_eq_true rfl) (Nat.le_of_ble_eq_true rfl) (Or.inl ⟨rfl, z, u, hp, e96, fr⟩) dL_pin_22
def rm_L_unpin : Room := { frames := 8, cells := 1, slots := 6, locals := 133 }
set_option maxRecDepth 100000 in
set_option maxHeartbeats 4000000 in
theorem c_L_unpin (l : Launch) (E : xE) (ST : xST) (hSF : SF ST) (hSX : SX ST) (σ : xW) (p0 p1 : Int) {P : Int → xW → Prop} {px : String → xW → Prop} (hM : XI l E ST yX6_unpin wsX6_unpin rm_X6_unpin [.ref (xad E 0), .int (iZ p0), .int (iZ p1)] σ P px) {fs : List Value} (h0 : σ 0 = oB 4 fs) (hP96 : ∀ (z : Int) (u : xW), P z u → ∃ f : Nat → Int64, u 96 = .inl (xJ E, 1, .inr (.inl f))) (hpx : ∀ (n : String) (u : xW), px n u → n = "java/lang/IndexOutOfBoundsException" ∨ n = "java/lang/IllegalStateException") : CI l E ST yL_unpin wsL_unpin rm_L_unpin [.ref (xad E 0), .int (iZ p0), .int (iZ p1), .ref (xad E 96)] σ (fun (z9 : Int) (u : xW) => (z9 = 0 ∧ ∃ (z : Int) (u0 : xW), P z u0 ∧ u 96 = oJ E (iZ z).toInt64 ∧ ∀ j : Nat, j ≠ 96 → u j = u0 j) ∨ (z9 = 1 ∧ px "java/lang/IndexOutOfBoundsException" u) ∨ (z9 = 2 ∧ px "java/lang/IllegalStateException" u)) := by
  refine CW_of (by decide) rfl (Nat.le_of_ble_eq_true rfl) ?_
  intro p e s m args below meth c Q ls G hH hl hQ
  obtain ⟨hx, hb, hml, hown, hts, hK, hST, hlocks, hr, htab⟩ := G
  have hOK := hSF.1
  have hown : s.vm.findClass RL = some m.cls := hown
  have hl : lv_has ls 5 [(0, .ref (xad E 0)), (1, .int (iZ p0)), (2, .int (iZ p1)), (3, .ref (xad E 96))] := hl
  subst hQ
  refine lv_aload_n hx hb dL_unpin_0 rfl (lv_at hl 3 rfl) ?_
  refine x_iconst (n := 0) hx hb dL_unpin_1 ?_
  refine lv_aload_n hx hb dL_unpin_2 rfl (lv_at hl 0 rfl) ?_
  refine lv_iload_n hx hb dL_unpin_3 rfl (lv_at hl 1 rfl) ?_
  refine lv_iload_n hx hb dL_unpin_4 rfl (lv_at hl 2 rfl) ?_
  refine x_cXVI (As := [.int (iZ p0), .int (iZ p1)]) (rest := [.int (iZ 0), .ref (xad E 96)]) hx hb hml hts hown hK hST hOK hH 0 hM (cwV 2 hts gL_unpin_X6_unpin rfl rfl rfl (by decide +kernel) ⟨Nat.le_of_ble_eq_true rfl, Nat.le_of_ble_eq_true rfl⟩) (by decide) h0 rfl rfl hl.1 rfl (Nat.le_of_ble_eq_true rfl) dL_unpin_5 ⟨Nat.le_of_ble_eq_true rfl, Nat.le_of_ble_eq_true rfl⟩ ?_ (fun z u H locs hp hH => ?_)
  · intro n ce q9 u H locs hp hH hce hcv hcl
    rcases hpx n u hp with rfl | rfl
    · refine x_catch hown hts hSX hST [] (0, 10, 13, 13) [(0, 10, 17, 20)] htab (by decide +kernel) (fun _ h => absurd h List.not_mem_nil) rfl (by decide) (List.mem_of_getElem? (i := 1) rfl) hce hcv hcl ?_
      refine lv_astore (lv' := (4, .ref q9) :: [(0, .ref (xad E 0)), (1, .int (iZ p0)), (2, .int (iZ p1)), (3, .ref (xad E 96))]) hx hb dL_unpin_13 hl (by decide) rfl (fun ls hl => ?_)
      refine x_iconst hx hb dL_unpin_15 ?_
      exact x_iret hx hb hr hlocks hH (Nat.le_of_ble_eq_true rfl) (Nat.le_of_ble_eq_true rfl) (Or.inr (Or.inl (⟨rfl, hp⟩))) dL_unpin_16
    · refine x_catch hown hts hSX hST [(0, 10, 13, 13)] (0, 10, 17, 20) [] htab (by decide +kernel) (List.forall_mem_cons.mpr ⟨⟨by decide, "java/lang/IndexOutOfBoundsException", (List.mem_of_getElem? (i := 1) rfl), by decide +kernel, by decide +kernel⟩, (fun _ h => absurd h List.not_mem_nil)⟩) rfl (by decide) (List.mem_of_getElem? (i := 2) rfl) hce hcv hcl ?_
      refine lv_astore (lv' := (4, .ref q9) :: [(0, .ref (xad E 0)), (1, .int (iZ p0)), (2, .int (iZ p1)), (3, .ref (xad E 96))]) hx hb dL_unpin_17 hl (by decide) rfl (fun ls hl => ?_)
      refine x_iconst hx hb dL_unpin_19 ?_
      exact x_iret hx hb hr hlocks hH (Nat.le_of_ble_eq_true rfl) (Nat.le_of_ble_eq_true rfl) (Or.inr (Or.inr (⟨rfl, hp⟩))) dL_unpin_20
  · obtain ⟨f, h96⟩ := hP96 z u hp
    refine lv_i2l (v := (iZ z).toInt64) hx hb dL_unpin_8 rfl ?_
    refine x_last hx hb hK hH h96 dL_unpin_9 (fun u1 H locs e96 fr hH => ?_)
    refine lv_goto (tgt := 21) hx hb dL_unpin_10 (by decide) ?_
    refine x_iconst hx hb dL_unpin_21 ?_
    exact x_iret hx hb hr hlocks hH (Nat.le_of_ble_eq_true rfl) (Nat.le_of_ble_eq_true rfl) (Or.inl ⟨rfl, z, u, hp, e96, fr⟩) dL_unpin_22
def rm_L_shiftRow : Room := { frames := 8, cells := 1, slots := 6, locals := 140 }
set_option maxRecDepth 100000 in
set_option maxHeartbeats 4000000 in
theorem c_L_shiftRow (l : Launch) (E : xE) (ST : xST) (hSF : SF ST) (hSX : SX ST) (σ : xW) (p0 p1 : Int) {P : Int → xW → Prop} {px : String → xW → Prop} (hM : XI l E ST yX6_shiftRow wsX6_shiftRow rm_X6_shiftRow [.ref (xad E 0), .int (iZ p0), .int (iZ p1)] σ P px) {fs : List Value} (h0 : σ 0 = oB 4 fs) (hP96 : ∀ (z : Int) (u : xW), P z u → ∃ f : Nat → Int64, u 96 = .inl (xJ E, 1, .inr (.inl f))) (hpx : ∀ (n : String) (u : xW), px n u → n = "java/lang/IndexOutOfBoundsException" ∨ n = "java/lang/IllegalArgumentException" ∨ n = "java/lang/IllegalStateException") : CI l E ST yL_shiftRow wsL_shiftRow rm_L_shiftRow [.ref (xad E 0), .int (iZ p0), .int (iZ p1), .ref (xad E 96)] σ (fun (z9 : Int) (u : xW) => (z9 = 0 ∧ ∃ (z : Int) (u0 : xW), P z u0 ∧ u 96 = oJ E (iZ z).toInt64 ∧ ∀ j : Nat, j ≠ 96 → u j = u0 j) ∨ (z9 = 1 ∧ px "java/lang/IndexOutOfBoundsException" u) ∨ (z9 = 2 ∧ px "java/lang/IllegalArgumentException" u) ∨ (z9 = 3 ∧ px "java/lang/IllegalStateException" u)) := by
  refine CW_of (by decide) rfl (Nat.le_of_ble_eq_true rfl) ?_
  intro p e s m args below meth c Q ls G hH hl hQ
  obtain ⟨hx, hb, hml, hown, hts, hK, hST, hlocks, hr, htab⟩ := G
  have hOK := hSF.1
  have hown : s.vm.findClass RL = some m.cls := hown
  have hl : lv_has ls 5 [(0, .ref (xad E 0)), (1, .int (iZ p0)), (2, .int (iZ p1)), (3, .ref (xad E 96))] := hl
  subst hQ
  refine lv_aload_n hx hb dL_shiftRow_0 rfl (lv_at hl 3 rfl) ?_
  refine x_iconst (n := 0) hx hb dL_shiftRow_1 ?_
  refine lv_aload_n hx hb dL_shiftRow_2 rfl (lv_at hl 0 rfl) ?_
  refine lv_iload_n hx hb dL_shiftRow_3 rfl (lv_at hl 1 rfl) ?_
  refine lv_iload_n hx hb dL_shiftRow_4 rfl (lv_at hl 2 rfl) ?_
  refine x_cXVI (As := [.int (iZ p0), .int (iZ p1)]) (rest := [.int (iZ 0), .ref (xad E 96)]) hx hb hml hts hown hK hST hOK hH 0 hM (cwV 2 hts gL_shiftRow_X6_shiftRow rfl rfl rfl (by decide +kernel) ⟨Nat.le_of_ble_eq_true rfl, Nat.le_of_ble_eq_true rfl⟩) (by decide) h0 rfl rfl hl.1 rfl (Nat.le_of_ble_eq_true rfl) dL_shiftRow_5 ⟨Nat.le_of_ble_eq_true rfl, Nat.le_of_ble_eq_true rfl⟩ ?_ (fun z u H locs hp hH => ?_)
  · intro n ce q9 u H locs hp hH hce hcv hcl
    rcases hpx n u hp with rfl | rfl | rfl
    · refine x_catch hown hts hSX hST [] (0, 10, 13, 13) [(0, 10, 17, 15), (0, 10, 21, 20)] htab (by decide +kernel) (fun _ h => absurd h List.not_mem_nil) rfl (by decide) (List.mem_of_getElem? (i := 1) rfl) hce hcv hcl ?_
      refine lv_astore (lv' := (4, .ref q9) :: [(0, .ref (xad E 0)), (1, .int (iZ p0)), (2, .int (iZ p1)), (3, .ref (xad E 96))]) hx hb dL_shiftRow_13 hl (by decide) rfl (fun ls hl => ?_)
      refine x_iconst hx hb dL_shiftRow_15 ?_
      exact x_iret hx hb hr hlocks hH (Nat.le_of_ble_eq_true rfl) (Nat.le_of_ble_eq_true rfl) (Or.inr (Or.inl (⟨rfl, hp⟩))) dL_shiftRow_16
    · refine x_catch hown hts hSX hST [(0, 10, 13, 13)] (0, 10, 17, 15) [(0, 10, 21, 20)] htab (by decide +kernel) (List.forall_mem_cons.mpr ⟨⟨by decide, "java/lang/IndexOutOfBoundsException", (List.mem_of_getElem? (i := 1) rfl), by decide +kernel, by decide +kernel⟩, (fun _ h => absurd h List.not_mem_nil)⟩) rfl (by decide) (List.mem_of_getElem? (i := 2) rfl) hce hcv hcl ?_
      refine lv_astore (lv' := (4, .ref q9) :: [(0, .ref (xad E 0)), (1, .int (iZ p0)), (2, .int (iZ p1)), (3, .ref (xad E 96))]) hx hb dL_shiftRow_17 hl (by decide) rfl (fun ls hl => ?_)
      refine x_iconst hx hb dL_shiftRow_19 ?_
      exact x_iret hx hb hr hlocks hH (Nat.le_of_ble_eq_true rfl) (Nat.le_of_ble_eq_true rfl) (Or.inr (Or.inr (Or.inl (⟨rfl, hp⟩)))) dL_shiftRow_20
    · refine x_catch hown hts hSX hST [(0, 10, 13, 13), (0, 10, 17, 15)] (0, 10, 21, 20) [] htab (by decide +kernel) (List.forall_mem_cons.mpr ⟨⟨by decide, "java/lang/IndexOutOfBoundsException", (List.mem_of_getElem? (i := 1) rfl), by decide +kernel, by decide +kernel⟩, (List.forall_mem_cons.mpr ⟨⟨by decide, "java/lang/IllegalArgumentException", (List.mem_of_getElem? (i := 2) rfl), by decide +kernel, by decide +kernel⟩, (fun _ h => absurd h List.not_mem_nil)⟩)⟩) rfl (by decide) (List.mem_of_getElem? (i := 3) rfl) hce hcv hcl ?_
      refine lv_astore (lv' := (4, .ref q9) :: [(0, .ref (xad E 0)), (1, .int (iZ p0)), (2, .int (iZ p1)), (3, .ref (xad E 96))]) hx hb dL_shiftRow_21 hl (by decide) rfl (fun ls hl => ?_)
      refine x_iconst hx hb dL_shiftRow_23 ?_
      exact x_iret hx hb hr hlocks hH (Nat.le_of_ble_eq_true rfl) (Nat.le_of_ble_eq_true rfl) (Or.inr (Or.inr (Or.inr (⟨rfl, hp⟩)))) dL_shiftRow_24
  · obtain ⟨f, h96⟩ := hP96 z u hp
    refine lv_i2l (v := (iZ z).toInt64) hx hb dL_shiftRow_8 rfl ?_
    refine x_last hx hb hK hH h96 dL_shiftRow_9 (fun u1 H locs e96 fr hH => ?_)
    refine lv_goto (tgt := 25) hx hb dL_shiftRow_10 (by decide) ?_
    refine x_iconst hx hb dL_shiftRow_25 ?_
    exact x_iret hx hb hr hlocks hH (Nat.le_of_ble_eq_true rfl) (Nat.le_of_ble_eq_true rfl) (Or.inl ⟨rfl, z, u, hp, e96, fr⟩) dL_shiftRow_26
def rm_L_shiftColumn : Room := { frames := 8, cells := 1, slots := 6, locals := 140 }
set_option maxRecDepth 100000 in
set_option maxHeartbeats 4000000 in
theorem c_L_shiftColumn (l : Launch) (E : xE) (ST : xST) (hSF : SF ST) (hSX : SX ST) (σ : xW) (p0 p1 : Int) {P : Int → xW → Prop} {px : String → xW → Prop} (hM : XI l E ST yX6_shiftColumn wsX6_shiftColumn rm_X6_shiftColumn [.ref (xad E 0), .int (iZ p0), .int (iZ p1)] σ P px) {fs : List Value} (h0 : σ 0 = oB 4 fs) (hP96 : ∀ (z : Int) (u : xW), P z u → ∃ f : Nat → Int64, u 96 = .inl (xJ E, 1, .inr (.inl f))) (hpx : ∀ (n : String) (u : xW), px n u → n = "java/lang/IndexOutOfBoundsException" ∨ n = "java/lang/IllegalArgumentException" ∨ n = "java/lang/IllegalStateException") : CI l E ST yL_shiftColumn wsL_shiftColumn rm_L_shiftColumn [.ref (xad E 0), .int (iZ p0), .int (iZ p1), .ref (xad E 96)] σ (fun (z9 : Int) (u : xW) => (z9 = 0 ∧ ∃ (z : Int) (u0 : xW), P z u0 ∧ u 96 = oJ E (iZ z).toInt64 ∧ ∀ j : Nat, j ≠ 96 → u j = u0 j) ∨ (z9 = 1 ∧ px "java/lang/IndexOutOfBoundsException" u) ∨ (z9 = 2 ∧ px "java/lang/IllegalArgumentException" u) ∨ (z9 = 3 ∧ px "java/lang/IllegalStateException" u)) := by
  refine CW_of (by decide) rfl (Nat.le_of_ble_eq_true rfl) ?_
  intro p e s m args below meth c Q ls G hH hl hQ
  obtain ⟨hx, hb, hml, hown, hts, hK, hST, hlocks, hr, htab⟩ := G
  have hOK := hSF.1
  have hown : s.vm.findClass RL = some m.cls := hown
  have hl : lv_has ls 5 [(0, .ref (xad E 0)), (1, .int (iZ p0)), (2, .int (iZ p1)), (3, .ref (xad E 96))] := hl
  subst hQ
  refine lv_aload_n hx hb dL_shiftColumn_0 rfl (lv_at hl 3 rfl) ?_
  refine x_iconst (n := 0) hx hb dL_shiftColumn_1 ?_
  refine lv_aload_n hx hb dL_shiftColumn_2 rfl (lv_at hl 0 rfl) ?_
  refine lv_iload_n hx hb dL_shiftColumn_3 rfl (lv_at hl 1 rfl) ?_
  refine lv_iload_n hx hb dL_shiftColumn_4 rfl (lv_at hl 2 rfl) ?_
  refine x_cXVI (As := [.int (iZ p0), .int (iZ p1)]) (rest := [.int (iZ 0), .ref (xad E 96)]) hx hb hml hts hown hK hST hOK hH 0 hM (cwV 2 hts gL_shiftColumn_X6_shiftColumn rfl rfl rfl (by decide +kernel) ⟨Nat.le_of_ble_eq_true rfl, Nat.le_of_ble_eq_true rfl⟩) (by decide) h0 rfl rfl hl.1 rfl (Nat.le_of_ble_eq_true rfl) dL_shiftColumn_5 ⟨Nat.le_of_ble_eq_true rfl, Nat.le_of_ble_eq_true rfl⟩ ?_ (fun z u H locs hp hH => ?_)
  · intro n ce q9 u H locs hp hH hce hcv hcl
    rcases hpx n u hp with rfl | rfl | rfl
    · refine x_catch hown hts hSX hST [] (0, 10, 13, 13) [(0, 10, 17, 15), (0, 10, 21, 20)] htab (by decide +kernel) (fun _ h => absurd h List.not_mem_nil) rfl (by decide) (List.mem_of_getElem? (i := 1) rfl) hce hcv hcl ?_
      refine lv_astore (lv' := (4, .ref q9) :: [(0, .ref (xad E 0)), (1, .int (iZ p0)), (2, .int (iZ p1)), (3, .ref (xad E 96))]) hx hb dL_shiftColumn_13 hl (by decide) rfl (fun ls hl => ?_)
      refine x_iconst hx hb dL_shiftColumn_15 ?_
      exact x_iret hx hb hr hlocks hH (Nat.le_of_ble_eq_true rfl) (Nat.le_of_ble_eq_true rfl) (Or.inr (Or.inl (⟨rfl, hp⟩))) dL_shiftColumn_16
    · refine x_catch hown hts hSX hST [(0, 10, 13, 13)] (0, 10, 17, 15) [(0, 10, 21, 20)] htab (by decide +kernel) (List.forall_mem_cons.mpr ⟨⟨by decide, "java/lang/IndexOutOfBoundsException", (List.mem_of_getElem? (i := 1) rfl), by decide +kernel, by decide +kernel⟩, (fun _ h => absurd h List.not_mem_nil)⟩) rfl (by decide) (List.mem_of_getElem? (i := 2) rfl) hce hcv hcl ?_
      refine lv_astore (lv' := (4, .ref q9) :: [(0, .ref (xad E 0)), (1, .int (iZ p0)), (2, .int (iZ p1)), (3, .ref (xad E 96))]) hx hb dL_shiftColumn_17 hl (by decide) rfl (fun ls hl => ?_)
      refine x_iconst hx hb dL_shiftColumn_19 ?_
      exact x_iret hx hb hr hlocks hH (Nat.le_of_ble_eq_true rfl) (Nat.le_of_ble_eq_true rfl) (Or.inr (Or.inr (Or.inl (⟨rfl, hp⟩)))) dL_shiftColumn_20
    · refine x_catch hown hts hSX hST [(0, 10, 13, 13), (0, 10, 17, 15)] (0, 10, 21, 20) [] htab (by decide +kernel) (List.forall_mem_cons.mpr ⟨⟨by decide, "java/lang/IndexOutOfBoundsException", (List.mem_of_getElem? (i := 1) rfl), by decide +kernel, by decide +kernel⟩, (List.forall_mem_cons.mpr ⟨⟨by decide, "java/lang/IllegalArgumentException", (List.mem_of_getElem? (i := 2) rfl), by decide +kernel, by decide +kernel⟩, (fun _ h => absurd h List.not_mem_nil)⟩)⟩) rfl (by decide) (List.mem_of_getElem? (i := 3) rfl) hce hcv hcl ?_
      refine lv_astore (lv' := (4, .ref q9) :: [(0, .ref (xad E 0)), (1, .int (iZ p0)), (2, .int (iZ p1)), (3, .ref (xad E 96))]) hx hb dL_shiftColumn_21 hl (by decide) rfl (fun ls hl => ?_)
      refine x_iconst hx hb dL_shiftColumn_23 ?_
      exact x_iret hx hb hr hlocks hH (Nat.le_of_ble_eq_true rfl) (Nat.le_of_ble_eq_true rfl) (Or.inr (Or.inr (Or.inr (⟨rfl, hp⟩)))) dL_shiftColumn_24
  · obtain ⟨f, h96⟩ := hP96 z u hp
    refine lv_i2l (v := (iZ z).toInt64) hx hb dL_shiftColumn_8 rfl ?_
    refine x_last hx hb hK hH h96 dL_shiftColumn_9 (fun u1 H locs e96 fr hH => ?_)
    refine lv_goto (tgt := 25) hx hb dL_shiftColumn_10 (by decide) ?_
    refine x_iconst hx hb dL_shiftColumn_25 ?_
    exact x_iret hx hb hr hlocks hH (Nat.le_of_ble_eq_true rfl) (Nat.le_of_ble_eq_true rfl) (Or.inl ⟨rfl, z, u, hp, e96, fr⟩) dL_shiftColumn_26
def rm_L_placeKey : Room := { frames := 8, cells := 1, slots := 6, locals := 134 }
set_option maxRecDepth 100000 in
set_option maxHeartbeats 4000000 in
theorem c_L_placeKey (l : Launch) (E : xE) (ST : xST) (hSF : SF ST) (hSX : SX ST) (σ : xW) (p0 p1 p2 : Int) {P : Int → xW → Prop} {px : String → xW → Prop} (hM : XI l E ST yX6_placeKey wsX6_placeKey rm_X6_placeKey [.ref (xad E 0), .int (iZ p0), .int (iZ p1), .int (iZ p2)] σ P px) {fs : List Value} (h0 : σ 0 = oB 4 fs) (hP96 : ∀ (z : Int) (u : xW), P z u → ∃ f : Nat → Int64, u 96 = .inl (xJ E, 1, .inr (.inl f))) (hpx : ∀ (n : String) (u : xW), px n u → n = "java/lang/IllegalArgumentException" ∨ n = "java/lang/IndexOutOfBoundsException" ∨ n = "java/lang/IllegalStateException") : CI l E ST yL_placeKey wsL_placeKey rm_L_placeKey [.ref (xad E 0), .int (iZ p0), .int (iZ p1), .int (iZ p2), .ref (xad E 96)] σ (fun (z9 : Int) (u : xW) => (z9 = 0 ∧ ∃ (z : Int) (u0 : xW), P z u0 ∧ u 96 = oJ E (iZ z).toInt64 ∧ ∀ j : Nat, j ≠ 96 → u j = u0 j) ∨ (z9 = 1 ∧ px "java/lang/IllegalArgumentException" u) ∨ (z9 = 2 ∧ px "java/lang/IndexOutOfBoundsException" u) ∨ (z9 = 3 ∧ px "java/lang/IllegalStateException" u)) := by
  refine CW_of (by decide) rfl (Nat.le_of_ble_eq_true rfl) ?_
  intro p e s m args below meth c Q ls G hH hl hQ
  obtain ⟨hx, hb, hml, hown, hts, hK, hST, hlocks, hr, htab⟩ := G
  have hOK := hSF.1
  have hown : s.vm.findClass RL = some m.cls := hown
  have hl : lv_has ls 6 [(0, .ref (xad E 0)), (1, .int (iZ p0)), (2, .int (iZ p1)), (3, .int (iZ p2)), (4, .ref (xad E 96))] := hl
  subst hQ
  refine lv_aload hx hb dL_placeKey_0 (lv_at hl 4 rfl) ?_
  refine x_iconst (n := 0) hx hb dL_placeKey_2 ?_
  refine lv_aload_n hx hb dL_placeKey_3 rfl (lv_at hl 0 rfl) ?_
  refine lv_iload_n hx hb dL_placeKey_4 rfl (lv_at hl 1 rfl) ?_
  refine lv_iload_n hx hb dL_placeKey_5 rfl (lv_at hl 2 rfl) ?_
  refine lv_iload_n hx hb dL_placeKey_6 rfl (lv_at hl 3 rfl) ?_
  refine x_cXVI (As := [.int (iZ p0), .int (iZ p1), .int (iZ p2)]) (rest := [.int (iZ 0), .ref (xad E 96)]) hx hb hml hts hown hK hST hOK hH 0 hM (cwV 3 hts gL_placeKey_X6_placeKey rfl rfl rfl (by decide +kernel) ⟨Nat.le_of_ble_eq_true rfl, Nat.le_of_ble_eq_true rfl⟩) (by decide) h0 rfl rfl hl.1 rfl (Nat.le_of_ble_eq_true rfl) dL_placeKey_7 ⟨Nat.le_of_ble_eq_true rfl, Nat.le_of_ble_eq_true rfl⟩ ?_ (fun z u H locs hp hH => ?_)
  · intro n ce q9 u H locs hp hH hce hcv hcl
    rcases hpx n u hp with rfl | rfl | rfl
    · refine x_catch hown hts hSX hST [] (0, 12, 15, 15) [(0, 12, 19, 13), (0, 12, 23, 20)] htab (by decide +kernel) (fun _ h => absurd h List.not_mem_nil) rfl (by decide) (List.mem_of_getElem? (i := 1) rfl) hce hcv hcl ?_
      refine lv_astore (lv' := (5, .ref q9) :: [(0, .ref (xad E 0)), (1, .int (iZ p0)), (2, .int (iZ p1)), (3, .int (iZ p2)), (4, .ref (xad E 96))]) hx hb dL_placeKey_15 hl (by decide) rfl (fun ls hl => ?_)
      refine x_iconst hx hb dL_placeKey_17 ?_
      exact x_iret hx hb hr hlocks hH (Nat.le_of_ble_eq_true rfl) (Nat.le_of_ble_eq_true rfl) (Or.inr (Or.inl (⟨rfl, hp⟩))) dL_placeKey_18
    · refine x_catch hown hts hSX hST [(0, 12, 15, 15)] (0, 12, 19, 13) [(0, 12, 23, 20)] htab (by decide +kernel) (List.forall_mem_cons.mpr ⟨⟨by decide, "java/lang/IllegalArgumentException", (List.mem_of_getElem? (i := 1) rfl), by decide +kernel, by decide +kernel⟩, (fun _ h => absurd h List.not_mem_nil)⟩) rfl (by decide) (List.mem_of_getElem? (i := 2) rfl) hce hcv hcl ?_
      refine lv_astore (lv' := (5, .ref q9) :: [(0, .ref (xad E 0)), (1, .int (iZ p0)), (2, .int (iZ p1)), (3, .int (iZ p2)), (4, .ref (xad E 96))]) hx hb dL_placeKey_19 hl (by decide) rfl (fun ls hl => ?_)
      refine x_iconst hx hb dL_placeKey_21 ?_
      exact x_iret hx hb hr hlocks hH (Nat.le_of_ble_eq_true rfl) (Nat.le_of_ble_eq_true rfl) (Or.inr (Or.inr (Or.inl (⟨rfl, hp⟩)))) dL_placeKey_22
    · refine x_catch hown hts hSX hST [(0, 12, 15, 15), (0, 12, 19, 13)] (0, 12, 23, 20) [] htab (by decide +kernel) (List.forall_mem_cons.mpr ⟨⟨by decide, "java/lang/IllegalArgumentException", (List.mem_of_getElem? (i := 1) rfl), by decide +kernel, by decide +kernel⟩, (List.forall_mem_cons.mpr ⟨⟨by decide, "java/lang/IndexOutOfBoundsException", (List.mem_of_getElem? (i := 2) rfl), by decide +kernel, by decide +kernel⟩, (fun _ h => absurd h List.not_mem_nil)⟩)⟩) rfl (by decide) (List.mem_of_getElem? (i := 3) rfl) hce hcv hcl ?_
      refine lv_astore (lv' := (5, .ref q9) :: [(0, .ref (xad E 0)), (1, .int (iZ p0)), (2, .int (iZ p1)), (3, .int (iZ p2)), (4, .ref (xad E 96))]) hx hb dL_placeKey_23 hl (by decide) rfl (fun ls hl => ?_)
      refine x_iconst hx hb dL_placeKey_25 ?_
      exact x_iret hx hb hr hlocks hH (Nat.le_of_ble_eq_true rfl) (Nat.le_of_ble_eq_true rfl) (Or.inr (Or.inr (Or.inr (⟨rfl, hp⟩)))) dL_placeKey_26
  · obtain ⟨f, h96⟩ := hP96 z u hp
    refine lv_i2l (v := (iZ z).toInt64) hx hb dL_placeKey_10 rfl ?_
    refine x_last hx hb hK hH h96 dL_placeKey_11 (fun u1 H locs e96 fr hH => ?_)
    refine lv_goto (tgt := 27) hx hb dL_placeKey_12 (by decide) ?_
    refine x_iconst hx hb dL_placeKey_27 ?_
    exact x_iret hx hb hr hlocks hH (Nat.le_of_ble_eq_true rfl) (Nat.le_of_ble_eq_true rfl) (Or.inl ⟨rfl, z, u, hp, e96, fr⟩) dL_placeKey_28
def rm_L_addLock : Room := { frames := 8, cells := 1, slots := 6, locals := 134 }
set_option maxRecDepth 100000 in
set_option maxHeartbeats 4000000 in
theorem c_L_addLock (l : Launch) (E : xE) (ST : xST) (hSF : SF ST) (hSX : SX ST) (σ : xW) (p0 p1 p2 : Int) {P : Int → xW → Prop} {px : String → xW → Prop} (hM : XI l E ST yX6_addLock wsX6_addLock rm_X6_addLock [.ref (xad E 0), .int (iZ p0), .int (iZ p1), .int (iZ p2)] σ P px) {fs : List Value} (h0 : σ 0 = oB 4 fs) (hP96 : ∀ (z : Int) (u : xW), P z u → ∃ f : Nat → Int64, u 96 = .inl (xJ E, 1, .inr (.inl f))) (hpx : ∀ (n : String) (u : xW), px n u → n = "java/lang/IndexOutOfBoundsException" ∨ n = "java/lang/IllegalArgumentException" ∨ n = "java/lang/IllegalStateException") : CI l E ST yL_addLock wsL_addLock rm_L_addLock [.ref (xad E 0), .int (iZ p0), .int (iZ p1), .int (iZ p2), .ref (xad E 96)] σ (fun (z9 : Int) (u : xW) => (z9 = 0 ∧ ∃ (z : Int) (u0 : xW), P z u0 ∧ u 96 = oJ E (iZ z).toInt64 ∧ ∀ j : Nat, j ≠ 96 → u j = u0 j) ∨ (z9 = 1 ∧ px "java/lang/IndexOutOfBoundsException" u) ∨ (z9 = 2 ∧ px "java/lang/IllegalArgumentException" u) ∨ (z9 = 3 ∧ px "java/lang/IllegalStateException" u)) := by
  refine CW_of (by decide) rfl (Nat.le_of_ble_eq_true rfl) ?_
  intro p e s m args below meth c Q ls G hH hl hQ
  obtain ⟨hx, hb, hml, hown, hts, hK, hST, hlocks, hr, htab⟩ := G
  have hOK := hSF.1
  have hown : s.vm.findClass RL = some m.cls := hown
  have hl : lv_has ls 6 [(0, .ref (xad E 0)), (1, .int (iZ p0)), (2, .int (iZ p1)), (3, .int (iZ p2)), (4, .ref (xad E 96))] := hl
  subst hQ
  refine lv_aload hx hb dL_addLock_0 (lv_at hl 4 rfl) ?_
  refine x_iconst (n := 0) hx hb dL_addLock_2 ?_
  refine lv_aload_n hx hb dL_addLock_3 rfl (lv_at hl 0 rfl) ?_
  refine lv_iload_n hx hb dL_addLock_4 rfl (lv_at hl 1 rfl) ?_
  refine lv_iload_n hx hb dL_addLock_5 rfl (lv_at hl 2 rfl) ?_
  refine lv_iload_n hx hb dL_addLock_6 rfl (lv_at hl 3 rfl) ?_
  refine x_cXVI (As := [.int (iZ p0), .int (iZ p1), .int (iZ p2)]) (rest := [.int (iZ 0), .ref (xad E 96)]) hx hb hml hts hown hK hST hOK hH 0 hM (cwV 3 hts gL_addLock_X6_addLock rfl rfl rfl (by decide +kernel) ⟨Nat.le_of_ble_eq_true rfl, Nat.le_of_ble_eq_true rfl⟩) (by decide) h0 rfl rfl hl.1 rfl (Nat.le_of_ble_eq_true rfl) dL_addLock_7 ⟨Nat.le_of_ble_eq_true rfl, Nat.le_of_ble_eq_true rfl⟩ ?_ (fun z u H locs hp hH => ?_)
  · intro n ce q9 u H locs hp hH hce hcv hcl
    rcases hpx n u hp with rfl | rfl | rfl
    · refine x_catch hown hts hSX hST [] (0, 12, 15, 13) [(0, 12, 19, 15), (0, 12, 23, 20)] htab (by decide +kernel) (fun _ h => absurd h List.not_mem_nil) rfl (by decide) (List.mem_of_getElem? (i := 1) rfl) hce hcv hcl ?_
      refine lv_astore (lv' := (5, .ref q9) :: [(0, .ref (xad E 0)), (1, .int (iZ p0)), (2, .int (iZ p1)), (3, .int (iZ p2)), (4, .ref (xad E 96))]) hx hb dL_addLock_15 hl (by decide) rfl (fun ls hl => ?_)
      refine x_iconst hx hb dL_addLock_17 ?_
      exact x_iret hx hb hr hlocks hH (Nat.le_of_ble_eq_true rfl) (Nat.le_of_ble_eq_true rfl) (Or.inr (Or.inl (⟨rfl, hp⟩))) dL_addLock_18
    · refine x_catch hown hts hSX hST [(0, 12, 15, 13)] (0, 12, 19, 15) [(0, 12, 23, 20)] htab (by decide +kernel) (List.forall_mem_cons.mpr ⟨⟨by decide, "java/lang/IndexOutOfBoundsException", (List.mem_of_getElem? (i := 1) rfl), by decide +kernel, by decide +kernel⟩, (fun _ h => absurd h List.not_mem_nil)⟩) rfl (by decide) (List.mem_of_getElem? (i := 2) rfl) hce hcv hcl ?_
      refine lv_astore (lv' := (5, .ref q9) :: [(0, .ref (xad E 0)), (1, .int (iZ p0)), (2, .int (iZ p1)), (3, .int (iZ p2)), (4, .ref (xad E 96))]) hx hb dL_addLock_19 hl (by decide) rfl (fun ls hl => ?_)
      refine x_iconst hx hb dL_addLock_21 ?_
      exact x_iret hx hb hr hlocks hH (Nat.le_of_ble_eq_true rfl) (Nat.le_of_ble_eq_true rfl) (Or.inr (Or.inr (Or.inl (⟨rfl, hp⟩)))) dL_addLock_22
    · refine x_catch hown hts hSX hST [(0, 12, 15, 13), (0, 12, 19, 15)] (0, 12, 23, 20) [] htab (by decide +kernel) (List.forall_mem_cons.mpr ⟨⟨by decide, "java/lang/IndexOutOfBoundsException", (List.mem_of_getElem? (i := 1) rfl), by decide +kernel, by decide +kernel⟩, (List.forall_mem_cons.mpr ⟨⟨by decide, "java/lang/IllegalArgumentException", (List.mem_of_getElem? (i := 2) rfl), by decide +kernel, by decide +kernel⟩, (fun _ h => absurd h List.not_mem_nil)⟩)⟩) rfl (by decide) (List.mem_of_getElem? (i := 3) rfl) hce hcv hcl ?_
      refine lv_astore (lv' := (5, .ref q9) :: [(0, .ref (xad E 0)), (1, .int (iZ p0)), (2, .int (iZ p1)), (3, .int (iZ p2)), (4, .ref (xad E 96))]) hx hb dL_addLock_23 hl (by decide) rfl (fun ls hl => ?_)
      refine x_iconst hx hb dL_addLock_25 ?_
      exact x_iret hx hb hr hlocks hH (Nat.le_of_ble_eq_true rfl) (Nat.le_of_ble_eq_true rfl) (Or.inr (Or.inr (Or.inr (⟨rfl, hp⟩)))) dL_addLock_26
  · obtain ⟨f, h96⟩ := hP96 z u hp
    refine lv_i2l (v := (iZ z).toInt64) hx hb dL_addLock_10 rfl ?_
    refine x_last hx hb hK hH h96 dL_addLock_11 (fun u1 H locs e96 fr hH => ?_)
    refine lv_goto (tgt := 27) hx hb dL_addLock_12 (by decide) ?_
    refine x_iconst hx hb dL_addLock_27 ?_
    exact x_iret hx hb hr hlocks hH (Nat.le_of_ble_eq_true rfl) (Nat.le_of_ble_eq_true rfl) (Or.inl ⟨rfl, z, u, hp, e96, fr⟩) dL_addLock_28
def rm_L_removeLock : Room := { frames := 8, cells := 1, slots := 6, locals := 133 }
set_option maxRecDepth 100000 in
set_option maxHeartbeats 4000000 in
theorem c_L_removeLock (l : Launch) (E : xE) (ST : xST) (hSF : SF ST) (hSX : SX ST) (σ : xW) (p0 p1 : Int) {P : Int → xW → Prop} {px : String → xW → Prop} (hM : XI l E ST yX6_removeLock wsX6_removeLock rm_X6_removeLock [.ref (xad E 0), .int (iZ p0), .int (iZ p1)] σ P px) {fs : List Value} (h0 : σ 0 = oB 4 fs) (hP96 : ∀ (z : Int) (u : xW), P z u → ∃ f : Nat → Int64, u 96 = .inl (xJ E, 1, .inr (.inl f))) (hpx : ∀ (n : String) (u : xW), px n u → n = "java/lang/IndexOutOfBoundsException" ∨ n = "java/util/NoSuchElementException") : CI l E ST yL_removeLock wsL_removeLock rm_L_removeLock [.ref (xad E 0), .int (iZ p0), .int (iZ p1), .ref (xad E 96)] σ (fun (z9 : Int) (u : xW) => (z9 = 0 ∧ ∃ (z : Int) (u0 : xW), P z u0 ∧ u 96 = oJ E (iZ z).toInt64 ∧ ∀ j : Nat, j ≠ 96 → u j = u0 j) ∨ (z9 = 1 ∧ px "java/lang/IndexOutOfBoundsException" u) ∨ (z9 = 2 ∧ px "java/util/NoSuchElementException" u)) := by
  refine CW_of (by decide) rfl (Nat.le_of_ble_eq_true rfl) ?_
  intro p e s m args below meth c Q ls G hH hl hQ
  obtain ⟨hx, hb, hml, hown, hts, hK, hST, hlocks, hr, htab⟩ := G
  have hOK := hSF.1
  have hown : s.vm.findClass RL = some m.cls := hown
  have hl : lv_has ls 5 [(0, .ref (xad E 0)), (1, .int (iZ p0)), (2, .int (iZ p1)), (3, .ref (xad E 96))] := hl
  subst hQ
  refine lv_aload_n hx hb dL_removeLock_0 rfl (lv_at hl 3 rfl) ?_
  refine x_iconst (n := 0) hx hb dL_removeLock_1 ?_
  refine lv_aload_n hx hb dL_removeLock_2 rfl (lv_at hl 0 rfl) ?_
  refine lv_iload_n hx hb dL_removeLock_3 rfl (lv_at hl 1 rfl) ?_
  refine lv_iload_n hx hb dL_removeLock_4 rfl (lv_at hl 2 rfl) ?_
  refine x_cXVI (As := [.int (iZ p0), .int (iZ p1)]) (rest := [.int (iZ 0), .ref (xad E 96)]) hx hb hml hts hown hK hST hOK hH 0 hM (cwV 2 hts gL_removeLock_X6_removeLock rfl rfl rfl (by decide +kernel) ⟨Nat.le_of_ble_eq_true rfl, Nat.le_of_ble_eq_true rfl⟩) (by decide) h0 rfl rfl hl.1 rfl (Nat.le_of_ble_eq_true rfl) dL_removeLock_5 ⟨Nat.le_of_ble_eq_true rfl, Nat.le_of_ble_eq_true rfl⟩ ?_ (fun z u H locs hp hH => ?_)
  · intro n ce q9 u H locs hp hH hce hcv hcl
    rcases hpx n u hp with rfl | rfl
    · refine x_catch hown hts hSX hST [] (0, 10, 13, 13) [(0, 10, 17, 47)] htab (by decide +kernel) (fun _ h => absurd h List.not_mem_nil) rfl (by decide) (List.mem_of_getElem? (i := 1) rfl) hce hcv hcl ?_
      refine lv_astore (lv' := (4, .ref q9) :: [(0, .ref (xad E 0)), (1, .int (iZ p0)), (2, .int (iZ p1)), (3, .ref (xad E 96))]) hx hb dL_removeLock_13 hl (by decide) rfl (fun ls hl => ?_)
      refine x_iconst hx hb dL_removeLock_15 ?_
      exact x_iret hx hb hr hlocks hH (Nat.le_of_ble_eq_true rfl) (Nat.le_of_ble_eq_true rfl) (Or.inr (Or.inl (⟨rfl, hp⟩))) dL_removeLock_16
    · refine x_catch hown hts hSX hST [(0, 10, 13, 13)] (0, 10, 17, 47) [] htab (by decide +kernel) (List.forall_mem_cons.mpr ⟨⟨by decide, "java/lang/IndexOutOfBoundsException", (List.mem_of_getElem? (i := 1) rfl), by decide +kernel, by decide +kernel⟩, (fun _ h => absurd h List.not_mem_nil)⟩) rfl (by decide) (List.mem_of_getElem? (i := 2) rfl) hce hcv hcl ?_
      refine lv_astore (lv' := (4, .ref q9) :: [(0, .ref (xad E 0)), (1, .int (iZ p0)), (2, .int (iZ p1)), (3, .ref (xad E 96))]) hx hb dL_removeLock_17 hl (by decide) rfl (fun ls hl => ?_)
      refine x_iconst hx hb dL_removeLock_19 ?_
      exact x_iret hx hb hr hlocks hH (Nat.le_of_ble_eq_true rfl) (Nat.le_of_ble_eq_true rfl) (Or.inr (Or.inr (⟨rfl, hp⟩))) dL_removeLock_20
  · obtain ⟨f, h96⟩ := hP96 z u hp
    refine lv_i2l (v := (iZ z).toInt64) hx hb dL_removeLock_8 rfl ?_
    refine x_last hx hb hK hH h96 dL_removeLock_9 (fun u1 H locs e96 fr hH => ?_)
    refine lv_goto (tgt := 21) hx hb dL_removeLock_10 (by decide) ?_
    refine x_iconst hx hb dL_removeLock_21 ?_
    exact x_iret hx hb hr hlocks hH (Nat.le_of_ble_eq_true rfl) (Nat.le_of_ble_eq_true rfl) (Or.inl ⟨rfl, z, u, hp, e96, fr⟩) dL_removeLock_22
def rm_L_addWalker : Room := { frames := 8, cells := 1, slots := 6, locals := 133 }
set_option maxRecDepth 100000 in
set_option maxHeartbeats 4000000 in
theorem c_L_addWalker (l : Launch) (E : xE) (ST : xST) (hSF : SF ST) (hSX : SX ST) (σ : xW) (p0 p1 : Int) {P : Int → xW → Prop} {px : String → xW → Prop} (hM : XI l E ST yX6_addWalker wsX6_addWalker rm_X6_addWalker [.ref (xad E 0), .int (iZ p0), .int (iZ p1)] σ P px) {fs : List Value} (h0 : σ 0 = oB 4 fs) (hP96 : ∀ (z : Int) (u : xW), P z u → ∃ f : Nat → Int64, u 96 = .inl (xJ E, 1, .inr (.inl f))) (hpx : ∀ (n : String) (u : xW), px n u → n = "java/lang/IndexOutOfBoundsException" ∨ n = "java/lang/IllegalStateException" ∨ n = "java/lang/UnsupportedOperationException") : CI l E ST yL_addWalker wsL_addWalker rm_L_addWalker [.ref (xad E 0), .int (iZ p0), .int (iZ p1), .ref (xad E 96)] σ (fun (z9 : Int) (u : xW) => (z9 = 0 ∧ ∃ (z : Int) (u0 : xW), P z u0 ∧ u 96 = oJ E (iZ z).toInt64 ∧ ∀ j : Nat, j ≠ 96 → u j = u0 j) ∨ (z9 = 1 ∧ px "java/lang/IndexOutOfBoundsException" u) ∨ (z9 = 2 ∧ px "java/lang/IllegalStateException" u) ∨ (z9 = 3 ∧ px "java/lang/UnsupportedOperationException" u)) := by
  refine CW_of (by decide) rfl (Nat.le_of_ble_eq_true rfl) ?_
  intro p e s m args below meth c Q ls G hH hl hQ
  obtain ⟨hx, hb, hml, hown, hts, hK, hST, hlocks, hr, htab⟩ := G
  have hOK := hSF.1
  have hown : s.vm.findClass RL = some m.cls := hown
  have hl : lv_has ls 5 [(0, .ref (xad E 0)), (1, .int (iZ p0)), (2, .int (iZ p1)), (3, .ref (xad E 96))] := hl
  subst hQ
  refine lv_aload_n hx hb dL_addWalker_0 rfl (lv_at hl 3 rfl) ?_
  refine x_iconst (n := 0) hx hb dL_addWalker_1 ?_
  refine lv_aload_n hx hb dL_addWalker_2 rfl (lv_at hl 0 rfl) ?_
  refine lv_iload_n hx hb dL_addWalker_3 rfl (lv_at hl 1 rfl) ?_
  refine lv_iload_n hx hb dL_addWalker_4 rfl (lv_at hl 2 rfl) ?_
  refine x_cXVI (As := [.int (iZ p0), .int (iZ p1)]) (rest := [.int (iZ 0), .ref (xad E 96)]) hx hb hml hts hown hK hST hOK hH 0 hM (cwV 2 hts gL_addWalker_X6_addWalker rfl rfl rfl (by decide +kernel) ⟨Nat.le_of_ble_eq_true rfl, Nat.le_of_ble_eq_true rfl⟩) (by decide) h0 rfl rfl hl.1 rfl (Nat.le_of_ble_eq_true rfl) dL_addWalker_5 ⟨Nat.le_of_ble_eq_true rfl, Nat.le_of_ble_eq_true rfl⟩ ?_ (fun z u H locs hp hH => ?_)
  · intro n ce q9 u H locs hp hH hce hcv hcl
    rcases hpx n u hp with rfl | rfl | rfl
    · refine x_catch hown hts hSX hST [] (0, 10, 13, 13) [(0, 10, 17, 20), (0, 10, 21, 52)] htab (by decide +kernel) (fun _ h => absurd h List.not_mem_nil) rfl (by decide) (List.mem_of_getElem? (i := 1) rfl) hce hcv hcl ?_
      refine lv_astore (lv' := (4, .ref q9) :: [(0, .ref (xad E 0)), (1, .int (iZ p0)), (2, .int (iZ p1)), (3, .ref (xad E 96))]) hx hb dL_addWalker_13 hl (by decide) rfl (fun ls hl => ?_)
      refine x_iconst hx hb dL_addWalker_15 ?_
      exact x_iret hx hb hr hlocks hH (Nat.le_of_ble_eq_true rfl) (Nat.le_of_ble_eq_true rfl) (Or.inr (Or.inl (⟨rfl, hp⟩))) dL_addWalker_16
    · refine x_catch hown hts hSX hST [(0, 10, 13, 13)] (0, 10, 17, 20) [(0, 10, 21, 52)] htab (by decide +kernel) (List.forall_mem_cons.mpr ⟨⟨by decide, "java/lang/IndexOutOfBoundsException", (List.mem_of_getElem? (i := 1) rfl), by decide +kernel, by decide +kernel⟩, (fun _ h => absurd h List.not_mem_nil)⟩) rfl (by decide) (List.mem_of_getElem? (i := 2) rfl) hce hcv hcl ?_
      refine lv_astore (lv' := (4, .ref q9) :: [(0, .ref (xad E 0)), (1, .int (iZ p0)), (2, .int (iZ p1)), (3, .ref (xad E 96))]) hx hb dL_addWalker_17 hl (by decide) rfl (fun ls hl => ?_)
      refine x_iconst hx hb dL_addWalker_19 ?_
      exact x_iret hx hb hr hlocks hH (Nat.le_of_ble_eq_true rfl) (Nat.le_of_ble_eq_true rfl) (Or.inr (Or.inr (Or.inl (⟨rfl, hp⟩)))) dL_addWalker_20
    · refine x_catch hown hts hSX hST [(0, 10, 13, 13), (0, 10, 17, 20)] (0, 10, 21, 52) [] htab (by decide +kernel) (List.forall_mem_cons.mpr ⟨⟨by decide, "java/lang/IndexOutOfBoundsException", (List.mem_of_getElem? (i := 1) rfl), by decide +kernel, by decide +kernel⟩, (List.forall_mem_cons.mpr ⟨⟨by decide, "java/lang/IllegalStateException", (List.mem_of_getElem? (i := 2) rfl), by decide +kernel, by decide +kernel⟩, (fun _ h => absurd h List.not_mem_nil)⟩)⟩) rfl (by decide) (List.mem_of_getElem? (i := 3) rfl) hce hcv hcl ?_
      refine lv_astore (lv' := (4, .ref q9) :: [(0, .ref (xad E 0)), (1, .int (iZ p0)), (2, .int (iZ p1)), (3, .ref (xad E 96))]) hx hb dL_addWalker_21 hl (by decide) rfl (fun ls hl => ?_)
      refine x_iconst hx hb dL_addWalker_23 ?_
      exact x_iret hx hb hr hlocks hH (Nat.le_of_ble_eq_true rfl) (Nat.le_of_ble_eq_true rfl) (Or.inr (Or.inr (Or.inr (⟨rfl, hp⟩)))) dL_addWalker_24
  · obtain ⟨f, h96⟩ := hP96 z u hp
    refine lv_i2l (v := (iZ z).toInt64) hx hb dL_addWalker_8 rfl ?_
    refine x_last hx hb hK hH h96 dL_addWalker_9 (fun u1 H locs e96 fr hH => ?_)
    refine lv_goto (tgt := 25) hx hb dL_addWalker_10 (by decide) ?_
    refine x_iconst hx hb dL_addWalker_25 ?_
    exact x_iret hx hb hr hlocks hH (Nat.le_of_ble_eq_true rfl) (Nat.le_of_ble_eq_true rfl) (Or.inl ⟨rfl, z, u, hp, e96, fr⟩) dL_addWalker_26
def rm_L_walk : Room := { frames := 8, cells := 1, slots := 6, locals := 134 }
set_option maxRecDepth 100000 in
set_option maxHeartbeats 4000000 in
theorem c_L_walk (l : Launch) (E : xE) (ST : xST) (hSF : SF ST) (hSX : SX ST) (σ : xW) (p0 p1 p2 : Int) {P : Int → xW → Prop} {px : String → xW → Prop} (hM : XI l E ST yX6_walk wsX6_walk rm_X6_walk [.ref (xad E 0), .int (iZ p0), .int (iZ p1), .int (iZ p2)] σ P px) {fs : List Value} (h0 : σ 0 = oB 4 fs) (hP96 : ∀ (z : Int) (u : xW), P z u → ∃ f : Nat → Int64, u 96 = .inl (xJ E, 1, .inr (.inl f))) (hpx : ∀ (n : String) (u : xW), px n u → n = "java/lang/IndexOutOfBoundsException" ∨ n = "java/lang/IllegalArgumentException" ∨ n = "java/lang/IllegalStateException") : CI l E ST yL_walk wsL_walk rm_L_walk [.ref (xad E 0), .int (iZ p0), .int (iZ p1), .int (iZ p2), .ref (xad E 96)] σ (fun (z9 : Int) (u : xW) => (z9 = 0 ∧ ∃ (z : Int) (u0 : xW), P z u0 ∧ u 96 = oJ E (iZ z).toInt64 ∧ ∀ j : Nat, j ≠ 96 → u j = u0 j) ∨ (z9 = 1 ∧ px "java/lang/IndexOutOfBoundsException" u) ∨ (z9 = 2 ∧ px "java/lang/IllegalArgumentException" u) ∨ (z9 = 3 ∧ px "java/lang/IllegalStateException" u)) := by
  refine CW_of (by decide) rfl (Nat.le_of_ble_eq_true rfl) ?_
  intro p e s m args below meth c Q ls G hH hl hQ
  obtain ⟨hx, hb, hml, hown, hts, hK, hST, hlocks, hr, htab⟩ := G
  have hOK := hSF.1
  have hown : s.vm.findClass RL = some m.cls := hown
  have hl : lv_has ls 6 [(0, .ref (xad E 0)), (1, .int (iZ p0)), (2, .int (iZ p1)), (3, .int (iZ p2)), (4, .ref (xad E 96))] := hl
  subst hQ
  refine lv_aload hx hb dL_walk_0 (lv_at hl 4 rfl) ?_
  refine x_iconst (n := 0) hx hb dL_walk_2 ?_
  refine lv_aload_n hx hb dL_walk_3 rfl (lv_at hl 0 rfl) ?_
  refine lv_iload_n hx hb dL_walk_4 rfl (lv_at hl 1 rfl) ?_
  refine lv_iload_n hx hb dL_walk_5 rfl (lv_at hl 2 rfl) ?_
  refine lv_iload_n hx hb dL_walk_6 rfl (lv_at hl 3 rfl) ?_
  refine x_cXVI (As := [.int (iZ p0), .int (iZ p1), .int (iZ p2)]) (rest := [.int (iZ 0), .ref (xad E 96)]) hx hb hml hts hown hK hST hOK hH 0 hM (cwV 3 hts gL_walk_X6_walk rfl rfl rfl (by decide +kernel) ⟨Nat.le_of_ble_eq_true rfl, Nat.le_of_ble_eq_true rfl⟩) (by decide) h0 rfl rfl hl.1 rfl (Nat.le_of_ble_eq_true rfl) dL_walk_7 ⟨Nat.le_of_ble_eq_true rfl, Nat.le_of_ble_eq_true rfl⟩ ?_ (fun z u H locs hp hH => ?_)
  · intro n ce q9 u H locs hp hH hce hcv hcl
    rcases hpx n u hp with rfl | rfl | rfl
    · refine x_catch hown hts hSX hST [] (0, 12, 15, 13) [(0, 12, 19, 15), (0, 12, 23, 20)] htab (by decide +kernel) (fun _ h => absurd h List.not_mem_nil) rfl (by decide) (List.mem_of_getElem? (i := 1) rfl) hce hcv hcl ?_
      refine lv_astore (lv' := (5, .ref q9) :: [(0, .ref (xad E 0)), (1, .int (iZ p0)), (2, .int (iZ p1)), (3, .int (iZ p2)), (4, .ref (xad E 96))]) hx hb dL_walk_15 hl (by decide) rfl (fun ls hl => ?_)
      refine x_iconst hx hb dL_walk_17 ?_
      exact x_iret hx hb hr hlocks hH (Nat.le_of_ble_eq_true rfl) (Nat.le_of_ble_eq_true rfl) (Or.inr (Or.inl (⟨rfl, hp⟩))) dL_walk_18
    · refine x_catch hown hts hSX hST [(0, 12, 15, 13)] (0, 12, 19, 15) [(0, 12, 23, 20)] htab (by decide +kernel) (List.forall_mem_cons.mpr ⟨⟨by decide, "java/lang/IndexOutOfBoundsException", (List.mem_of_getElem? (i := 1) rfl), by decide +kernel, by decide +kernel⟩, (fun _ h => absurd h List.not_mem_nil)⟩) rfl (by decide) (List.mem_of_getElem? (i := 2) rfl) hce hcv hcl ?_
      refine lv_astore (lv' := (5, .ref q9) :: [(0, .ref (xad E 0)), (1, .int (iZ p0)), (2, .int (iZ p1)), (3, .int (iZ p2)), (4, .ref (xad E 96))]) hx hb dL_walk_19 hl (by decide) rfl (fun ls hl => ?_)
      refine x_iconst hx hb dL_walk_21 ?_
      exact x_iret hx hb hr hlocks hH (Nat.le_of_ble_eq_true rfl) (Nat.le_of_ble_eq_true rfl) (Or.inr (Or.inr (Or.inl (⟨rfl, hp⟩)))) dL_walk_22
    · refine x_catch hown hts hSX hST [(0, 12, 15, 13), (0, 12, 19, 15)] (0, 12, 23, 20) [] htab (by decide +kernel) (List.forall_mem_cons.mpr ⟨⟨by decide, "java/lang/IndexOutOfBoundsException", (List.mem_of_getElem? (i := 1) rfl), by decide +kernel, by decide +kernel⟩, (List.forall_mem_cons.mpr ⟨⟨by decide, "java/lang/IllegalArgumentException", (List.mem_of_getElem? (i := 2) rfl), by decide +kernel, by decide +kernel⟩, (fun _ h => absurd h List.not_mem_nil)⟩)⟩) rfl (by decide) (List.mem_of_getElem? (i := 3) rfl) hce hcv hcl ?_
      refine lv_astore (lv' := (5, .ref q9) :: [(0, .ref (xad E 0)), (1, .int (iZ p0)), (2, .int (iZ p1)), (3, .int (iZ p2)), (4, .ref (xad E 96))]) hx hb dL_walk_23 hl (by decide) rfl (fun ls hl => ?_)
      refine x_iconst hx hb dL_walk_25 ?_
      exact x_iret hx hb hr hlocks hH (Nat.le_of_ble_eq_true rfl) (Nat.le_of_ble_eq_true rfl) (Or.inr (Or.inr (Or.inr (⟨rfl, hp⟩)))) dL_walk_26
  · obtain ⟨f, h96⟩ := hP96 z u hp
    refine lv_i2l (v := (iZ z).toInt64) hx hb dL_walk_10 rfl ?_
    refine x_last hx hb hK hH h96 dL_walk_11 (fun u1 H locs e96 fr hH => ?_)
    refine lv_goto (tgt := 27) hx hb dL_walk_12 (by decide) ?_
    refine x_iconst hx hb dL_walk_27 ?_
    exact x_iret hx hb hr hlocks hH (Nat.le_of_ble_eq_true rfl) (Nat.le_of_ble_eq_true rfl) (Or.inl ⟨rfl, z, u, hp, e96, fr⟩) dL_walk_28
def rm_L_openings : Room := { frames := 8, cells := 1, slots := 6, locals := 133 }
set_option maxRecDepth 100000 in
set_option maxHeartbeats 4000000 in
theorem c_L_openings (l : Launch) (E : xE) (ST : xST) (hSF : SF ST) (hSX : SX ST) (σ : xW) (p0 p1 : Int) {P : Int → xW → Prop} {px : String → xW → Prop} (hM : XI l E ST yX6_openings wsX6_openings rm_X6_openings [.ref (xad E 0), .int (iZ p0), .int (iZ p1)] σ P px) {fs : List Value} (h0 : σ 0 = oB 4 fs) (hP96 : ∀ (z : Int) (u : xW), P z u → ∃ f : Nat → Int64, u 96 = .inl (xJ E, 1, .inr (.inl f))) (hpx : ∀ (n : String) (u : xW), px n u → n = "java/lang/IndexOutOfBoundsException") : CI l E ST yL_openings wsL_openings rm_L_openings [.ref (xad E 0), .int (iZ p0), .int (iZ p1), .ref (xad E 96)] σ (fun (z9 : Int) (u : xW) => (z9 = 0 ∧ ∃ (z : Int) (u0 : xW), P z u0 ∧ u 96 = oJ E (iZ z).toInt64 ∧ ∀ j : Nat, j ≠ 96 → u j = u0 j) ∨ (z9 = 1 ∧ px "java/lang/IndexOutOfBoundsException" u)) := by
  refine CW_of (by decide) rfl (Nat.le_of_ble_eq_true rfl) ?_
  intro p e s m args below meth c Q ls G hH hl hQ
  obtain ⟨hx, hb, hml, hown, hts, hK, hST, hlocks, hr, htab⟩ := G
  have hOK := hSF.1
  have hown : s.vm.findClass RL = some m.cls := hown
  have hl : lv_has ls 5 [(0, .ref (xad E 0)), (1, .int (iZ p0)), (2, .int (iZ p1)), (3, .ref (xad E 96))] := hl
  subst hQ
  refine lv_aload_n hx hb dL_openings_0 rfl (lv_at hl 3 rfl) ?_
  refine x_iconst (n := 0) hx hb dL_openings_1 ?_
  refine lv_aload_n hx hb dL_openings_2 rfl (lv_at hl 0 rfl) ?_
  refine lv_iload_n hx hb dL_openings_3 rfl (lv_at hl 1 rfl) ?_
  refine lv_iload_n hx hb dL_openings_4 rfl (lv_at hl 2 rfl) ?_
  refine x_cXVI (As := [.int (iZ p0), .int (iZ p1)]) (rest := [.int (iZ 0), .ref (xad E 96)]) hx hb hml hts hown hK hST hOK hH 0 hM (cwV 2 hts gL_openings_X6_openings rfl rfl rfl (by decide +kernel) ⟨Nat.le_of_ble_eq_true rfl, Nat.le_of_ble_eq_true rfl⟩) (by decide) h0 rfl rfl hl.1 rfl (Nat.le_of_ble_eq_true rfl) dL_openings_5 ⟨Nat.le_of_ble_eq_true rfl, Nat.le_of_ble_eq_true rfl⟩ ?_ (fun z u H locs hp hH => ?_)
  · intro n ce q9 u H locs hp hH hce hcv hcl
    have e9 := hpx n u hp
    subst e9
    refine x_catch hown hts hSX hST [] (0, 10, 13, 13) [] htab (by decide +kernel) (fun _ h => absurd h List.not_mem_nil) rfl (by decide) (List.mem_of_getElem? (i := 1) rfl) hce hcv hcl ?_
    refine lv_astore (lv' := (4, .ref q9) :: [(0, .ref (xad E 0)), (1, .int (iZ p0)), (2, .int (iZ p1)), (3, .ref (xad E 96))]) hx hb dL_openings_13 hl (by decide) rfl (fun ls hl => ?_)
    refine x_iconst hx hb dL_openings_15 ?_
    exact x_iret hx hb hr hlocks hH (Nat.le_of_ble_eq_true rfl) (Nat.le_of_ble_eq_true rfl) (Or.inr (⟨rfl, hp⟩)) dL_openings_16
  · obtain ⟨f, h96⟩ := hP96 z u hp
    refine lv_i2l (v := (iZ z).toInt64) hx hb dL_openings_8 rfl ?_
    refine x_last hx hb hK hH h96 dL_openings_9 (fun u1 H locs e96 fr hH => ?_)
    refine lv_goto (tgt := 17) hx hb dL_openings_10 (by decide) ?_
    refine x_iconst hx hb dL_openings_17 ?_
    exact x_iret hx hb hr hlocks hH (Nat.le_of_ble_eq_true rfl) (Nat.le_of_ble_eq_true rfl) (Or.inl ⟨rfl, z, u, hp, e96, fr⟩) dL_openings_18
def rm_L_isPinned : Room := { frames := 8, cells := 1, slots := 6, locals := 133 }
set_option maxRecDepth 100000 in
set_option maxHeartbeats 4000000 in
theorem c_L_isPinned (l : Launch) (E : xE) (ST : xST) (hSF : SF ST) (hSX : SX ST) (σ : xW) (p0 p1 : Int) {P : Int → xW → Prop} {px : String → xW → Prop} (hM : XI l E ST yX6_isPinned wsX6_isPinned rm_X6_isPinned [.ref (xad E 0), .int (iZ p0), .int (iZ p1)] σ P px) {fs : List Value} (h0 : σ 0 = oB 4 fs) (hP96 : ∀ (z : Int) (u : xW), P z u → ∃ f : Nat → Int64, u 96 = .inl (xJ E, 1, .inr (.inl f))) (hPb : ∀ (z : Int) (u : xW), P z u → ∃ b : Bool, z = b2 b) (hpx : ∀ (n : String) (u : xW), px n u → n = "java/lang/IndexOutOfBoundsException") : CI l E ST yL_isPinned wsL_isPinned rm_L_isPinned [.ref (xad E 0), .int (iZ p0), .int (iZ p1), .ref (xad E 96)] σ (fun (z9 : Int) (u : xW) => (z9 = 0 ∧ ∃ (z : Int) (u0 : xW), P z u0 ∧ u 96 = oJ E (iZ z).toInt64 ∧ ∀ j : Nat, j ≠ 96 → u j = u0 j) ∨ (z9 = 1 ∧ px "java/lang/IndexOutOfBoundsException" u)) := by
  refine CW_of (by decide) rfl (Nat.le_of_ble_eq_true rfl) ?_
  intro p e s m args below meth c Q ls G hH hl hQ
  obtain ⟨hx, hb, hml, hown, hts, hK, hST, hlocks, hr, htab⟩ := G
  have hOK := hSF.1
  have hown : s.vm.findClass RL = some m.cls := hown
  have hl : lv_has ls 5 [(0, .ref (xad E 0)), (1, .int (iZ p0)), (2, .int (iZ p1)), (3, .ref (xad E 96))] := hl
  subst hQ
  refine lv_aload_n hx hb dL_isPinned_0 rfl (lv_at hl 3 rfl) ?_
  refine x_iconst (n := 0) hx hb dL_isPinned_1 ?_
  refine lv_aload_n hx hb dL_isPinned_2 rfl (lv_at hl 0 rfl) ?_
  refine lv_iload_n hx hb dL_isPinned_3 rfl (lv_at hl 1 rfl) ?_
  refine lv_iload_n hx hb dL_isPinned_4 rfl (lv_at hl 2 rfl) ?_
  refine x_cXVI (As := [.int (iZ p0), .int (iZ p1)]) (rest := [.int (iZ 0), .ref (xad E 96)]) hx hb hml hts hown hK hST hOK hH 0 hM (cwV 2 hts gL_isPinned_X6_isPinned rfl rfl rfl (by decide +kernel) ⟨Nat.le_of_ble_eq_true rfl, Nat.le_of_ble_eq_true rfl⟩) (by decide) h0 rfl rfl hl.1 rfl (Nat.le_of_ble_eq_true rfl) dL_isPinned_5 ⟨Nat.le_of_ble_eq_true rfl, Nat.le_of_ble_eq_true rfl⟩ ?_ (fun z u H locs hp hH => ?_)
  · intro n ce q9 u H locs hp hH hce hcv hcl
    have e9 := hpx n u hp
    subst e9
    refine x_catch hown hts hSX hST [] (0, 17, 20, 13) [] htab (by decide +kernel) (fun _ h => absurd h List.not_mem_nil) rfl (by decide) (List.mem_of_getElem? (i := 1) rfl) hce hcv hcl ?_
    refine lv_astore (lv' := (4, .ref q9) :: [(0, .ref (xad E 0)), (1, .int (iZ p0)), (2, .int (iZ p1)), (3, .ref (xad E 96))]) hx hb dL_isPinned_20 hl (by decide) rfl (fun ls hl => ?_)
    refine x_iconst hx hb dL_isPinned_22 ?_
    exact x_iret hx hb hr hlocks hH (Nat.le_of_ble_eq_true rfl) (Nat.le_of_ble_eq_true rfl) (Or.inr (⟨rfl, hp⟩)) dL_isPinned_23
  · obtain ⟨f, h96⟩ := hP96 z u hp
    obtain ⟨b, rfl⟩ := hPb z u hp
    refine x_ifb_eq (tgt := 15) hx hb dL_isPinned_8 (by decide) (fun c9 => ?_) (fun c9 => ?_)
    · subst c9
      refine lv_lconst (v := (iZ (b2 false)).toInt64) hx hb dL_isPinned_15 (by decide +kernel) ?_
      refine x_last hx hb hK hH h96 dL_isPinned_16 (fun u1 H locs e96 fr hH => ?_)
      refine lv_goto (tgt := 24) hx hb dL_isPinned_17 (by decide) ?_
      refine x_iconst hx hb dL_isPinned_24 ?_
      exact x_iret hx hb hr hlocks hH (Nat.le_of_ble_eq_true rfl) (Nat.le_of_ble_eq_true rfl) (Or.inl ⟨rfl, _, u, hp, e96, fr⟩) dL_isPinned_25
    · subst c9
      refine lv_lconst (v := (iZ (b2 true)).toInt64) hx hb dL_isPinned_11 (by decide +kernel) ?_
      refine lv_goto (tgt := 16) hx hb dL_isPinned_12 (by decide) ?_
      refine x_last hx hb hK hH h96 dL_isPinned_16 (fun u1 H locs e96 fr hH => ?_)
      refine lv_goto (tgt := 24) hx hb dL_isPinned_17 (by decide) ?_
      refine x_iconst hx hb dL_isPinned_24 ?_
      exact x_iret hx hb hr hlocks hH (Nat.le_of_ble_eq_true rfl) (Nat.le_of_ble_eq_true rfl) (Or.inl ⟨rfl, _, u, hp, e96, fr⟩) dL_isPinned_25
def rm_L_canShiftRow : Room := { frames := 8, cells := 1, slots := 6, locals := 131 }
set_option maxRecDepth 100000 in
set_option maxHeartbeats 4000000 in
theorem c_L_canShiftRow (l : Launch) (E : xE) (ST : xST) (hSF : SF ST) (hSX : SX ST) (σ : xW) (p0 : Int) {P : Int → xW → Prop} {px : String → xW → Prop} (hM : XI l E ST yX6_canShiftRow wsX6_canShiftRow rm_X6_canShiftRow [.ref (xad E 0), .int (iZ p0)] σ P px) {fs : List Value} (h0 : σ 0 = oB 4 fs) (hP96 : ∀ (z : Int) (u : xW), P z u → ∃ f : Nat → Int64, u 96 = .inl (xJ E, 1, .inr (.inl f))) (hPb : ∀ (z : Int) (u : xW), P z u → ∃ b : Bool, z = b2 b) (hpx : ∀ (n : String) (u : xW), px n u → n = "java/lang/IndexOutOfBoundsException") : CI l E ST yL_canShiftRow wsL_canShiftRow rm_L_canShiftRow [.ref (xad E 0), .int (iZ p0), .ref (xad E 96)] σ (fun (z9 : Int) (u : xW) => (z9 = 0 ∧ ∃ (z : Int) (u0 : xW), P z u0 ∧ u 96 = oJ E (iZ z).toInt64 ∧ ∀ j : Nat, j ≠ 96 → u j = u0 j) ∨ (z9 = 1 ∧ px "java/lang/IndexOutOfBoundsException" u)) := by
  refine CW_of (by decide) rfl (Nat.le_of_ble_eq_true rfl) ?_
  intro p e s m args below meth c Q ls G hH hl hQ
  obtain ⟨hx, hb, hml, hown, hts, hK, hST, hlocks, hr, htab⟩ := G
  have hOK := hSF.1
  have hown : s.vm.findClass RL = some m.cls := hown
  have hl : lv_has ls 4 [(0, .ref (xad E 0)), (1, .int (iZ p0)), (2, .ref (xad E 96))] := hl
  subst hQ
  refine lv_aload_n hx hb dL_canShiftRow_0 rfl (lv_at hl 2 rfl) ?_
  refine x_iconst (n := 0) hx hb dL_canShiftRow_1 ?_
  refine lv_aload_n hx hb dL_canShiftRow_2 rfl (lv_at hl 0 rfl) ?_
  refine lv_iload_n hx hb dL_canShiftRow_3 rfl (lv_at hl 1 rfl) ?_
  refine x_cXVI (As := [.int (iZ p0)]) (rest := [.int (iZ 0), .ref (xad E 96)]) hx hb hml hts hown hK hST hOK hH 0 hM (cwV 1 hts gL_canShiftRow_X6_canShiftRow rfl rfl rfl (by decide +kernel) ⟨Nat.le_of_ble_eq_true rfl, Nat.le_of_ble_eq_true rfl⟩) (by decide) h0 rfl rfl hl.1 rfl (Nat.le_of_ble_eq_true rfl) dL_canShiftRow_4 ⟨Nat.le_of_ble_eq_true rfl, Nat.le_of_ble_eq_true rfl⟩ ?_ (fun z u H locs hp hH => ?_)
  · intro n ce q9 u H locs hp hH hce hcv hcl
    have e9 := hpx n u hp
    subst e9
    refine x_catch hown hts hSX hST [] (0, 16, 19, 13) [] htab (by decide +kernel) (fun _ h => absurd h List.not_mem_nil) rfl (by decide) (List.mem_of_getElem? (i := 1) rfl) hce hcv hcl ?_
    refine lv_astore_n (lv' := (3, .ref q9) :: [(0, .ref (xad E 0)), (1, .int (iZ p0)), (2, .ref (xad E 96))]) hx hb dL_canShiftRow_19 rfl hl (by decide) rfl (fun ls hl => ?_)
    refine x_iconst hx hb dL_canShiftRow_20 ?_
    exact x_iret hx hb hr hlocks hH (Nat.le_of_ble_eq_true rfl) (Nat.le_of_ble_eq_true rfl) (Or.inr (⟨rfl, hp⟩)) dL_canShiftRow_21
  · obtain ⟨f, h96⟩ := hP96 z u hp
    obtain ⟨b, rfl⟩ := hPb z u hp
    refine x_ifb_eq (tgt := 14) hx hb dL_canShiftRow_7 (by decide) (fun c9 => ?_) (fun c9 => ?_)
    · subst c9
      refine lv_lconst (v := (iZ (b2 false)).toInt64) hx hb dL_canShiftRow_14 (by decide +kernel) ?_
      refine x_last hx hb hK hH h96 dL_canShiftRow_15 (fun u1 H locs e96 fr hH => ?_)
      refine lv_goto (tgt := 22) hx hb dL_canShiftRow_16 (by decide) ?_
      refine x_iconst hx hb dL_canShiftRow_22 ?_
      exact x_iret hx hb hr hlocks hH (Nat.le_of_ble_eq_true rfl) (Nat.le_of_ble_eq_true rfl) (Or.inl ⟨rfl, _, u, hp, e96, fr⟩) dL_canShiftRow_23
    · subst c9
      refine lv_lconst (v := (iZ (b2 true)).toInt64) hx hb dL_canShiftRow_10 (by decide +kernel) ?_
      refine lv_goto (tgt := 15) hx hb dL_canShiftRow_11 (by decide) ?_
      refine x_last hx hb hK hH h96 dL_canShiftRow_15 (fun u1 H locs e96 fr hH => ?_)
      refine lv_goto (tgt := 22) hx hb dL_canShiftRow_16 (by decide) ?_
      refine x_iconst hx hb dL_canShiftRow_22 ?_
      exact x_iret hx hb hr hlocks hH (Nat.le_of_ble_eq_true rfl) (Nat.le_of_ble_eq_true rfl) (Or.inl ⟨rfl, _, u, hp, e96, fr⟩) dL_canShiftRow_23
def rm_L_canShiftColumn : Room := { frames := 8, cells := 1, slots := 6, locals := 131 }
set_option maxRecDepth 100000 in
set_option maxHeartbeats 4000000 in
theorem c_L_canShiftColumn (l : Launch) (E : xE) (ST : xST) (hSF : SF ST) (hSX : SX ST) (σ : xW) (p0 : Int) {P : Int → xW → Prop} {px : String → xW → Prop} (hM : XI l E ST yX6_canShiftColumn wsX6_canShiftColumn rm_X6_canShiftColumn [.ref (xad E 0), .int (iZ p0)] σ P px) {fs : List Value} (h0 : σ 0 = oB 4 fs) (hP96 : ∀ (z : Int) (u : xW), P z u → ∃ f : Nat → Int64, u 96 = .inl (xJ E, 1, .inr (.inl f))) (hPb : ∀ (z : Int) (u : xW), P z u → ∃ b : Bool, z = b2 b) (hpx : ∀ (n : String) (u : xW), px n u → n = "java/lang/IndexOutOfBoundsException") : CI l E ST yL_canShiftColumn wsL_canShiftColumn rm_L_canShiftColumn [.ref (xad E 0), .int (iZ p0), .ref (xad E 96)] σ (fun (z9 : Int) (u : xW) => (z9 = 0 ∧ ∃ (z : Int) (u0 : xW), P z u0 ∧ u 96 = oJ E (iZ z).toInt64 ∧ ∀ j : Nat, j ≠ 96 → u j = u0 j) ∨ (z9 = 1 ∧ px "java/lang/IndexOutOfBoundsException" u)) := by
  refine CW_of (by decide) rfl (Nat.le_of_ble_eq_true rfl) ?_
  intro p e s m args below meth c Q ls G hH hl hQ
  obtain ⟨hx, hb, hml, hown, hts, hK, hST, hlocks, hr, htab⟩ := G
  have hOK := hSF.1
  have hown : s.vm.findClass RL = some m.cls := hown
  have hl : lv_has ls 4 [(0, .ref (xad E 0)), (1, .int (iZ p0)), (2, .ref (xad E 96))] := hl
  subst hQ
  refine lv_aload_n hx hb dL_canShiftColumn_0 rfl (lv_at hl 2 rfl) ?_
  refine x_iconst (n := 0) hx hb dL_canShiftColumn_1 ?_
  refine lv_aload_n hx hb dL_canShiftColumn_2 rfl (lv_at hl 0 rfl) ?_
  refine lv_iload_n hx hb dL_canShiftColumn_3 rfl (lv_at hl 1 rfl) ?_
  refine x_cXVI (As := [.int (iZ p0)]) (rest := [.int (iZ 0), .ref (xad E 96)]) hx hb hml hts hown hK hST hOK hH 0 hM (cwV 1 hts gL_canShiftColumn_X6_canShiftColumn rfl rfl rfl (by decide +kernel) ⟨Nat.le_of_ble_eq_true rfl, Nat.le_of_ble_eq_true rfl⟩) (by decide) h0 rfl rfl hl.1 rfl (Nat.le_of_ble_eq_true rfl) dL_canShiftColumn_4 ⟨Nat.le_of_ble_eq_true rfl, Nat.le_of_ble_eq_true rfl⟩ ?_ (fun z u H locs hp hH => ?_)
  · intro n ce q9 u H locs hp hH hce hcv hcl
    have e9 := hpx n u hp
    subst e9
    refine x_catch hown hts hSX hST [] (0, 16, 19, 13) [] htab (by decide +kernel) (fun _ h => absurd h List.not_mem_nil) rfl (by decide) (List.mem_of_getElem? (i := 1) rfl) hce hcv hcl ?_
    refine lv_astore_n (lv' := (3, .ref q9) :: [(0, .ref (xad E 0)), (1, .int (iZ p0)), (2, .ref (xad E 96))]) hx hb dL_canShiftColumn_19 rfl hl (by decide) rfl (fun ls hl => ?_)
    refine x_iconst hx hb dL_canShiftColumn_20 ?_
    exact x_iret hx hb hr hlocks hH (Nat.le_of_ble_eq_true rfl) (Nat.le_of_ble_eq_true rfl) (Or.inr (⟨rfl, hp⟩)) dL_canShiftColumn_21
  · obtain ⟨f, h96⟩ := hP96 z u hp
    obtain ⟨b, rfl⟩ := hPb z u hp
    refine x_ifb_eq (tgt := 14) hx hb dL_canShiftColumn_7 (by decide) (fun c9 => ?_) (fun c9 => ?_)
    · subst c9
      refine lv_lconst (v := (iZ (b2 false)).toInt64) hx hb dL_canShiftColumn_14 (by decide +kernel) ?_
      refine x_last hx hb hK hH h96 dL_canShiftColumn_15 (fun u1 H locs e96 fr hH => ?_)
      refine lv_goto (tgt := 22) hx hb dL_canShiftColumn_16 (by decide) ?_
      refine x_iconst hx hb dL_canShiftColumn_22 ?_
      exact x_iret hx hb hr hlocks hH (Nat.le_of_ble_eq_true rfl) (Nat.le_of_ble_eq_true rfl) (Or.inl ⟨rfl, _, u, hp, e96, fr⟩) dL_canShiftColumn_23
    · subst c9
      refine lv_lconst (v := (iZ (b2 true)).toInt64) hx hb dL_canShiftColumn_10 (by decide +kernel) ?_
      refine lv_goto (tgt := 15) hx hb dL_canShiftColumn_11 (by decide) ?_
      refine x_last hx hb hK hH h96 dL_canShiftColumn_15 (fun u1 H locs e96 fr hH => ?_)
      refine lv_goto (tgt := 22) hx hb dL_canShiftColumn_16 (by decide) ?_
      refine x_iconst hx hb dL_canShiftColumn_22 ?_
      exact x_iret hx hb hr hlocks hH (Nat.le_of_ble_eq_true rfl) (Nat.le_of_ble_eq_true rfl) (Or.inl ⟨rfl, _, u, hp, e96, fr⟩) dL_canShiftColumn_23
def rm_L_hasLock : Room := { frames := 8, cells := 1, slots := 6, locals := 133 }
set_option maxRecDepth 100000 in
set_option maxHeartbeats 4000000 in
theorem c_L_hasLock (l : Launch) (E : xE) (ST : xST) (hSF : SF ST) (hSX : SX ST) (σ : xW) (p0 p1 : Int) {P : Int → xW → Prop} {px : String → xW → Prop} (hM : XI l E ST yX6_hasLock wsX6_hasLock rm_X6_hasLock [.ref (xad E 0), .int (iZ p0), .int (iZ p1)] σ P px) {fs : List Value} (h0 : σ 0 = oB 4 fs) (hP96 : ∀ (z : Int) (u : xW), P z u → ∃ f : Nat → Int64, u 96 = .inl (xJ E, 1, .inr (.inl f))) (hPb : ∀ (z : Int) (u : xW), P z u → ∃ b : Bool, z = b2 b) (hpx : ∀ (n : String) (u : xW), px n u → n = "java/lang/IndexOutOfBoundsException") : CI l E ST yL_hasLock wsL_hasLock rm_L_hasLock [.ref (xad E 0), .int (iZ p0), .int (iZ p1), .ref (xad E 96)] σ (fun (z9 : Int) (u : xW) => (z9 = 0 ∧ ∃ (z : Int) (u0 : xW), P z u0 ∧ u 96 = oJ E (iZ z).toInt64 ∧ ∀ j : Nat, j ≠ 96 → u j = u0 j) ∨ (z9 = 1 ∧ px "java/lang/IndexOutOfBoundsException" u)) := by
  refine CW_of (by decide) rfl (Nat.le_of_ble_eq_true rfl) ?_
  intro p e s m args below meth c Q ls G hH hl hQ
  obtain ⟨hx, hb, hml, hown, hts, hK, hST, hlocks, hr, htab⟩ := G
  have hOK := hSF.1
  have hown : s.vm.findClass RL = some m.cls := hown
  have hl : lv_has ls 5 [(0, .ref (xad E 0)), (1, .int (iZ p0)), (2, .int (iZ p1)), (3, .ref (xad E 96))] := hl
  subst hQ
  refine lv_aload_n hx hb dL_hasLock_0 rfl (lv_at hl 3 rfl) ?_
  refine x_iconst (n := 0) hx hb dL_hasLock_1 ?_
  refine lv_aload_n hx hb dL_hasLock_2 rfl (lv_at hl 0 rfl) ?_
  refine lv_iload_n hx hb dL_hasLock_3 rfl (lv_at hl 1 rfl) ?_
  refine lv_iload_n hx hb dL_hasLock_4 rfl (lv_at hl 2 rfl) ?_
  refine x_cXVI (As := [.int (iZ p0), .int (iZ p1)]) (rest := [.int (iZ 0), .ref (xad E 96)]) hx hb hml hts hown hK hST hOK hH 0 hM (cwV 2 hts gL_hasLock_X6_hasLock rfl rfl rfl (by decide +kernel) ⟨Nat.le_of_ble_eq_true rfl, Nat.le_of_ble_eq_true rfl⟩) (by decide) h0 rfl rfl hl.1 rfl (Nat.le_of_ble_eq_true rfl) dL_hasLock_5 ⟨Nat.le_of_ble_eq_true rfl, Nat.le_of_ble_eq_true rfl⟩ ?_ (fun z u H locs hp hH => ?_)
  · intro n ce q9 u H locs hp hH hce hcv hcl
    have e9 := hpx n u hp
    subst e9
    refine x_catch hown hts hSX hST [] (0, 17, 20, 13) [] htab (by decide +kernel) (fun _ h => absurd h List.not_mem_nil) rfl (by decide) (List.mem_of_getElem? (i := 1) rfl) hce hcv hcl ?_
    refine lv_astore (lv' := (4, .ref q9) :: [(0, .ref (xad E 0)), (1, .int (iZ p0)), (2, .int (iZ p1)), (3, .ref (xad E 96))]) hx hb dL_hasLock_20 hl (by decide) rfl (fun ls hl => ?_)
    refine x_iconst hx hb dL_hasLock_22 ?_
    exact x_iret hx hb hr hlocks hH (Nat.le_of_ble_eq_true rfl) (Nat.le_of_ble_eq_true rfl) (Or.inr (⟨rfl, hp⟩)) dL_hasLock_23
  · obtain ⟨f, h96⟩ := hP96 z u hp
    obtain ⟨b, rfl⟩ := hPb z u hp
    refine x_ifb_eq (tgt := 15) hx hb dL_hasLock_8 (by decide) (fun c9 => ?_) (fun c9 => ?_)
    · subst c9
      refine lv_lconst (v := (iZ (b2 false)).toInt64) hx hb dL_hasLock_15 (by decide +kernel) ?_
      refine x_last hx hb hK hH h96 dL_hasLock_16 (fun u1 H locs e96 fr hH => ?_)
      refine lv_goto (tgt := 24) hx hb dL_hasLock_17 (by decide) ?_
      refine x_iconst hx hb dL_hasLock_24 ?_
      exact x_iret hx hb hr hlocks hH (Nat.le_of_ble_eq_true rfl) (Nat.le_of_ble_eq_true rfl) (Or.inl ⟨rfl, _, u, hp, e96, fr⟩) dL_hasLock_25
    · subst c9
      refine lv_lconst (v := (iZ (b2 true)).toInt64) hx hb dL_hasLock_11 (by decide +kernel) ?_
      refine lv_goto (tgt := 16) hx hb dL_hasLock_12 (by decide) ?_
      refine x_last hx hb hK hH h96 dL_hasLock_16 (fun u1 H locs e96 fr hH => ?_)
      refine lv_goto (tgt := 24) hx hb dL_hasLock_17 (by decide) ?_
      refine x_iconst hx hb dL_hasLock_24 ?_
      exact x_iret hx hb hr hlocks hH (Nat.le_of_ble_eq_true rfl) (Nat.le_of_ble_eq_true rfl) (Or.inl ⟨rfl, _, u, hp, e96, fr⟩) dL_hasLock_25
def rm_L_lockAt : Room := { frames := 8, cells := 2, slots := 12, locals := 134 }
set_option maxRecDepth 100000 in
set_option maxHeartbeats 4000000 in
theorem c_L_lockAt (l : Launch) (E : xE) (ST : xST) (hSF : SF ST) (hSX : SX ST) (σ : xW) (p0 p1 : Int) {P : Int → xW → Prop} {px : String → xW → Prop} (hM : XI l E ST yX6_lockAt wsX6_lockAt rm_X6_lockAt [.ref (xad E 0), .int (iZ p0), .int (iZ p1)] σ P px) {fs : List Value} (h0 : σ 0 = oB 4 fs) (hP96 : ∀ (z : Int) (u : xW), P z u → ∃ f : Nat → Int64, u 96 = .inl (xJ E, 1, .inr (.inl f))) (hpx : ∀ (n : String) (u : xW), px n u → n = "java/lang/IndexOutOfBoundsException" ∨ n = "java/util/NoSuchElementException") : CI l E ST yL_lockAt wsL_lockAt rm_L_lockAt [.ref (xad E 0), .int (iZ p0), .int (iZ p1), .ref (xad E 96)] σ (fun (z9 : Int) (u : xW) => (z9 = 0 ∧ ∃ (z : Int) (u0 : xW), P z u0 ∧ u 96 = oJ E (iZ z).toInt64 ∧ ∀ j : Nat, j ≠ 96 → u j = u0 j) ∨ (z9 = 1 ∧ px "java/lang/IndexOutOfBoundsException" u) ∨ (z9 = 2 ∧ px "java/util/NoSuchElementException" u)) := by
  refine CW_of (by decide) rfl (Nat.le_of_ble_eq_true rfl) ?_
  intro p e s m args below meth c Q ls G hH hl hQ
  obtain ⟨hx, hb, hml, hown, hts, hK, hST, hlocks, hr, htab⟩ := G
  have hOK := hSF.1
  have hown : s.vm.findClass RL = some m.cls := hown
  have hl : lv_has ls 5 [(0, .ref (xad E 0)), (1, .int (iZ p0)), (2, .int (iZ p1)), (3, .ref (xad E 96))] := hl
  subst hQ
  refine lv_aload_n hx hb dL_lockAt_0 rfl (lv_at hl 3 rfl) ?_
  refine x_iconst (n := 0) hx hb dL_lockAt_1 ?_
  refine lv_aload_n hx hb dL_lockAt_2 rfl (lv_at hl 0 rfl) ?_
  refine lv_iload_n hx hb dL_lockAt_3 rfl (lv_at hl 1 rfl) ?_
  refine lv_iload_n hx hb dL_lockAt_4 rfl (lv_at hl 2 rfl) ?_
  refine x_cXVI (As := [.int (iZ p0), .int (iZ p1)]) (rest := [.int (iZ 0), .ref (xad E 96)]) hx hb hml hts hown hK hST hOK hH 0 hM (cwV 2 hts gL_lockAt_X6_lockAt rfl rfl rfl (by decide +kernel) ⟨Nat.le_of_ble_eq_true rfl, Nat.le_of_ble_eq_true rfl⟩) (by decide) h0 rfl rfl hl.1 rfl (Nat.le_of_ble_eq_true rfl) dL_lockAt_5 ⟨Nat.le_of_ble_eq_true rfl, Nat.le_of_ble_eq_true rfl⟩ ?_ (fun z u H locs hp hH => ?_)
  · intro n ce q9 u H locs hp hH hce hcv hcl
    rcases hpx n u hp with rfl | rfl
    · refine x_catch hown hts hSX hST [] (0, 10, 13, 13) [(0, 10, 17, 47)] htab (by decide +kernel) (fun _ h => absurd h List.not_mem_nil) rfl (by decide) (List.mem_of_getElem? (i := 1) rfl) hce hcv hcl ?_
      refine lv_astore (lv' := (4, .ref q9) :: [(0, .ref (xad E 0)), (1, .int (iZ p0)), (2, .int (iZ p1)), (3, .ref (xad E 96))]) hx hb dL_lockAt_13 hl (by decide) rfl (fun ls hl => ?_)
      refine x_iconst hx hb dL_lockAt_15 ?_
      exact x_iret hx hb hr hlocks hH (Nat.le_of_ble_eq_true rfl) (Nat.le_of_ble_eq_true rfl) (Or.inr (Or.inl (⟨rfl, hp⟩))) dL_lockAt_16
    · refine x_catch hown hts hSX hST [(0, 10, 13, 13)] (0, 10, 17, 47) [] htab (by decide +kernel) (List.forall_mem_cons.mpr ⟨⟨by decide, "java/lang/IndexOutOfBoundsException", (List.mem_of_getElem? (i := 1) rfl), by decide +kernel, by decide +kernel⟩, (fun _ h => absurd h List.not_mem_nil)⟩) rfl (by decide) (List.mem_of_getElem? (i := 2) rfl) hce hcv hcl ?_
      refine lv_astore (lv' := (4, .ref q9) :: [(0, .ref (xad E 0)), (1, .int (iZ p0)), (2, .int (iZ p1)), (3, .ref (xad E 96))]) hx hb dL_lockAt_17 hl (by decide) rfl (fun ls hl => ?_)
      refine x_iconst hx hb dL_lockAt_19 ?_
      exact x_iret hx hb hr hlocks hH (Nat.le_of_ble_eq_true rfl) (Nat.le_of_ble_eq_true rfl) (Or.inr (Or.inr (⟨rfl, hp⟩))) dL_lockAt_20
  · obtain ⟨f, h96⟩ := hP96 z u hp
    refine lv_i2l (v := (iZ z).toInt64) hx hb dL_lockAt_8 rfl ?_
    refine x_last hx hb hK hH h96 dL_lockAt_9 (fun u1 H locs e96 fr hH => ?_)
    refine lv_goto (tgt := 21) hx hb dL_lockAt_10 (by decide) ?_
    refine x_iconst hx hb dL_lockAt_21 ?_
    exact x_iret hx hb hr hlocks hH (Nat.le_of_ble_eq_true rfl) (Nat.le_of_ble_eq_true rfl) (Or.inl ⟨rfl, z, u, hp, e96, fr⟩) dL_lockAt_22
def rm_L_keysAt : Room := { frames := 8, cells := 1, slots := 6, locals := 133 }
set_option maxRecDepth 100000 in
set_option maxHeartbeats 4000000 in
theorem c_L_keysAt (l : Launch) (E : xE) (ST : xST) (hSF : SF ST) (hSX : SX ST) (σ : xW) (p0 p1 : Int) {P : Int → xW → Prop} {px : String → xW → Prop} (hM : XI l E ST yX6_keysAt wsX6_keysAt rm_X6_keysAt [.ref (xad E 0), .int (iZ p0), .int (iZ p1)] σ P px) {fs : List Value} (h0 : σ 0 = oB 4 fs) (hP96 : ∀ (z : Int) (u : xW), P z u → ∃ f : Nat → Int64, u 96 = .inl (xJ E, 1, .inr (.inl f))) (hpx : ∀ (n : String) (u : xW), px n u → n = "java/lang/IndexOutOfBoundsException") : CI l E ST yL_keysAt wsL_keysAt rm_L_keysAt [.ref (xad E 0), .int (iZ p0), .int (iZ p1), .ref (xad E 96)] σ (fun (z9 : Int) (u : xW) => (z9 = 0 ∧ ∃ (z : Int) (u0 : xW), P z u0 ∧ u 96 = oJ E (iZ z).toInt64 ∧ ∀ j : Nat, j ≠ 96 → u j = u0 j) ∨ (z9 = 1 ∧ px "java/lang/IndexOutOfBoundsException" u)) := by
  refine CW_of (by decide) rfl (Nat.le_of_ble_eq_true rfl) ?_
  intro p e s m args below meth c Q ls G hH hl hQ
  obtain ⟨hx, hb, hml, hown, hts, hK, hST, hlocks, hr, htab⟩ := G
  have hOK := hSF.1
  have hown : s.vm.findClass RL = some m.cls := hown
  have hl : lv_has ls 5 [(0, .ref (xad E 0)), (1, .int (iZ p0)), (2, .int (iZ p1)), (3, .ref (xad E 96))] := hl
  subst hQ
  refine lv_aload_n hx hb dL_keysAt_0 rfl (lv_at hl 3 rfl) ?_
  refine x_iconst (n := 0) hx hb dL_keysAt_1 ?_
  refine lv_aload_n hx hb dL_keysAt_2 rfl (lv_at hl 0 rfl) ?_
  refine lv_iload_n hx hb dL_keysAt_3 rfl (lv_at hl 1 rfl) ?_
  refine lv_iload_n hx hb dL_keysAt_4 rfl (lv_at hl 2 rfl) ?_
  refine x_cXVI (As := [.int (iZ p0), .int (iZ p1)]) (rest := [.int (iZ 0), .ref (xad E 96)]) hx hb hml hts hown hK hST hOK hH 0 hM (cwV 2 hts gL_keysAt_X6_keysAt rfl rfl rfl (by decide +kernel) ⟨Nat.le_of_ble_eq_true rfl, Nat.le_of_ble_eq_true rfl⟩) (by decide) h0 rfl rfl hl.1 rfl (Nat.le_of_ble_eq_true rfl) dL_keysAt_5 ⟨Nat.le_of_ble_eq_true rfl, Nat.le_of_ble_eq_true rfl⟩ ?_ (fun z u H locs hp hH => ?_)
  · intro n ce q9 u H locs hp hH hce hcv hcl
    have e9 := hpx n u hp
    subst e9
    refine x_catch hown hts hSX hST [] (0, 10, 13, 13) [] htab (by decide +kernel) (fun _ h => absurd h List.not_mem_nil) rfl (by decide) (List.mem_of_getElem? (i := 1) rfl) hce hcv hcl ?_
    refine lv_astore (lv' := (4, .ref q9) :: [(0, .ref (xad E 0)), (1, .int (iZ p0)), (2, .int (iZ p1)), (3, .ref (xad E 96))]) hx hb dL_keysAt_13 hl (by decide) rfl (fun ls hl => ?_)
    refine x_iconst hx hb dL_keysAt_15 ?_
    exact x_iret hx hb hr hlocks hH (Nat.le_of_ble_eq_true rfl) (Nat.le_of_ble_eq_true rfl) (Or.inr (⟨rfl, hp⟩)) dL_keysAt_16
  · obtain ⟨f, h96⟩ := hP96 z u hp
    refine lv_i2l (v := (iZ z).toInt64) hx hb dL_keysAt_8 rfl ?_
    refine x_last hx hb hK hH h96 dL_keysAt_9 (fun u1 H locs e96 fr hH => ?_)
    refine lv_goto (tgt := 17) hx hb dL_keysAt_10 (by decide) ?_
    refine x_iconst hx hb dL_keysAt_17 ?_
    exact x_iret hx hb hr hlocks hH (Nat.le_of_ble_eq_true rfl) (Nat.le_of_ble_eq_true rfl) (Or.inl ⟨rfl, z, u, hp, e96, fr⟩) dL_keysAt_18
def rm_L_isConnected : Room := { frames := 8, cells := 2, slots := 12, locals := 135 }
set_option maxRecDepth 100000 in
set_option maxHeartbeats 4000000 in
theorem c_L_isConnected (l : Launch) (E : xE) (ST : xST) (hSF : SF ST) (hSX : SX ST) (σ : xW) (p0 p1 p2 : Int) {P : Int → xW → Prop} {px : String → xW → Prop} (hM : XI l E ST yX6_isConnected wsX6_isConnected rm_X6_isConnected [.ref (xad E 0), .int (iZ p0), .int (iZ p1), .int (iZ p2)] σ P px) {fs : List Value} (h0 : σ 0 = oB 4 fs) (hP96 : ∀ (z : Int) (u : xW), P z u → ∃ f : Nat → Int64, u 96 = .inl (xJ E, 1, .inr (.inl f))) (hPb : ∀ (z : Int) (u : xW), P z u → ∃ b : Bool, z = b2 b) (hpx : ∀ (n : String) (u : xW), px n u → n = "java/lang/IndexOutOfBoundsException" ∨ n = "java/lang/IllegalArgumentException") : CI l E ST yL_isConnected wsL_isConnected rm_L_isConnected [.ref (xad E 0), .int (iZ p0), .int (iZ p1), .int (iZ p2), .ref (xad E 96)] σ (fun (z9 : Int) (u : xW) => (z9 = 0 ∧ ∃ (z : Int) (u0 : xW), P z u0 ∧ u 96 = oJ E (iZ z).toInt64 ∧ ∀ j : Nat, j ≠ 96 → u j = u0 j) ∨ (z9 = 1 ∧ px "java/lang/IndexOutOfBoundsException" u) ∨ (z9 = 2 ∧ px "java/lang/IllegalArgumentException" u)) := by
  refine CW_of (by decide) rfl (Nat.le_of_ble_eq_true rfl) ?_
  intro p e s m args below meth c Q ls G hH hl hQ
  obtain ⟨hx, hb, hml, hown, hts, hK, hST, hlocks, hr, htab⟩ := G
  have hOK := hSF.1
  have hown : s.vm.findClass RL = some m.cls := hown
  have hl : lv_has ls 6 [(0, .ref (xad E 0)), (1, .int (iZ p0)), (2, .int (iZ p1)), (3, .int (iZ p2)), (4, .ref (xad E 96))] := hl
  subst hQ
  refine lv_aload hx hb dL_isConnected_0 (lv_at hl 4 rfl) ?_
  refine x_iconst (n := 0) hx hb dL_isConnected_2 ?_
  refine lv_aload_n hx hb dL_isConnected_3 rfl (lv_at hl 0 rfl) ?_
  refine lv_iload_n hx hb dL_isConnected_4 rfl (lv_at hl 1 rfl) ?_
  refine lv_iload_n hx hb dL_isConnected_5 rfl (lv_at hl 2 rfl) ?_
  refine lv_iload_n hx hb dL_isConnected_6 rfl (lv_at hl 3 rfl) ?_
  refine x_cXVI (As := [.int (iZ p0), .int (iZ p1), .int (iZ p2)]) (rest := [.int (iZ 0), .ref (xad E 96)]) hx hb hml hts hown hK hST hOK hH 0 hM (cwV 3 hts gL_isConnected_X6_isConnected rfl rfl rfl (by decide +kernel) ⟨Nat.le_of_ble_eq_true rfl, Nat.le_of_ble_eq_true rfl⟩) (by decide) h0 rfl rfl hl.1 rfl (Nat.le_of_ble_eq_true rfl) dL_isConnected_7 ⟨Nat.le_of_ble_eq_true rfl, Nat.le_of_ble_eq_true rfl⟩ ?_ (fun z u H locs hp hH => ?_)
  · intro n ce q9 u H locs hp hH hce hcv hcl
    rcases hpx n u hp with rfl | rfl
    · refine x_catch hown hts hSX hST [] (0, 19, 22, 13) [(0, 19, 26, 15)] htab (by decide +kernel) (fun _ h => absurd h List.not_mem_nil) rfl (by decide) (List.mem_of_getElem? (i := 1) rfl) hce hcv hcl ?_
      refine lv_astore (lv' := (5, .ref q9) :: [(0, .ref (xad E 0)), (1, .int (iZ p0)), (2, .int (iZ p1)), (3, .int (iZ p2)), (4, .ref (xad E 96))]) hx hb dL_isConnected_22 hl (by decide) rfl (fun ls hl => ?_)
      refine x_iconst hx hb dL_isConnected_24 ?_
      exact x_iret hx hb hr hlocks hH (Nat.le_of_ble_eq_true rfl) (Nat.le_of_ble_eq_true rfl) (Or.inr (Or.inl (⟨rfl, hp⟩))) dL_isConnected_25
    · refine x_catch hown hts hSX hST [(0, 19, 22, 13)] (0, 19, 26, 15) [] htab (by decide +kernel) (List.forall_mem_cons.mpr ⟨⟨by decide, "java/lang/IndexOutOfBoundsException", (List.mem_of_getElem? (i := 1) rfl), by decide +kernel, by decide +kernel⟩, (fun _ h => absurd h List.not_mem_nil)⟩) rfl (by decide) (List.mem_of_getElem? (i := 2) rfl) hce hcv hcl ?_
      refine lv_astore (lv' := (5, .ref q9) :: [(0, .ref (xad E 0)), (1, .int (iZ p0)), (2, .int (iZ p1)), (3, .int (iZ p2)), (4, .ref (xad E 96))]) hx hb dL_isConnected_26 hl (by decide) rfl (fun ls hl => ?_)
      refine x_iconst hx hb dL_isConnected_28 ?_
      exact x_iret hx hb hr hlocks hH (Nat.le_of_ble_eq_true rfl) (Nat.le_of_ble_eq_true rfl) (Or.inr (Or.inr (⟨rfl, hp⟩))) dL_isConnected_29
  · obtain ⟨f, h96⟩ := hP96 z u hp
    obtain ⟨b, rfl⟩ := hPb z u hp
    refine x_ifb_eq (tgt := 17) hx hb dL_isConnected_10 (by decide) (fun c9 => ?_) (fun c9 => ?_)
    · subst c9
      refine lv_lconst (v := (iZ (b2 false)).toInt64) hx hb dL_isConnected_17 (by decide +kernel) ?_
      refine x_last hx hb hK hH h96 dL_isConnected_18 (fun u1 H locs e96 fr hH => ?_)
      refine lv_goto (tgt := 30) hx hb dL_isConnected_19 (by decide) ?_
      refine x_iconst hx hb dL_isConnected_30 ?_
      exact x_iret hx hb hr hlocks hH (Nat.le_of_ble_eq_true rfl) (Nat.le_of_ble_eq_true rfl) (Or.inl ⟨rfl, _, u, hp, e96, fr⟩) dL_isConnected_31
    · subst c9
      refine lv_lconst (v := (iZ (b2 true)).toInt64) hx hb dL_isConnected_13 (by decide +kernel) ?_
      refine lv_goto (tgt := 18) hx hb dL_isConnected_14 (by decide) ?_
      refine x_last hx hb hK hH h96 dL_isConnected_18 (fun u1 H locs e96 fr hH => ?_)
      refine lv_goto (tgt := 30) hx hb dL_isConnected_19 (by decide) ?_
      refine x_iconst hx hb dL_isConnected_30 ?_
      exact x_iret hx hb hr hlocks hH (Nat.le_of_ble_eq_true rfl) (Nat.le_of_ble_eq_true rfl) (Or.inl ⟨rfl, _, u, hp, e96, fr⟩) dL_isConnected_31
def rm_L_keyRow : Room := { frames := 9, cells := 2, slots := 12, locals := 153 }
set_option maxRecDepth 100000 in
set_option maxHeartbeats 4000000 in
theorem c_L_keyRow (l : Launch) (E : xE) (ST : xST) (hSF : SF ST) (hSX : SX ST) (σ : xW) (p0 : Int) {P : Int → xW → Prop} {px : String → xW → Prop} (hM : XI l E ST yX6_keyRow wsX6_keyRow rm_X6_keyRow [.ref (xad E 0), .int (iZ p0)] σ P px) {fs : List Value} (h0 : σ 0 = oB 4 fs) (hP96 : ∀ (z : Int) (u : xW), P z u → ∃ f : Nat → Int64, u 96 = .inl (xJ E, 1, .inr (.inl f))) (hpx : ∀ (n : String) (u : xW), px n u → n = "java/lang/IllegalArgumentException" ∨ n = "java/util/NoSuchElementException") : CI l E ST yL_keyRow wsL_keyRow rm_L_keyRow [.ref (xad E 0), .int (iZ p0), .ref (xad E 96)] σ (fun (z9 : Int) (u : xW) => (z9 = 0 ∧ ∃ (z : Int) (u0 : xW), P z u0 ∧ u 96 = oJ E (iZ z).toInt64 ∧ ∀ j : Nat, j ≠ 96 → u j = u0 j) ∨ (z9 = 1 ∧ px "java/lang/IllegalArgumentException" u) ∨ (z9 = 2 ∧ px "java/util/NoSuchElementException" u)) := by
  refine CW_of (by decide) rfl (Nat.le_of_ble_eq_true rfl) ?_
  intro p e s m args below meth c Q ls G hH hl hQ
  obtain ⟨hx, hb, hml, hown, hts, hK, hST, hlocks, hr, htab⟩ := G
  have hOK := hSF.1
  have hown : s.vm.findClass RL = some m.cls := hown
  have hl : lv_has ls 4 [(0, .ref (xad E 0)), (1, .int (iZ p0)), (2, .ref (xad E 96))] := hl
  subst hQ
  refine lv_aload_n hx hb dL_keyRow_0 rfl (lv_at hl 2 rfl) ?_
  refine x_iconst (n := 0) hx hb dL_keyRow_1 ?_
  refine lv_aload_n hx hb dL_keyRow_2 rfl (lv_at hl 0 rfl) ?_
  refine lv_iload_n hx hb dL_keyRow_3 rfl (lv_at hl 1 rfl) ?_
  refine x_cXVI (As := [.int (iZ p0)]) (rest := [.int (iZ 0), .ref (xad E 96)]) hx hb hml hts hown hK hST hOK hH 0 hM (cwV 1 hts gL_keyRow_X6_keyRow rfl rfl rfl (by decide +kernel) ⟨Nat.le_of_ble_eq_true rfl, Nat.le_of_ble_eq_true rfl⟩) (by decide) h0 rfl rfl hl.1 rfl (Nat.le_of_ble_eq_true rfl) dL_keyRow_4 ⟨Nat.le_of_ble_eq_true rfl, Nat.le_of_ble_eq_true rfl⟩ ?_ (fun z u H locs hp hH => ?_)
  · intro n ce q9 u H locs hp hH hce hcv hcl
    rcases hpx n u hp with rfl | rfl
    · refine x_catch hown hts hSX hST [] (0, 9, 12, 15) [(0, 9, 15, 47)] htab (by decide +kernel) (fun _ h => absurd h List.not_mem_nil) rfl (by decide) (List.mem_of_getElem? (i := 1) rfl) hce hcv hcl ?_
      refine lv_astore_n (lv' := (3, .ref q9) :: [(0, .ref (xad E 0)), (1, .int (iZ p0)), (2, .ref (xad E 96))]) hx hb dL_keyRow_12 rfl hl (by decide) rfl (fun ls hl => ?_)
      refine x_iconst hx hb dL_keyRow_13 ?_
      exact x_iret hx hb hr hlocks hH (Nat.le_of_ble_eq_true rfl) (Nat.le_of_ble_eq_true rfl) (Or.inr (Or.inl (⟨rfl, hp⟩))) dL_keyRow_14
    · refine x_catch hown hts hSX hST [(0, 9, 12, 15)] (0, 9, 15, 47) [] htab (by decide +kernel) (List.forall_mem_cons.mpr ⟨⟨by decide, "java/lang/IllegalArgumentException", (List.mem_of_getElem? (i := 1) rfl), by decide +kernel, by decide +kernel⟩, (fun _ h => absurd h List.not_mem_nil)⟩) rfl (by decide) (List.mem_of_getElem? (i := 2) rfl) hce hcv hcl ?_
      refine lv_astore_n (lv' := (3, .ref q9) :: [(0, .ref (xad E 0)), (1, .int (iZ p0)), (2, .ref (xad E 96))]) hx hb dL_keyRow_15 rfl hl (by decide) rfl (fun ls hl => ?_)
      refine x_iconst hx hb dL_keyRow_16 ?_
      exact x_iret hx hb hr hlocks hH (Nat.le_of_ble_eq_true rfl) (Nat.le_of_ble_eq_true rfl) (Or.inr (Or.inr (⟨rfl, hp⟩))) dL_keyRow_17
  · obtain ⟨f, h96⟩ := hP96 z u hp
    refine lv_i2l (v := (iZ z).toInt64) hx hb dL_keyRow_7 rfl ?_
    refine x_last hx hb hK hH h96 dL_keyRow_8 (fun u1 H locs e96 fr hH => ?_)
    refine lv_goto (tgt := 18) hx hb dL_keyRow_9 (by decide) ?_
    refine x_iconst hx hb dL_keyRow_18 ?_
    exact x_iret hx hb hr hlocks hH (Nat.le_of_ble_eq_true rfl) (Nat.le_of_ble_eq_true rfl) (Or.inl ⟨rfl, z, u, hp, e96, fr⟩) dL_keyRow_19
def rm_L_keyColumn : Room := { frames := 9, cells := 2, slots := 12, locals := 153 }
set_option maxRecDepth 100000 in
set_option maxHeartbeats 4000000 in
theorem c_L_keyColumn (l : Launch) (E : xE) (ST : xST) (hSF : SF ST) (hSX : SX ST) (σ : xW) (p0 : Int) {P : Int → xW → Prop} {px : String → xW → Prop} (hM : XI l E ST yX6_keyColumn wsX6_keyColumn rm_X6_keyColumn [.ref (xad E 0), .int (iZ p0)] σ P px) {fs : List Value} (h0 : σ 0 = oB 4 fs) (hP96 : ∀ (z : Int) (u : xW), P z u → ∃ f : Nat → Int64, u 96 = .inl (xJ E, 1, .inr (.inl f))) (hpx : ∀ (n : String) (u : xW), px n u → n = "java/lang/IllegalArgumentException" ∨ n = "java/util/NoSuchElementException") : CI l E ST yL_keyColumn wsL_keyColumn rm_L_keyColumn [.ref (xad E 0), .int (iZ p0), .ref (xad E 96)] σ (fun (z9 : Int) (u : xW) => (z9 = 0 ∧ ∃ (z : Int) (u0 : xW), P z u0 ∧ u 96 = oJ E (iZ z).toInt64 ∧ ∀ j : Nat, j ≠ 96 → u j = u0 j) ∨ (z9 = 1 ∧ px "java/lang/IllegalArgumentException" u) ∨ (z9 = 2 ∧ px "java/util/NoSuchElementException" u)) := by
  refine CW_of (by decide) rfl (Nat.le_of_ble_eq_true rfl) ?_
  intro p e s m args below meth c Q ls G hH hl hQ
  obtain ⟨hx, hb, hml, hown, hts, hK, hST, hlocks, hr, htab⟩ := G
  have hOK := hSF.1
  have hown : s.vm.findClass RL = some m.cls := hown
  have hl : lv_has ls 4 [(0, .ref (xad E 0)), (1, .int (iZ p0)), (2, .ref (xad E 96))] := hl
  subst hQ
  refine lv_aload_n hx hb dL_keyColumn_0 rfl (lv_at hl 2 rfl) ?_
  refine x_iconst (n := 0) hx hb dL_keyColumn_1 ?_
  refine lv_aload_n hx hb dL_keyColumn_2 rfl (lv_at hl 0 rfl) ?_
  refine lv_iload_n hx hb dL_keyColumn_3 rfl (lv_at hl 1 rfl) ?_
  refine x_cXVI (As := [.int (iZ p0)]) (rest := [.int (iZ 0), .ref (xad E 96)]) hx hb hml hts hown hK hST hOK hH 0 hM (cwV 1 hts gL_keyColumn_X6_keyColumn rfl rfl rfl (by decide +kernel) ⟨Nat.le_of_ble_eq_true rfl, Nat.le_of_ble_eq_true rfl⟩) (by decide) h0 rfl rfl hl.1 rfl (Nat.le_of_ble_eq_true rfl) dL_keyColumn_4 ⟨Nat.le_of_ble_eq_true rfl, Nat.le_of_ble_eq_true rfl⟩ ?_ (fun z u H locs hp hH => ?_)
  · intro n ce q9 u H locs hp hH hce hcv hcl
    rcases hpx n u hp with rfl | rfl
    · refine x_catch hown hts hSX hST [] (0, 9, 12, 15) [(0, 9, 15, 47)] htab (by decide +kernel) (fun _ h => absurd h List.not_mem_nil) rfl (by decide) (List.mem_of_getElem? (i := 1) rfl) hce hcv hcl ?_
      refine lv_astore_n (lv' := (3, .ref q9) :: [(0, .ref (xad E 0)), (1, .int (iZ p0)), (2, .ref (xad E 96))]) hx hb dL_keyColumn_12 rfl hl (by decide) rfl (fun ls hl => ?_)
      refine x_iconst hx hb dL_keyColumn_13 ?_
      exact x_iret hx hb hr hlocks hH (Nat.le_of_ble_eq_true rfl) (Nat.le_of_ble_eq_true rfl) (Or.inr (Or.inl (⟨rfl, hp⟩))) dL_keyColumn_14
    · refine x_catch hown hts hSX hST [(0, 9, 12, 15)] (0, 9, 15, 47) [] htab (by decide +kernel) (List.forall_mem_cons.mpr ⟨⟨by decide, "java/lang/IllegalArgumentException", (List.mem_of_getElem? (i := 1) rfl), by decide +kernel, by decide +kernel⟩, (fun _ h => absurd h List.not_mem_nil)⟩) rfl (by decide) (List.mem_of_getElem? (i := 2) rfl) hce hcv hcl ?_
      refine lv_astore_n (lv' := (3, .ref q9) :: [(0, .ref (xad E 0)), (1, .int (iZ p0)), (2, .ref (xad E 96))]) hx hb dL_keyColumn_15 rfl hl (by decide) rfl (fun ls hl => ?_)
      refine x_iconst hx hb dL_keyColumn_16 ?_
      exact x_iret hx hb hr hlocks hH (Nat.le_of_ble_eq_true rfl) (Nat.le_of_ble_eq_true rfl) (Or.inr (Or.inr (⟨rfl, hp⟩))) dL_keyColumn_17
  · obtain ⟨f, h96⟩ := hP96 z u hp
    refine lv_i2l (v := (iZ z).toInt64) hx hb dL_keyColumn_7 rfl ?_
    refine x_last hx hb hK hH h96 dL_keyColumn_8 (fun u1 H locs e96 fr hH => ?_)
    refine lv_goto (tgt := 18) hx hb dL_keyColumn_9 (by decide) ?_
    refine x_iconst hx hb dL_keyColumn_18 ?_
    exact x_iret hx hb hr hlocks hH (Nat.le_of_ble_eq_true rfl) (Nat.le_of_ble_eq_true rfl) (Or.inl ⟨rfl, z, u, hp, e96, fr⟩) dL_keyColumn_19
def rm_L_carrierOf : Room := { frames := 8, cells := 2, slots := 12, locals := 132 }
set_option maxRecDepth 100000 in
set_option maxHeartbeats 4000000 in
theorem c_L_carrierOf (l : Launch) (E : xE) (ST : xST) (hSF : SF ST) (hSX : SX ST) (σ : xW) (p0 : Int) {P : Int → xW → Prop} {px : String → xW → Prop} (hM : XI l E ST yX6_carrierOf wsX6_carrierOf rm_X6_carrierOf [.ref (xad E 0), .int (iZ p0)] σ P px) {fs : List Value} (h0 : σ 0 = oB 4 fs) (hP96 : ∀ (z : Int) (u : xW), P z u → ∃ f : Nat → Int64, u 96 = .inl (xJ E, 1, .inr (.inl f))) (hpx : ∀ (n : String) (u : xW), px n u → n = "java/lang/IllegalArgumentException" ∨ n = "java/util/NoSuchElementException") : CI l E ST yL_carrierOf wsL_carrierOf rm_L_carrierOf [.ref (xad E 0), .int (iZ p0), .ref (xad E 96)] σ (fun (z9 : Int) (u : xW) => (z9 = 0 ∧ ∃ (z : Int) (u0 : xW), P z u0 ∧ u 96 = oJ E (iZ z).toInt64 ∧ ∀ j : Nat, j ≠ 96 → u j = u0 j) ∨ (z9 = 1 ∧ px "java/lang/IllegalArgumentException" u) ∨ (z9 = 2 ∧ px "java/util/NoSuchElementException" u)) := by
  refine CW_of (by decide) rfl (Nat.le_of_ble_eq_true rfl) ?_
  intro p e s m args below meth c Q ls G hH hl hQ
  obtain ⟨hx, hb, hml, hown, hts, hK, hST, hlocks, hr, htab⟩ := G
  have hOK := hSF.1
  have hown : s.vm.findClass RL = some m.cls := hown
  have hl : lv_has ls 4 [(0, .ref (xad E 0)), (1, .int (iZ p0)), (2, .ref (xad E 96))] := hl
  subst hQ
  refine lv_aload_n hx hb dL_carrierOf_0 rfl (lv_at hl 2 rfl) ?_
  refine x_iconst (n := 0) hx hb dL_carrierOf_1 ?_
  refine lv_aload_n hx hb dL_carrierOf_2 rfl (lv_at hl 0 rfl) ?_
  refine lv_iload_n hx hb dL_carrierOf_3 rfl (lv_at hl 1 rfl) ?_
  refine x_cXVI (As := [.int (iZ p0)]) (rest := [.int (iZ 0), .ref (xad E 96)]) hx hb hml hts hown hK hST hOK hH 0 hM (cwV 1 hts gL_carrierOf_X6_carrierOf rfl rfl rfl (by decide +kernel) ⟨Nat.le_of_ble_eq_true rfl, Nat.le_of_ble_eq_true rfl⟩) (by decide) h0 rfl rfl hl.1 rfl (Nat.le_of_ble_eq_true rfl) dL_carrierOf_4 ⟨Nat.le_of_ble_eq_true rfl, Nat.le_of_ble_eq_true rfl⟩ ?_ (fun z u H locs hp hH => ?_)
  · intro n ce q9 u H locs hp hH hce hcv hcl
    rcases hpx n u hp with rfl | rfl
    · refine x_catch hown hts hSX hST [] (0, 9, 12, 15) [(0, 9, 15, 47)] htab (by decide +kernel) (fun _ h => absurd h List.not_mem_nil) rfl (by decide) (List.mem_of_getElem? (i := 1) rfl) hce hcv hcl ?_
      refine lv_astore_n (lv' := (3, .ref q9) :: [(0, .ref (xad E 0)), (1, .int (iZ p0)), (2, .ref (xad E 96))]) hx hb dL_carrierOf_12 rfl hl (by decide) rfl (fun ls hl => ?_)
      refine x_iconst hx hb dL_carrierOf_13 ?_
      exact x_iret hx hb hr hlocks hH (Nat.le_of_ble_eq_true rfl) (Nat.le_of_ble_eq_true rfl) (Or.inr (Or.inl (⟨rfl, hp⟩))) dL_carrierOf_14
    · refine x_catch hown hts hSX hST [(0, 9, 12, 15)] (0, 9, 15, 47) [] htab (by decide +kernel) (List.forall_mem_cons.mpr ⟨⟨by decide, "java/lang/IllegalArgumentException", (List.mem_of_getElem? (i := 1) rfl), by decide +kernel, by decide +kernel⟩, (fun _ h => absurd h List.not_mem_nil)⟩) rfl (by decide) (List.mem_of_getElem? (i := 2) rfl) hce hcv hcl ?_
      refine lv_astore_n (lv' := (3, .ref q9) :: [(0, .ref (xad E 0)), (1, .int (iZ p0)), (2, .ref (xad E 96))]) hx hb dL_carrierOf_15 rfl hl (by decide) rfl (fun ls hl => ?_)
      refine x_iconst hx hb dL_carrierOf_16 ?_
      exact x_iret hx hb hr hlocks hH (Nat.le_of_ble_eq_true rfl) (Nat.le_of_ble_eq_true rfl) (Or.inr (Or.inr (⟨rfl, hp⟩))) dL_carrierOf_17
  · obtain ⟨f, h96⟩ := hP96 z u hp
    refine lv_i2l (v := (iZ z).toInt64) hx hb dL_carrierOf_7 rfl ?_
    refine x_last hx hb hK hH h96 dL_carrierOf_8 (fun u1 H locs e96 fr hH => ?_)
    refine lv_goto (tgt := 18) hx hb dL_carrierOf_9 (by decide) ?_
    refine x_iconst hx hb dL_carrierOf_18 ?_
    exact x_iret hx hb hr hlocks hH (Nat.le_of_ble_eq_true rfl) (Nat.le_of_ble_eq_true rfl) (Or.inl ⟨rfl, z, u, hp, e96, fr⟩) dL_carrierOf_19
def rm_L_walkerRow : Room := { frames := 8, cells := 1, slots := 6, locals := 132 }
set_option maxRecDepth 100000 in
set_option maxHeartbeats 4000000 in
theorem c_L_walkerRow (l : Launch) (E : xE) (ST : xST) (hSF : SF ST) (hSX : SX ST) (σ : xW) (p0 : Int) {P : Int → xW → Prop} {px : String → xW → Prop} (hM : XI l E ST yX6_walkerRow wsX6_walkerRow rm_X6_walkerRow [.ref (xad E 0), .int (iZ p0)] σ P px) {fs : List Value} (h0 : σ 0 = oB 4 fs) (hP96 : ∀ (z : Int) (u : xW), P z u → ∃ f : Nat → Int64, u 96 = .inl (xJ E, 1, .inr (.inl f))) (hpx : ∀ (n : String) (u : xW), px n u → n = "java/lang/IndexOutOfBoundsException") : CI l E ST yL_walkerRow wsL_walkerRow rm_L_walkerRow [.ref (xad E 0), .int (iZ p0), .ref (xad E 96)] σ (fun (z9 : Int) (u : xW) => (z9 = 0 ∧ ∃ (z : Int) (u0 : xW), P z u0 ∧ u 96 = oJ E (iZ z).toInt64 ∧ ∀ j : Nat, j ≠ 96 → u j = u0 j) ∨ (z9 = 1 ∧ px "java/lang/IndexOutOfBoundsException" u)) := by
  refine CW_of (by decide) rfl (Nat.le_of_ble_eq_true rfl) ?_
  intro p e s m args below meth c Q ls G hH hl hQ
  obtain ⟨hx, hb, hml, hown, hts, hK, hST, hlocks, hr, htab⟩ := G
  have hOK := hSF.1
  have hown : s.vm.findClass RL = some m.cls := hown
  have hl : lv_has ls 4 [(0, .ref (xad E 0)), (1, .int (iZ p0)), (2, .ref (xad E 96))] := hl
  subst hQ
  refine lv_aload_n hx hb dL_walkerRow_0 rfl (lv_at hl 2 rfl) ?_
  refine x_iconst (n := 0) hx hb dL_walkerRow_1 ?_
  refine lv_aload_n hx hb dL_walkerRow_2 rfl (lv_at hl 0 rfl) ?_
  refine lv_iload_n hx hb dL_walkerRow_3 rfl (lv_at hl 1 rfl) ?_
  refine x_cXVI (As := [.int (iZ p0)]) (rest := [.int (iZ 0), .ref (xad E 96)]) hx hb hml hts hown hK hST hOK hH 0 hM (cwV 1 hts gL_walkerRow_X6_walkerRow rfl rfl rfl (by decide +kernel) ⟨Nat.le_of_ble_eq_true rfl, Nat.le_of_ble_eq_true rfl⟩) (by decide) h0 rfl rfl hl.1 rfl (Nat.le_of_ble_eq_true rfl) dL_walkerRow_4 ⟨Nat.le_of_ble_eq_true rfl, Nat.le_of_ble_eq_true rfl⟩ ?_ (fun z u H locs hp hH => ?_)
  · intro n ce q9 u H locs hp hH hce hcv hcl
    have e9 := hpx n u hp
    subst e9
    refine x_catch hown hts hSX hST [] (0, 9, 12, 13) [] htab (by decide +kernel) (fun _ h => absurd h List.not_mem_nil) rfl (by decide) (List.mem_of_getElem? (i := 1) rfl) hce hcv hcl ?_
    refine lv_astore_n (lv' := (3, .ref q9) :: [(0, .ref (xad E 0)), (1, .int (iZ p0)), (2, .ref (xad E 96))]) hx hb dL_walkerRow_12 rfl hl (by decide) rfl (fun ls hl => ?_)
    refine x_iconst hx hb dL_walkerRow_13 ?_
    exact x_iret hx hb hr hlocks hH (Nat.le_of_ble_eq_true rfl) (Nat.le_of_ble_eq_true rfl) (Or.inr (⟨rfl, hp⟩)) dL_walkerRow_14
  · obtain ⟨f, h96⟩ := hP96 z u hp
    refine lv_i2l (v := (iZ z).toInt64) hx hb dL_walkerRow_7 rfl ?_
    refine x_last hx hb hK hH h96 dL_walkerRow_8 (fun u1 H locs e96 fr hH => ?_)
    refine lv_goto (tgt := 15) hx hb dL_walkerRow_9 (by decide) ?_
    refine x_iconst hx hb dL_walkerRow_15 ?_
    exact x_iret hx hb hr hlocks hH (Nat.le_of_ble_eq_true rfl) (Nat.le_of_ble_eq_true rfl) (Or.inl ⟨rfl, z, u, hp, e96, fr⟩) dL_walkerRow_16
def rm_L_walkerColumn : Room := { frames := 8, cells := 1, slots := 6, locals := 132 }
set_option maxRecDepth 100000 in
set_option maxHeartbeats 4000000 in
theorem c_L_walkerColumn (l : Launch) (E : xE) (ST : xST) (hSF : SF ST) (hSX : SX ST) (σ : xW) (p0 : Int) {P : Int → xW → Prop} {px : String → xW → Prop} (hM : XI l E ST yX6_walkerColumn wsX6_walkerColumn rm_X6_walkerColumn [.ref (xad E 0), .int (iZ p0)] σ P px) {fs : List Value} (h0 : σ 0 = oB 4 fs) (hP96 : ∀ (z : Int) (u : xW), P z u → ∃ f : Nat → Int64, u 96 = .inl (xJ E, 1, .inr (.inl f))) (hpx : ∀ (n : String) (u : xW), px n u → n = "java/lang/IndexOutOfBoundsException") : CI l E ST yL_walkerColumn wsL_walkerColumn rm_L_walkerColumn [.ref (xad E 0), .int (iZ p0), .ref (xad E 96)] σ (fun (z9 : Int) (u : xW) => (z9 = 0 ∧ ∃ (z : Int) (u0 : xW), P z u0 ∧ u 96 = oJ E (iZ z).toInt64 ∧ ∀ j : Nat, j ≠ 96 → u j = u0 j) ∨ (z9 = 1 ∧ px "java/lang/IndexOutOfBoundsException" u)) := by
  refine CW_of (by decide) rfl (Nat.le_of_ble_eq_true rfl) ?_
  intro p e s m args below meth c Q ls G hH hl hQ
  obtain ⟨hx, hb, hml, hown, hts, hK, hST, hlocks, hr, htab⟩ := G
  have hOK := hSF.1
  have hown : s.vm.findClass RL = some m.cls := hown
  have hl : lv_has ls 4 [(0, .ref (xad E 0)), (1, .int (iZ p0)), (2, .ref (xad E 96))] := hl
  subst hQ
  refine lv_aload_n hx hb dL_walkerColumn_0 rfl (lv_at hl 2 rfl) ?_
  refine x_iconst (n := 0) hx hb dL_walkerColumn_1 ?_
  refine lv_aload_n hx hb dL_walkerColumn_2 rfl (lv_at hl 0 rfl) ?_
  refine lv_iload_n hx hb dL_walkerColumn_3 rfl (lv_at hl 1 rfl) ?_
  refine x_cXVI (As := [.int (iZ p0)]) (rest := [.int (iZ 0), .ref (xad E 96)]) hx hb hml hts hown hK hST hOK hH 0 hM (cwV 1 hts gL_walkerColumn_X6_walkerColumn rfl rfl rfl (by decide +kernel) ⟨Nat.le_of_ble_eq_true rfl, Nat.le_of_ble_eq_true rfl⟩) (by decide) h0 rfl rfl hl.1 rfl (Nat.le_of_ble_eq_true rfl) dL_walkerColumn_4 ⟨Nat.le_of_ble_eq_true rfl, Nat.le_of_ble_eq_true rfl⟩ ?_ (fun z u H locs hp hH => ?_)
  · intro n ce q9 u H locs hp hH hce hcv hcl
    have e9 := hpx n u hp
    subst e9
    refine x_catch hown hts hSX hST [] (0, 9, 12, 13) [] htab (by decide +kernel) (fun _ h => absurd h List.not_mem_nil) rfl (by decide) (List.mem_of_getElem? (i := 1) rfl) hce hcv hcl ?_
    refine lv_astore_n (lv' := (3, .ref q9) :: [(0, .ref (xad E 0)), (1, .int (iZ p0)), (2, .ref (xad E 96))]) hx hb dL_walkerColumn_12 rfl hl (by decide) rfl (fun ls hl => ?_)
    refine x_iconst hx hb dL_walkerColumn_13 ?_
    exact x_iret hx hb hr hlocks hH (Nat.le_of_ble_eq_true rfl) (Nat.le_of_ble_eq_true rfl) (Or.inr (⟨rfl, hp⟩)) dL_walkerColumn_14
  · obtain ⟨f, h96⟩ := hP96 z u hp
    refine lv_i2l (v := (iZ z).toInt64) hx hb dL_walkerColumn_7 rfl ?_
    refine x_last hx hb hK hH h96 dL_walkerColumn_8 (fun u1 H locs e96 fr hH => ?_)
    refine lv_goto (tgt := 15) hx hb dL_walkerColumn_9 (by decide) ?_
    refine x_iconst hx hb dL_walkerColumn_15 ?_
    exact x_iret hx hb hr hlocks hH (Nat.le_of_ble_eq_true rfl) (Nat.le_of_ble_eq_true rfl) (Or.inl ⟨rfl, z, u, hp, e96, fr⟩) dL_walkerColumn_16
def rm_L_keysOf : Room := { frames := 8, cells := 1, slots := 6, locals := 132 }
set_option maxRecDepth 100000 in
set_option maxHeartbeats 4000000 in
theorem c_L_keysOf (l : Launch) (E : xE) (ST : xST) (hSF : SF ST) (hSX : SX ST) (σ : xW) (p0 : Int) {P : Int → xW → Prop} {px : String → xW → Prop} (hM : XI l E ST yX6_keysOf wsX6_keysOf rm_X6_keysOf [.ref (xad E 0), .int (iZ p0)] σ P px) {fs : List Value} (h0 : σ 0 = oB 4 fs) (hP96 : ∀ (z : Int) (u : xW), P z u → ∃ f : Nat → Int64, u 96 = .inl (xJ E, 1, .inr (.inl f))) (hpx : ∀ (n : String) (u : xW), px n u → n = "java/lang/IndexOutOfBoundsException") : CI l E ST yL_keysOf wsL_keysOf rm_L_keysOf [.ref (xad E 0), .int (iZ p0), .ref (xad E 96)] σ (fun (z9 : Int) (u : xW) => (z9 = 0 ∧ ∃ (z : Int) (u0 : xW), P z u0 ∧ u 96 = oJ E (iZ z).toInt64 ∧ ∀ j : Nat, j ≠ 96 → u j = u0 j) ∨ (z9 = 1 ∧ px "java/lang/IndexOutOfBoundsException" u)) := by
  refine CW_of (by decide) rfl (Nat.le_of_ble_eq_true rfl) ?_
  intro p e s m args below meth c Q ls G hH hl hQ
  obtain ⟨hx, hb, hml, hown, hts, hK, hST, hlocks, hr, htab⟩ := G
  have hOK := hSF.1
  have hown : s.vm.findClass RL = some m.cls := hown
  have hl : lv_has ls 4 [(0, .ref (xad E 0)), (1, .int (iZ p0)), (2, .ref (xad E 96))] := hl
  subst hQ
  refine lv_aload_n hx hb dL_keysOf_0 rfl (lv_at hl 2 rfl) ?_
  refine x_iconst (n := 0) hx hb dL_keysOf_1 ?_
  refine lv_aload_n hx hb dL_keysOf_2 rfl (lv_at hl 0 rfl) ?_
  refine lv_iload_n hx hb dL_keysOf_3 rfl (lv_at hl 1 rfl) ?_
  refine x_cXVI (As := [.int (iZ p0)]) (rest := [.int (iZ 0), .ref (xad E 96)]) hx hb hml hts hown hK hST hOK hH 0 hM (cwV 1 hts gL_keysOf_X6_keysOf rfl rfl rfl (by decide +kernel) ⟨Nat.le_of_ble_eq_true rfl, Nat.le_of_ble_eq_true rfl⟩) (by decide) h0 rfl rfl hl.1 rfl (Nat.le_of_ble_eq_true rfl) dL_keysOf_4 ⟨Nat.le_of_ble_eq_true rfl, Nat.le_of_ble_eq_true rfl⟩ ?_ (fun z u H locs hp hH => ?_)
  · intro n ce q9 u H locs hp hH hce hcv hcl
    have e9 := hpx n u hp
    subst e9
    refine x_catch hown hts hSX hST [] (0, 9, 12, 13) [] htab (by decide +kernel) (fun _ h => absurd h List.not_mem_nil) rfl (by decide) (List.mem_of_getElem? (i := 1) rfl) hce hcv hcl ?_
    refine lv_astore_n (lv' := (3, .ref q9) :: [(0, .ref (xad E 0)), (1, .int (iZ p0)), (2, .ref (xad E 96))]) hx hb dL_keysOf_12 rfl hl (by decide) rfl (fun ls hl => ?_)
    refine x_iconst hx hb dL_keysOf_13 ?_
    exact x_iret hx hb hr hlocks hH (Nat.le_of_ble_eq_true rfl) (Nat.le_of_ble_eq_true rfl) (Or.inr (⟨rfl, hp⟩)) dL_keysOf_14
  · obtain ⟨f, h96⟩ := hP96 z u hp
    refine lv_i2l (v := (iZ z).toInt64) hx hb dL_keysOf_7 rfl ?_
    refine x_last hx hb hK hH h96 dL_keysOf_8 (fun u1 H locs e96 fr hH => ?_)
    refine lv_goto (tgt := 15) hx hb dL_keysOf_9 (by decide) ?_
    refine x_iconst hx hb dL_keysOf_15 ?_
    exact x_iret hx hb hr hlocks hH (Nat.le_of_ble_eq_true rfl) (Nat.le_of_ble_eq_true rfl) (Or.inl ⟨rfl, z, u, hp, e96, fr⟩) dL_keysOf_16
def rm_L_pathLength : Room := { frames := 8, cells := 3, slots := 18, locals := 135 }
set_option maxRecDepth 100000 in
set_option maxHeartbeats 4000000 in
theorem c_L_pathLength (l : Launch) (E : xE) (ST : xST) (hSF : SF ST) (hSX : SX ST) (σ : xW) (p0 p1 p2 : Int) {P : Int → xW → Prop} {px : String → xW → Prop} (hM : XI l E ST yX6_pathLength wsX6_pathLength rm_X6_pathLength [.ref (xad E 0), .int (iZ p0), .int (iZ p1), .int (iZ p2)] σ P px) {fs : List Value} (h0 : σ 0 = oB 4 fs) (hP96 : ∀ (z : Int) (u : xW), P z u → ∃ f : Nat → Int64, u 96 = .inl (xJ E, 1, .inr (.inl f))) (hpx : ∀ (n : String) (u : xW), px n u → n = "java/lang/IndexOutOfBoundsException" ∨ n = "java/util/NoSuchElementException") : CI l E ST yL_pathLength wsL_pathLength rm_L_pathLength [.ref (xad E 0), .int (iZ p0), .int (iZ p1), .int (iZ p2), .ref (xad E 96)] σ (fun (z9 : Int) (u : xW) => (z9 = 0 ∧ ∃ (z : Int) (u0 : xW), P z u0 ∧ u 96 = oJ E (iZ z).toInt64 ∧ ∀ j : Nat, j ≠ 96 → u j = u0 j) ∨ (z9 = 1 ∧ px "java/lang/IndexOutOfBoundsException" u) ∨ (z9 = 2 ∧ px "java/util/NoSuchElementException" u)) := by
  refine CW_of (by decide) rfl (Nat.le_of_ble_eq_true rfl) ?_
  intro p e s m args below meth c Q ls G hH hl hQ
  obtain ⟨hx, hb, hml, hown, hts, hK, hST, hlocks, hr, htab⟩ := G
  have hOK := hSF.1
  have hown : s.vm.findClass RL = some m.cls := hown
  have hl : lv_has ls 6 [(0, .ref (xad E 0)), (1, .int (iZ p0)), (2, .int (iZ p1)), (3, .int (iZ p2)), (4, .ref (xad E 96))] := hl
  subst hQ
  refine lv_aload hx hb dL_pathLength_0 (lv_at hl 4 rfl) ?_
  refine x_iconst (n := 0) hx hb dL_pathLength_2 ?_
  refine lv_aload_n hx hb dL_pathLength_3 rfl (lv_at hl 0 rfl) ?_
  refine lv_iload_n hx hb dL_pathLength_4 rfl (lv_at hl 1 rfl) ?_
  refine lv_iload_n hx hb dL_pathLength_5 rfl (lv_at hl 2 rfl) ?_
  refine lv_iload_n hx hb dL_pathLength_6 rfl (lv_at hl 3 rfl) ?_
  refine x_cXVI (As := [.int (iZ p0), .int (iZ p1), .int (iZ p2)]) (rest := [.int (iZ 0), .ref (xad E 96)]) hx hb hml hts hown hK hST hOK hH 0 hM (cwV 3 hts gL_pathLength_X6_pathLength rfl rfl rfl (by decide +kernel) ⟨Nat.le_of_ble_eq_true rfl, Nat.le_of_ble_eq_true rfl⟩) (by decide) h0 rfl rfl hl.1 rfl (Nat.le_of_ble_eq_true rfl) dL_pathLength_7 ⟨Nat.le_of_ble_eq_true rfl, Nat.le_of_ble_eq_true rfl⟩ ?_ (fun z u H locs hp hH => ?_)
  · intro n ce q9 u H locs hp hH hce hcv hcl
    rcases hpx n u hp with rfl | rfl
    · refine x_catch hown hts hSX hST [] (0, 12, 15, 13) [(0, 12, 19, 47)] htab (by decide +kernel) (fun _ h => absurd h List.not_mem_nil) rfl (by decide) (List.mem_of_getElem? (i := 1) rfl) hce hcv hcl ?_
      refine lv_astore (lv' := (5, .ref q9) :: [(0, .ref (xad E 0)), (1, .int (iZ p0)), (2, .int (iZ p1)), (3, .int (iZ p2)), (4, .ref (xad E 96))]) hx hb dL_pathLength_15 hl (by decide) rfl (fun ls hl => ?_)
      refine x_iconst hx hb dL_pathLength_17 ?_
      exact x_iret hx hb hr hlocks hH (Nat.le_of_ble_eq_true rfl) (Nat.le_of_ble_eq_true rfl) (Or.inr (Or.inl (⟨rfl, hp⟩))) dL_pathLength_18
    · refine x_catch hown hts hSX hST [(0, 12, 15, 13)] (0, 12, 19, 47) [] htab (by decide +kernel) (List.forall_mem_cons.mpr ⟨⟨by decide, "java/lang/IndexOutOfBoundsException", (List.mem_of_getElem? (i := 1) rfl), by decide +kernel, by decide +kernel⟩, (fun _ h => absurd h List.not_mem_nil)⟩) rfl (by decide) (List.mem_of_getElem? (i := 2) rfl) hce hcv hcl ?_
      refine lv_astore (lv' := (5, .ref q9) :: [(0, .ref (xad E 0)), (1, .int (iZ p0)), (2, .int (iZ p1)), (3, .int (iZ p2)), (4, .ref (xad E 96))]) hx hb dL_pathLength_19 hl (by decide) rfl (fun ls hl => ?_)
      refine x_iconst hx hb dL_pathLength_21 ?_
      exact x_iret hx hb hr hlocks hH (Nat.le_of_ble_eq_true rfl) (Nat.le_of_ble_eq_true rfl) (Or.inr (Or.inr (⟨rfl, hp⟩))) dL_pathLength_22
  · obtain ⟨f, h96⟩ := hP96 z u hp
    refine lv_i2l (v := (iZ z).toInt64) hx hb dL_pathLength_10 rfl ?_
    refine x_last hx hb hK hH h96 dL_pathLength_11 (fun u1 H locs e96 fr hH => ?_)
    refine lv_goto (tgt := 23) hx hb dL_pathLength_12 (by decide) ?_
    refine x_iconst hx hb dL_pathLength_23 ?_
    exact x_iret hx hb hr hlocks hH (Nat.le_of_ble_eq_true rfl) (Nat.le_of_ble_eq_true rfl) (Or.inl ⟨rfl, z, u, hp, e96, fr⟩) dL_pathLength_24
def rm_L_pathLengthByRounds : Room := { frames := 8, cells := 3, slots := 18, locals := 135 }
set_option maxRecDepth 100000 in
set_option maxHeartbeats 4000000 in
theorem c_L_pathLengthByRounds (l : Launch) (E : xE) (ST : xST) (hSF : SF ST) (hSX : SX ST) (σ : xW) (p0 p1 p2 : Int) {P : Int → xW → Prop} {px : String → xW → Prop} (hM : XI l E ST yX6_pathLengthByRounds wsX6_pathLengthByRounds rm_X6_pathLengthByRounds [.ref (xad E 0), .int (iZ p0), .int (iZ p1), .int (iZ p2)] σ P px) {fs : List Value} (h0 : σ 0 = oB 4 fs) (hP96 : ∀ (z : Int) (u : xW), P z u → ∃ f : Nat → Int64, u 96 = .inl (xJ E, 1, .inr (.inl f))) (hpx : ∀ (n : String) (u : xW), px n u → n = "java/lang/IndexOutOfBoundsException" ∨ n = "java/util/NoSuchElementException") : CI l E ST yL_pathLengthByRounds wsL_pathLengthByRounds rm_L_pathLengthByRounds [.ref (xad E 0), .int (iZ p0), .int (iZ p1), .int (iZ p2), .ref (xad E 96)] σ (fun (z9 : Int) (u : xW) => (z9 = 0 ∧ ∃ (z : Int) (u0 : xW), P z u0 ∧ u 96 = oJ E (iZ z).toInt64 ∧ ∀ j : Nat, j ≠ 96 → u j = u0 j) ∨ (z9 = 1 ∧ px "java/lang/IndexOutOfBoundsException" u) ∨ (z9 = 2 ∧ px "java/util/NoSuchElementException" u)) := by
  refine CW_of (by decide) rfl (Nat.le_of_ble_eq_true rfl) ?_
  intro p e s m args below meth c Q ls G hH hl hQ
  obtain ⟨hx, hb, hml, hown, hts, hK, hST, hlocks, hr, htab⟩ := G
  have hOK := hSF.1
  have hown : s.vm.findClass RL = some m.cls := hown
  have hl : lv_has ls 6 [(0, .ref (xad E 0)), (1, .int (iZ p0)), (2, .int (iZ p1)), (3, .int (iZ p2)), (4, .ref (xad E 96))] := hl
  subst hQ
  refine lv_aload hx hb dL_pathLengthByRounds_0 (lv_at hl 4 rfl) ?_
  refine x_iconst (n := 0) hx hb dL_pathLengthByRounds_2 ?_
  refine lv_aload_n hx hb dL_pathLengthByRounds_3 rfl (lv_at hl 0 rfl) ?_
  refine lv_iload_n hx hb dL_pathLengthByRounds_4 rfl (lv_at hl 1 rfl) ?_
  refine lv_iload_n hx hb dL_pathLengthByRounds_5 rfl (lv_at hl 2 rfl) ?_
  refine lv_iload_n hx hb dL_pathLengthByRounds_6 rfl (lv_at hl 3 rfl) ?_
  refine x_cXVI (As := [.int (iZ p0), .int (iZ p1), .int (iZ p2)]) (rest := [.int (iZ 0), .ref (xad E 96)]) hx hb hml hts hown hK hST hOK hH 0 hM (cwV 3 hts gL_pathLengthByRounds_X6_pathLengthByRounds rfl rfl rfl (by decide +kernel) ⟨Nat.le_of_ble_eq_true rfl, Nat.le_of_ble_eq_true rfl⟩) (by decide) h0 rfl rfl hl.1 rfl (Nat.le_of_ble_eq_true rfl) dL_pathLengthByRounds_7 ⟨Nat.le_of_ble_eq_true rfl, Nat.le_of_ble_eq_true rfl⟩ ?_ (fun z u H locs hp hH => ?_)
  · intro n ce q9 u H locs hp hH hce hcv hcl
    rcases hpx n u hp with rfl | rfl
    · refine x_catch hown hts hSX hST [] (0, 12, 15, 13) [(0, 12, 19, 47)] htab (by decide +kernel) (fun _ h => absurd h List.not_mem_nil) rfl (by decide) (List.mem_of_getElem? (i := 1) rfl) hce hcv hcl ?_
      refine lv_astore (lv' := (5, .ref q9) :: [(0, .ref (xad E 0)), (1, .int (iZ p0)), (2, .int (iZ p1)), (3, .int (iZ p2)), (4, .ref (xad E 96))]) hx hb dL_pathLengthByRounds_15 hl (by decide) rfl (fun ls hl => ?_)
      refine x_iconst hx hb dL_pathLengthByRounds_17 ?_
      exact x_iret hx hb hr hlocks hH (Nat.le_of_ble_eq_true rfl) (Nat.le_of_ble_eq_true rfl) (Or.inr (Or.inl (⟨rfl, hp⟩))) dL_pathLengthByRounds_18
    · refine x_catch hown hts hSX hST [(0, 12, 15, 13)] (0, 12, 19, 47) [] htab (by decide +kernel) (List.forall_mem_cons.mpr ⟨⟨by decide, "java/lang/IndexOutOfBoundsException", (List.mem_of_getElem? (i := 1) rfl), by decide +kernel, by decide +kernel⟩, (fun _ h => absurd h List.not_mem_nil)⟩) rfl (by decide) (List.mem_of_getElem? (i := 2) rfl) hce hcv hcl ?_
      refine lv_astore (lv' := (5, .ref q9) :: [(0, .ref (xad E 0)), (1, .int (iZ p0)), (2, .int (iZ p1)), (3, .int (iZ p2)), (4, .ref (xad E 96))]) hx hb dL_pathLengthByRounds_19 hl (by decide) rfl (fun ls hl => ?_)
      refine x_iconst hx hb dL_pathLengthByRounds_21 ?_
      exact x_iret hx hb hr hlocks hH (Nat.le_of_ble_eq_true rfl) (Nat.le_of_ble_eq_true rfl) (Or.inr (Or.inr (⟨rfl, hp⟩))) dL_pathLengthByRounds_22
  · obtain ⟨f, h96⟩ := hP96 z u hp
    refine lv_i2l (v := (iZ z).toInt64) hx hb dL_pathLengthByRounds_10 rfl ?_
    refine x_last hx hb hK hH h96 dL_pathLengthByRounds_11 (fun u1 H locs e96 fr hH => ?_)
    refine lv_goto (tgt := 23) hx hb dL_pathLengthByRounds_12 (by decide) ?_
    refine x_iconst hx hb dL_pathLengthByRounds_23 ?_
    exact x_iret hx hb hr hlocks hH (Nat.le_of_ble_eq_true rfl) (Nat.le_of_ble_eq_true rfl) (Or.inl ⟨rfl, z, u, hp, e96, fr⟩) dL_pathLengthByRounds_24
def rm_L_firstStep : Room := { frames := 8, cells := 4, slots := 24, locals := 135 }
set_option maxRecDepth 100000 in
set_option maxHeartbeats 4000000 in
theorem c_L_firstStep (l : Launch) (E : xE) (ST : xST) (hSF : SF ST) (hSX : SX ST) (σ : xW) (p0 p1 p2 : Int) {P : Int → xW → Prop} {px : String → xW → Prop} (hM : XI l E ST yX6_firstStep wsX6_firstStep rm_X6_firstStep [.ref (xad E 0), .int (iZ p0), .int (iZ p1), .int (iZ p2)] σ P px) {fs : List Value} (h0 : σ 0 = oB 4 fs) (hP96 : ∀ (z : Int) (u : xW), P z u → ∃ f : Nat → Int64, u 96 = .inl (xJ E, 1, .inr (.inl f))) (hpx : ∀ (n : String) (u : xW), px n u → n = "java/lang/IndexOutOfBoundsException" ∨ n = "java/util/NoSuchElementException") : CI l E ST yL_firstStep wsL_firstStep rm_L_firstStep [.ref (xad E 0), .int (iZ p0), .int (iZ p1), .int (iZ p2), .ref (xad E 96)] σ (fun (z9 : Int) (u : xW) => (z9 = 0 ∧ ∃ (z : Int) (u0 : xW), P z u0 ∧ u 96 = oJ E (iZ z).toInt64 ∧ ∀ j : Nat, j ≠ 96 → u j = u0 j) ∨ (z9 = 1 ∧ px "java/lang/IndexOutOfBoundsException" u) ∨ (z9 = 2 ∧ px "java/util/NoSuchElementException" u)) := by
  refine CW_of (by decide) rfl (Nat.le_of_ble_eq_true rfl) ?_
  intro p e s m args below meth c Q ls G hH hl hQ
  obtain ⟨hx, hb, hml, hown, hts, hK, hST, hlocks, hr, htab⟩ := G
  have hOK := hSF.1
  have hown : s.vm.findClass RL = some m.cls := hown
  have hl : lv_has ls 6 [(0, .ref (xad E 0)), (1, .int (iZ p0)), (2, .int (iZ p1)), (3, .int (iZ p2)), (4, .ref (xad E 96))] := hl
  subst hQ
  refine lv_aload hx hb dL_firstStep_0 (lv_at hl 4 rfl) ?_
  refine x_iconst (n := 0) hx hb dL_firstStep_2 ?_
  refine lv_aload_n hx hb dL_firstStep_3 rfl (lv_at hl 0 rfl) ?_
  refine lv_iload_n hx hb dL_firstStep_4 rfl (lv_at hl 1 rfl) ?_
  refine lv_iload_n hx hb dL_firstStep_5 rfl (lv_at hl 2 rfl) ?_
  refine lv_iload_n hx hb dL_firstStep_6 rfl (lv_at hl 3 rfl) ?_
  refine x_cXVI (As := [.int (iZ p0), .int (iZ p1), .int (iZ p2)]) (rest := [.int (iZ 0), .ref (xad E 96)]) hx hb hml hts hown hK hST hOK hH 0 hM (cwV 3 hts gL_firstStep_X6_firstStep rfl rfl rfl (by decide +kernel) ⟨Nat.le_of_ble_eq_true rfl, Nat.le_of_ble_eq_true rfl⟩) (by decide) h0 rfl rfl hl.1 rfl (Nat.le_of_ble_eq_true rfl) dL_firstStep_7 ⟨Nat.le_of_ble_eq_true rfl, Nat.le_of_ble_eq_true rfl⟩ ?_ (fun z u H locs hp hH => ?_)
  · intro n ce q9 u H locs hp hH hce hcv hcl
    rcases hpx n u hp with rfl | rfl
    · refine x_catch hown hts hSX hST [] (0, 12, 15, 13) [(0, 12, 19, 47)] htab (by decide +kernel) (fun _ h => absurd h List.not_mem_nil) rfl (by decide) (List.mem_of_getElem? (i := 1) rfl) hce hcv hcl ?_
      refine lv_astore (lv' := (5, .ref q9) :: [(0, .ref (xad E 0)), (1, .int (iZ p0)), (2, .int (iZ p1)), (3, .int (iZ p2)), (4, .ref (xad E 96))]) hx hb dL_firstStep_15 hl (by decide) rfl (fun ls hl => ?_)
      refine x_iconst hx hb dL_firstStep_17 ?_
      exact x_iret hx hb hr hlocks hH (Nat.le_of_ble_eq_true rfl) (Nat.le_of_ble_eq_true rfl) (Or.inr (Or.inl (⟨rfl, hp⟩))) dL_firstStep_18
    · refine x_catch hown hts hSX hST [(0, 12, 15, 13)] (0, 12, 19, 47) [] htab (by decide +kernel) (List.forall_mem_cons.mpr ⟨⟨by decide, "java/lang/IndexOutOfBoundsException", (List.mem_of_getElem? (i := 1) rfl), by decide +kernel, by decide +kernel⟩, (fun _ h => absurd h List.not_mem_nil)⟩) rfl (by decide) (List.mem_of_getElem? (i := 2) rfl) hce hcv hcl ?_
      refine lv_astore (lv' := (5, .ref q9) :: [(0, .ref (xad E 0)), (1, .int (iZ p0)), (2, .int (iZ p1)), (3, .int (iZ p2)), (4, .ref (xad E 96))]) hx hb dL_firstStep_19 hl (by decide) rfl (fun ls hl => ?_)
      refine x_iconst hx hb dL_firstStep_21 ?_
      exact x_iret hx hb hr hlocks hH (Nat.le_of_ble_eq_true rfl) (Nat.le_of_ble_eq_true rfl) (Or.inr (Or.inr (⟨rfl, hp⟩))) dL_firstStep_22
  · obtain ⟨f, h96⟩ := hP96 z u hp
    refine lv_i2l (v := (iZ z).toInt64) hx hb dL_firstStep_10 rfl ?_
    refine x_last hx hb hK hH h96 dL_firstStep_11 (fun u1 H locs e96 fr hH => ?_)
    refine lv_goto (tgt := 23) hx hb dL_firstStep_12 (by decide) ?_
    refine x_iconst hx hb dL_firstStep_23 ?_
    exact x_iret hx hb hr hlocks hH (Nat.le_of_ble_eq_true rfl) (Nat.le_of_ble_eq_true rfl) (Or.inl ⟨rfl, z, u, hp, e96, fr⟩) dL_firstStep_24
def rm_L_reachableCells : Room := { frames := 8, cells := 1, slots := 6, locals := 132 }
set_option maxRecDepth 100000 in
set_option maxHeartbeats 4000000 in
theorem c_L_reachableCells (l : Launch) (E : xE) (ST : xST) (hSF : SF ST) (hSX : SX ST) (σ : xW) (p0 : Int) {P : Int → xW → Prop} {px : String → xW → Prop} (hM : XI l E ST yX6_reachableCells wsX6_reachableCells rm_X6_reachableCells [.ref (xad E 0), .int (iZ p0)] σ P px) {fs : List Value} (h0 : σ 0 = oB 4 fs) (hP96 : ∀ (z : Int) (u : xW), P z u → ∃ f : Nat → Int64, u 96 = .inl (xJ E, 1, .inr (.inl f))) (hpx : ∀ (n : String) (u : xW), px n u → n = "java/lang/IndexOutOfBoundsException") : CI l E ST yL_reachableCells wsL_reachableCells rm_L_reachableCells [.ref (xad E 0), .int (iZ p0), .ref (xad E 96)] σ (fun (z9 : Int) (u : xW) => (z9 = 0 ∧ ∃ (z : Int) (u0 : xW), P z u0 ∧ u 96 = oJ E (iZ z).toInt64 ∧ ∀ j : Nat, j ≠ 96 → u j = u0 j) ∨ (z9 = 1 ∧ px "java/lang/IndexOutOfBoundsException" u)) := by
  refine CW_of (by decide) rfl (Nat.le_of_ble_eq_true rfl) ?_
  intro p e s m args below meth c Q ls G hH hl hQ
  obtain ⟨hx, hb, hml, hown, hts, hK, hST, hlocks, hr, htab⟩ := G
  have hOK := hSF.1
  have hown : s.vm.findClass RL = some m.cls := hown
  have hl : lv_has ls 4 [(0, .ref (xad E 0)), (1, .int (iZ p0)), (2, .ref (xad E 96))] := hl
  subst hQ
  refine lv_aload_n hx hb dL_reachableCells_0 rfl (lv_at hl 2 rfl) ?_
  refine x_iconst (n := 0) hx hb dL_reachableCells_1 ?_
  refine lv_aload_n hx hb dL_reachableCells_2 rfl (lv_at hl 0 rfl) ?_
  refine lv_iload_n hx hb dL_reachableCells_3 rfl (lv_at hl 1 rfl) ?_
  refine x_cXVI (As := [.int (iZ p0)]) (rest := [.int (iZ 0), .ref (xad E 96)]) hx hb hml hts hown hK hST hOK hH 0 hM (cwV 1 hts gL_reachableCells_X6_reachableCells rfl rfl rfl (by decide +kernel) ⟨Nat.le_of_ble_eq_true rfl, Nat.le_of_ble_eq_true rfl⟩) (by decide) h0 rfl rfl hl.1 rfl (Nat.le_of_ble_eq_true rfl) dL_reachableCells_4 ⟨Nat.le_of_ble_eq_true rfl, Nat.le_of_ble_eq_true rfl⟩ ?_ (fun z u H locs hp hH => ?_)
  · intro n ce q9 u H locs hp hH hce hcv hcl
    have e9 := hpx n u hp
    subst e9
    refine x_catch hown hts hSX hST [] (0, 9, 12, 13) [] htab (by decide +kernel) (fun _ h => absurd h List.not_mem_nil) rfl (by decide) (List.mem_of_getElem? (i := 1) rfl) hce hcv hcl ?_
    refine lv_astore_n (lv' := (3, .ref q9) :: [(0, .ref (xad E 0)), (1, .int (iZ p0)), (2, .ref (xad E 96))]) hx hb dL_reachableCells_12 rfl hl (by decide) rfl (fun ls hl => ?_)
    refine x_iconst hx hb dL_reachableCells_13 ?_
    exact x_iret hx hb hr hlocks hH (Nat.le_of_ble_eq_true rfl) (Nat.le_of_ble_eq_true rfl) (Or.inr (⟨rfl, hp⟩)) dL_reachableCells_14
  · obtain ⟨f, h96⟩ := hP96 z u hp
    refine lv_i2l (v := (iZ z).toInt64) hx hb dL_reachableCells_7 rfl ?_
    refine x_last hx hb hK hH h96 dL_reachableCells_8 (fun u1 H locs e96 fr hH => ?_)
    refine lv_goto (tgt := 15) hx hb dL_reachableCells_9 (by decide) ?_
    refine x_iconst hx hb dL_reachableCells_15 ?_
    exact x_iret hx hb hr hlocks hH (Nat.le_of_ble_eq_true rfl) (Nat.le_of_ble_eq_true rfl) (Or.inl ⟨rfl, z, u, hp, e96, fr⟩) dL_reachableCells_16
def rm_L_nearestKey : Room := { frames := 8, cells := 2, slots := 12, locals := 136 }
set_option maxRecDepth 100000 in
set_option maxHeartbeats 4000000 in
theorem c_L_nearestKey (l : Launch) (E : xE) (ST : xST) (hSF : SF ST) (hSX : SX ST) (σ : xW) (p0 : Int) {P : Int → xW → Prop} {px : String → xW → Prop} (hM : XI l E ST yX6_nearestKey wsX6_nearestKey rm_X6_nearestKey [.ref (xad E 0), .int (iZ p0)] σ P px) {fs : List Value} (h0 : σ 0 = oB 4 fs) (hP96 : ∀ (z : Int) (u : xW), P z u → ∃ f : Nat → Int64, u 96 = .inl (xJ E, 1, .inr (.inl f))) (hpx : ∀ (n : String) (u : xW), px n u → n = "java/lang/IndexOutOfBoundsException" ∨ n = "java/util/NoSuchElementException") : CI l E ST yL_nearestKey wsL_nearestKey rm_L_nearestKey [.ref (xad E 0), .int (iZ p0), .ref (xad E 96)] σ (fun (z9 : Int) (u : xW) => (z9 = 0 ∧ ∃ (z : Int) (u0 : xW), P z u0 ∧ u 96 = oJ E (iZ z).toInt64 ∧ ∀ j : Nat, j ≠ 96 → u j = u0 j) ∨ (z9 = 1 ∧ px "java/lang/IndexOutOfBoundsException" u) ∨ (z9 = 2 ∧ px "java/util/NoSuchElementException" u)) := by
  refine CW_of (by decide) rfl (Nat.le_of_ble_eq_true rfl) ?_
  intro p e s m args below meth c Q ls G hH hl hQ
  obtain ⟨hx, hb, hml, hown, hts, hK, hST, hlocks, hr, htab⟩ := G
  have hOK := hSF.1
  have hown : s.vm.findClass RL = some m.cls := hown
  have hl : lv_has ls 4 [(0, .ref (xad E 0)), (1, .int (iZ p0)), (2, .ref (xad E 96))] := hl
  subst hQ
  refine lv_aload_n hx hb dL_nearestKey_0 rfl (lv_at hl 2 rfl) ?_
  refine x_iconst (n := 0) hx hb dL_nearestKey_1 ?_
  refine lv_aload_n hx hb dL_nearestKey_2 rfl (lv_at hl 0 rfl) ?_
  refine lv_iload_n hx hb dL_nearestKey_3 rfl (lv_at hl 1 rfl) ?_
  refine x_cXVI (As := [.int (iZ p0)]) (rest := [.int (iZ 0), .ref (xad E 96)]) hx hb hml hts hown hK hST hOK hH 0 hM (cwV 1 hts gL_nearestKey_X6_nearestKey rfl rfl rfl (by decide +kernel) ⟨Nat.le_of_ble_eq_true rfl, Nat.le_of_ble_eq_true rfl⟩) (by decide) h0 rfl rfl hl.1 rfl (Nat.le_of_ble_eq_true rfl) dL_nearestKey_4 ⟨Nat.le_of_ble_eq_true rfl, Nat.le_of_ble_eq_true rfl⟩ ?_ (fun z u H locs hp hH => ?_)
  · intro n ce q9 u H locs hp hH hce hcv hcl
    rcases hpx n u hp with rfl | rfl
    · refine x_catch hown hts hSX hST [] (0, 9, 12, 13) [(0, 9, 15, 47)] htab (by decide +kernel) (fun _ h => absurd h List.not_mem_nil) rfl (by decide) (List.mem_of_getElem? (i := 1) rfl) hce hcv hcl ?_
      refine lv_astore_n (lv' := (3, .ref q9) :: [(0, .ref (xad E 0)), (1, .int (iZ p0)), (2, .ref (xad E 96))]) hx hb dL_nearestKey_12 rfl hl (by decide) rfl (fun ls hl => ?_)
      refine x_iconst hx hb dL_nearestKey_13 ?_
      exact x_iret hx hb hr hlocks hH (Nat.le_of_ble_eq_true rfl) (Nat.le_of_ble_eq_true rfl) (Or.inr (Or.inl (⟨rfl, hp⟩))) dL_nearestKey_14
    · refine x_catch hown hts hSX hST [(0, 9, 12, 13)] (0, 9, 15, 47) [] htab (by decide +kernel) (List.forall_mem_cons.mpr ⟨⟨by decide, "java/lang/IndexOutOfBoundsException", (List.mem_of_getElem? (i := 1) rfl), by decide +kernel, by decide +kernel⟩, (fun _ h => absurd h List.not_mem_nil)⟩) rfl (by decide) (List.mem_of_getElem? (i := 2) rfl) hce hcv hcl ?_
      refine lv_astore_n (lv' := (3, .ref q9) :: [(0, .ref (xad E 0)), (1, .int (iZ p0)), (2, .ref (xad E 96))]) hx hb dL_nearestKey_15 rfl hl (by decide) rfl (fun ls hl => ?_)
      refine x_iconst hx hb dL_nearestKey_16 ?_
      exact x_iret hx hb hr hlocks hH (Nat.le_of_ble_eq_true rfl) (Nat.le_of_ble_eq_true rfl) (Or.inr (Or.inr (⟨rfl, hp⟩))) dL_nearestKey_17
  · obtain ⟨f, h96⟩ := hP96 z u hp
    refine lv_i2l (v := (iZ z).toInt64) hx hb dL_nearestKey_7 rfl ?_
    refine x_last hx hb hK hH h96 dL_nearestKey_8 (fun u1 H locs e96 fr hH => ?_)
    refine lv_goto (tgt := 18) hx hb dL_nearestKey_9 (by decide) ?_
    refine x_iconst hx hb dL_nearestKey_18 ?_
    exact x_iret hx hb hr hlocks hH (Nat.le_of_ble_eq_true rfl) (Nat.le_of_ble_eq_true rfl) (Or.inl ⟨rfl, z, u, hp, e96, fr⟩) dL_nearestKey_19
def rm_L_helpfulShifts : Room := { frames := 8, cells := 2, slots := 12, locals := 137 }
set_option maxRecDepth 100000 in
set_option maxHeartbeats 4000000 in
theorem c_L_helpfulShifts (l : Launch) (E : xE) (ST : xST) (hSF : SF ST) (hSX : SX ST) (σ : xW) (p0 p1 p2 : Int) {P : Int → xW → Prop} {px : String → xW → Prop} (hM : XI l E ST yX6_helpfulShifts wsX6_helpfulShifts rm_X6_helpfulShifts [.ref (xad E 0), .int (iZ p0), .int (iZ p1), .int (iZ p2)] σ P px) {fs : List Value} (h0 : σ 0 = oB 4 fs) (hP96 : ∀ (z : Int) (u : xW), P z u → ∃ f : Nat → Int64, u 96 = .inl (xJ E, 1, .inr (.inl f))) (hpx : ∀ (n : String) (u : xW), px n u → n = "java/lang/IndexOutOfBoundsException") : CI l E ST yL_helpfulShifts wsL_helpfulShifts rm_L_helpfulShifts [.ref (xad E 0), .int (iZ p0), .int (iZ p1), .int (iZ p2), .ref (xad E 96)] σ (fun (z9 : Int) (u : xW) => (z9 = 0 ∧ ∃ (z : Int) (u0 : xW), P z u0 ∧ u 96 = oJ E (iZ z).toInt64 ∧ ∀ j : Nat, j ≠ 96 → u j = u0 j) ∨ (z9 = 1 ∧ px "java/lang/IndexOutOfBoundsException" u)) := by
  refine CW_of (by decide) rfl (Nat.le_of_ble_eq_true rfl) ?_
  intro p e s m args below meth c Q ls G hH hl hQ
  obtain ⟨hx, hb, hml, hown, hts, hK, hST, hlocks, hr, htab⟩ := G
  have hOK := hSF.1
  have hown : s.vm.findClass RL = some m.cls := hown
  have hl : lv_has ls 6 [(0, .ref (xad E 0)), (1, .int (iZ p0)), (2, .int (iZ p1)), (3, .int (iZ p2)), (4, .ref (xad E 96))] := hl
  subst hQ
  refine lv_aload hx hb dL_helpfulShifts_0 (lv_at hl 4 rfl) ?_
  refine x_iconst (n := 0) hx hb dL_helpfulShifts_2 ?_
  refine lv_aload_n hx hb dL_helpfulShifts_3 rfl (lv_at hl 0 rfl) ?_
  refine lv_iload_n hx hb dL_helpfulShifts_4 rfl (lv_at hl 1 rfl) ?_
  refine lv_iload_n hx hb dL_helpfulShifts_5 rfl (lv_at hl 2 rfl) ?_
  refine lv_iload_n hx hb dL_helpfulShifts_6 rfl (lv_at hl 3 rfl) ?_
  refine x_cXVI (As := [.int (iZ p0), .int (iZ p1), .int (iZ p2)]) (rest := [.int (iZ 0), .ref (xad E 96)]) hx hb hml hts hown hK hST hOK hH 0 hM (cwV 3 hts gL_helpfulShifts_X6_helpfulShifts rfl rfl rfl (by decide +kernel) ⟨Nat.le_of_ble_eq_true rfl, Nat.le_of_ble_eq_true rfl⟩) (by decide) h0 rfl rfl hl.1 rfl (Nat.le_of_ble_eq_true rfl) dL_helpfulShifts_7 ⟨Nat.le_of_ble_eq_true rfl, Nat.le_of_ble_eq_true rfl⟩ ?_ (fun z u H locs hp hH => ?_)
  · intro n ce q9 u H locs hp hH hce hcv hcl
    have e9 := hpx n u hp
    subst e9
    refine x_catch hown hts hSX hST [] (0, 12, 15, 13) [] htab (by decide +kernel) (fun _ h => absurd h List.not_mem_nil) rfl (by decide) (List.mem_of_getElem? (i := 1) rfl) hce hcv hcl ?_
    refine lv_astore (lv' := (5, .ref q9) :: [(0, .ref (xad E 0)), (1, .int (iZ p0)), (2, .int (iZ p1)), (3, .int (iZ p2)), (4, .ref (xad E 96))]) hx hb dL_helpfulShifts_15 hl (by decide) rfl (fun ls hl => ?_)
    refine x_iconst hx hb dL_helpfulShifts_17 ?_
    exact x_iret hx hb hr hlocks hH (Nat.le_of_ble_eq_true rfl) (Nat.le_of_ble_eq_true rfl) (Or.inr (⟨rfl, hp⟩)) dL_helpfulShifts_18
  · obtain ⟨f, h96⟩ := hP96 z u hp
    refine lv_i2l (v := (iZ z).toInt64) hx hb dL_helpfulShifts_10 rfl ?_
    refine x_last hx hb hK hH h96 dL_helpfulShifts_11 (fun u1 H locs e96 fr hH => ?_)
    refine lv_goto (tgt := 19) hx hb dL_helpfulShifts_12 (by decide) ?_
    refine x_iconst hx hb dL_helpfulShifts_19 ?_
    exact x_iret hx hb hr hlocks hH (Nat.le_of_ble_eq_true rfl) (Nat.le_of_ble_eq_true rfl) (Or.inl ⟨rfl, z, u, hp, e96, fr⟩) dL_helpfulShifts_20
def rm_L_reachableShare : Room := { frames := 8, cells := 1, slots := 6, locals := 132 }
set_option maxRecDepth 100000 in
set_option maxHeartbeats 4000000 in
theorem c_L_reachableShare (l : Launch) (E : xE) (ST : xST) (hSF : SF ST) (hSX : SX ST) (σ : xW) (p0 : Int) {P : UInt32 → xW → Prop} {px : String → xW → Prop} (hM : XF l E ST yX6_reachableShare wsX6_reachableShare rm_X6_reachableShare [.ref (xad E 0), .int (iZ p0)] σ P px) {fs : List Value} (h0 : σ 0 = oB 4 fs) (hP97 : ∀ (z : UInt32) (u : xW), P z u → ∃ f : Nat → UInt64, u 97 = .inl (xDb E, 1, .inr (.inr (.inr (.inl f))))) (hPn : ∀ (z : UInt32) (u : xW), P z u → vf_n64 (FP.f2d z)) (hpx : ∀ (n : String) (u : xW), px n u → n = "java/lang/IndexOutOfBoundsException") : CI l E ST yL_reachableShare wsL_reachableShare rm_L_reachableShare [.ref (xad E 0), .int (iZ p0), .ref (xad E 97)] σ (fun (z9 : Int) (u : xW) => (z9 = 0 ∧ ∃ (z : UInt32) (u0 : xW), P z u0 ∧ u 97 = oD E (FP.f2d z) ∧ ∀ j : Nat, j ≠ 97 → u j = u0 j) ∨ (z9 = 1 ∧ px "java/lang/IndexOutOfBoundsException" u)) := by
  refine CW_of (by decide) rfl (Nat.le_of_ble_eq_true rfl) ?_
  intro p e s m args below meth c Q ls G hH hl hQ
  obtain ⟨hx, hb, hml, hown, hts, hK, hST, hlocks, hr, htab⟩ := G
  have hOK := hSF.1
  have hown : s.vm.findClass RL = some m.cls := hown
  have hl : lv_has ls 4 [(0, .ref (xad E 0)), (1, .int (iZ p0)), (2, .ref (xad E 97))] := hl
  subst hQ
  refine lv_aload_n hx hb dL_reachableShare_0 rfl (lv_at hl 2 rfl) ?_
  refine x_iconst (n := 0) hx hb dL_reachableShare_1 ?_
  refine lv_aload_n hx hb dL_reachableShare_2 rfl (lv_at hl 0 rfl) ?_
  refine lv_iload_n hx hb dL_reachableShare_3 rfl (lv_at hl 1 rfl) ?_
  refine x_cXVF (As := [.int (iZ p0)]) (rest := [.int (iZ 0), .ref (xad E 97)]) hx hb hml hts hown hK hST hOK hH 0 hM (cwV 1 hts gL_reachableShare_X6_reachableShare rfl rfl rfl (by decide +kernel) ⟨Nat.le_of_ble_eq_true rfl, Nat.le_of_ble_eq_true rfl⟩) (by decide) h0 rfl rfl hl.1 rfl (Nat.le_of_ble_eq_true rfl) dL_reachableShare_4 ⟨Nat.le_of_ble_eq_true rfl, Nat.le_of_ble_eq_true rfl⟩ ?_ (fun z u H locs hp hH => ?_)
  · intro n ce q9 u H locs hp hH hce hcv hcl
    have e9 := hpx n u hp
    subst e9
    refine x_catch hown hts hSX hST [] (0, 9, 12, 13) [] htab (by decide +kernel) (fun _ h => absurd h List.not_mem_nil) rfl (by decide) (List.mem_of_getElem? (i := 1) rfl) hce hcv hcl ?_
    refine lv_astore_n (lv' := (3, .ref q9) :: [(0, .ref (xad E 0)), (1, .int (iZ p0)), (2, .ref (xad E 97))]) hx hb dL_reachableShare_12 rfl hl (by decide) rfl (fun ls hl => ?_)
    refine x_iconst hx hb dL_reachableShare_13 ?_
    exact x_iret hx hb hr hlocks hH (Nat.le_of_ble_eq_true rfl) (Nat.le_of_ble_eq_true rfl) (Or.inr (⟨rfl, hp⟩)) dL_reachableShare_14
  · obtain ⟨f, h97⟩ := hP97 z u hp
    refine lv_f2d hx hb dL_reachableShare_7 (hPn z u hp) ?_
    refine x_dast hx hb hK hH h97 dL_reachableShare_8 (fun u1 H locs e97 fr hH => ?_)
    refine lv_goto (tgt := 15) hx hb dL_reachableShare_9 (by decide) ?_
    refine x_iconst hx hb dL_reachableShare_15 ?_
    exact x_iret hx hb hr hlocks hH (Nat.le_of_ble_eq_true rfl) (Nat.le_of_ble_eq_true rfl) (Or.inl ⟨rfl, z, u, hp, e97, fr⟩) dL_reachableShare_16
def rm_L_append : Room := { frames := 7, cells := 1, slots := 6, locals := 111 }
set_option maxRecDepth 100000 in
set_option maxHeartbeats 4000000 in
theorem c_L_append (l : Launch) (E : xE) (ST : xST) (hSF : SF ST) (hSX : SX ST) (σ : xW) (p0 : Int) {P : Int → xW → Prop} {px : String → xW → Prop} (hM : XI l E ST yX6_append wsX6_append rm_X6_append [.ref (xad E 0), .int (iZ p0)] σ P px) {fs : List Value} (h0 : σ 0 = oB 4 fs) (hP96 : ∀ (z : Int) (u : xW), P z u → ∃ f : Nat → Int64, u 96 = .inl (xJ E, 1, .inr (.inl f))) (hpx : ∀ (n : String) (u : xW), px n u → n = "java/lang/IllegalStateException") : CI l E ST yL_append wsL_append rm_L_append [.ref (xad E 0), .int (iZ p0), .ref (xad E 96)] σ (fun (z9 : Int) (u : xW) => (z9 = 0 ∧ ∃ (z : Int) (u0 : xW), P z u0 ∧ u 96 = oJ E (iZ z).toInt64 ∧ ∀ j : Nat, j ≠ 96 → u j = u0 j) ∨ (z9 = 1 ∧ px "java/lang/IllegalStateException" u)) := by
  refine CW_of (by decide) rfl (Nat.le_of_ble_eq_true rfl) ?_
  intro p e s m args below meth c Q ls G hH hl hQ
  obtain ⟨hx, hb, hml, hown, hts, hK, hST, hlocks, hr, htab⟩ := G
  have hOK := hSF.1
  have hown : s.vm.findClass RL = some m.cls := hown
  have hl : lv_has ls 4 [(0, .ref (xad E 0)), (1, .int (iZ p0)), (2, .ref (xad E 96))] := hl
  subst hQ
  refine lv_aload_n hx hb dL_append_0 rfl (lv_at hl 2 rfl) ?_
  refine x_iconst (n := 0) hx hb dL_append_1 ?_
  refine lv_aload_n hx hb dL_append_2 rfl (lv_at hl 0 rfl) ?_
  refine lv_iload_n hx hb dL_append_3 rfl (lv_at hl 1 rfl) ?_
  refine x_cXVI (As := [.int (iZ p0)]) (rest := [.int (iZ 0), .ref (xad E 96)]) hx hb hml hts hown hK hST hOK hH 0 hM (cwV 1 hts gL_append_X6_append rfl rfl rfl (by decide +kernel) ⟨Nat.le_of_ble_eq_true rfl, Nat.le_of_ble_eq_true rfl⟩) (by decide) h0 rfl rfl hl.1 rfl (Nat.le_of_ble_eq_true rfl) dL_append_4 ⟨Nat.le_of_ble_eq_true rfl, Nat.le_of_ble_eq_true rfl⟩ ?_ (fun z u H locs hp hH => ?_)
  · intro n ce q9 u H locs hp hH hce hcv hcl
    have e9 := hpx n u hp
    subst e9
    refine x_catch hown hts hSX hST [] (0, 9, 12, 20) [] htab (by decide +kernel) (fun _ h => absurd h List.not_mem_nil) rfl (by decide) (List.mem_of_getElem? (i := 1) rfl) hce hcv hcl ?_
    refine lv_astore_n (lv' := (3, .ref q9) :: [(0, .ref (xad E 0)), (1, .int (iZ p0)), (2, .ref (xad E 96))]) hx hb dL_append_12 rfl hl (by decide) rfl (fun ls hl => ?_)
    refine x_iconst hx hb dL_append_13 ?_
    exact x_iret hx hb hr hlocks hH (Nat.le_of_ble_eq_true rfl) (Nat.le_of_ble_eq_true rfl) (Or.inr (⟨rfl, hp⟩)) dL_append_14
  · obtain ⟨f, h96⟩ := hP96 z u hp
    refine lv_i2l (v := (iZ z).toInt64) hx hb dL_append_7 rfl ?_
    refine x_last hx hb hK hH h96 dL_append_8 (fun u1 H locs e96 fr hH => ?_)
    refine lv_goto (tgt := 15) hx hb dL_append_9 (by decide) ?_
    refine x_iconst hx hb dL_append_15 ?_
    exact x_iret hx hb hr hlocks hH (Nat.le_of_ble_eq_true rfl) (Nat.le_of_ble_eq_true rfl) (Or.inl ⟨rfl, z, u, hp, e96, fr⟩) dL_append_16
def rm_L_run : Room := { frames := 8, cells := 1, slots := 6, locals := 188 }
set_option maxRecDepth 100000 in
set_option maxHeartbeats 4000000 in
theorem c_L_run (l : Launch) (E : xE) (ST : xST) (hSF : SF ST) (hSX : SX ST) (σ : xW) {P : Int → xW → Prop} {px : String → xW → Prop} (hM : XI l E ST yX6_run wsX6_run rm_X6_run [.ref (xad E 0)] σ P px) {fs : List Value} (h0 : σ 0 = oB 4 fs) (hP96 : ∀ (z : Int) (u : xW), P z u → ∃ f : Nat → Int64, u 96 = .inl (xJ E, 1, .inr (.inl f))) (hpx : ∀ (n : String) (u : xW), px n u → n = "java/lang/IllegalArgumentException" ∨ n = "java/lang/UnsupportedOperationException") : CI l E ST yL_run wsL_run rm_L_run [.ref (xad E 0), .ref (xad E 96)] σ (fun (z9 : Int) (u : xW) => (z9 = 0 ∧ ∃ (z : Int) (u0 : xW), P z u0 ∧ u 96 = oJ E (iZ z).toInt64 ∧ ∀ j : Nat, j ≠ 96 → u j = u0 j) ∨ (z9 = 1 ∧ px "java/lang/IllegalArgumentException" u) ∨ (z9 = 2 ∧ px "java/lang/UnsupportedOperationException" u)) := by
  refine CW_of (by decide) rfl (Nat.le_of_ble_eq_true rfl) ?_
  intro p e s m args below meth c Q ls G hH hl hQ
  obtain ⟨hx, hb, hml, hown, hts, hK, hST, hlocks, hr, htab⟩ := G
  have hOK := hSF.1
  have hown : s.vm.findClass RL = some m.cls := hown
  have hl : lv_has ls 3 [(0, .ref (xad E 0)), (1, .ref (xad E 96))] := hl
  subst hQ
  refine lv_aload_n hx hb dL_run_0 rfl (lv_at hl 1 rfl) ?_
  refine x_iconst (n := 0) hx hb dL_run_1 ?_
  refine lv_aload_n hx hb dL_run_2 rfl (lv_at hl 0 rfl) ?_
  refine x_cXVI (As := []) (rest := [.int (iZ 0), .ref (xad E 96)]) hx hb hml hts hown hK hST hOK hH 0 hM (cwV 0 hts gL_run_X6_run rfl rfl rfl (by decide +kernel) ⟨Nat.le_of_ble_eq_true rfl, Nat.le_of_ble_eq_true rfl⟩) (by decide) h0 rfl rfl hl.1 rfl (Nat.le_of_ble_eq_true rfl) dL_run_3 ⟨Nat.le_of_ble_eq_true rfl, Nat.le_of_ble_eq_true rfl⟩ ?_ (fun z u H locs hp hH => ?_)
  · intro n ce q9 u H locs hp hH hce hcv hcl
    rcases hpx n u hp with rfl | rfl
    · refine x_catch hown hts hSX hST [] (0, 8, 11, 15) [(0, 8, 14, 52)] htab (by decide +kernel) (fun _ h => absurd h List.not_mem_nil) rfl (by decide) (List.mem_of_getElem? (i := 1) rfl) hce hcv hcl ?_
      refine lv_astore_n (lv' := (2, .ref q9) :: [(0, .ref (xad E 0)), (1, .ref (xad E 96))]) hx hb dL_run_11 rfl hl (by decide) rfl (fun ls hl => ?_)
      refine x_iconst hx hb dL_run_12 ?_
      exact x_iret hx hb hr hlocks hH (Nat.le_of_ble_eq_true rfl) (Nat.le_of_ble_eq_true rfl) (Or.inr (Or.inl (⟨rfl, hp⟩))) dL_run_13
    · refine x_catch hown hts hSX hST [(0, 8, 11, 15)] (0, 8, 14, 52) [] htab (by decide +kernel) (List.forall_mem_cons.mpr ⟨⟨by decide, "java/lang/IllegalArgumentException", (List.mem_of_getElem? (i := 1) rfl), by decide +kernel, by decide +kernel⟩, (fun _ h => absurd h List.not_mem_nil)⟩) rfl (by decide) (List.mem_of_getElem? (i := 2) rfl) hce hcv hcl ?_
      refine lv_astore_n (lv' := (2, .ref q9) :: [(0, .ref (xad E 0)), (1, .ref (xad E 96))]) hx hb dL_run_14 rfl hl (by decide) rfl (fun ls hl => ?_)
      refine x_iconst hx hb dL_run_15 ?_
      exact x_iret hx hb hr hlocks hH (Nat.le_of_ble_eq_true rfl) (Nat.le_of_ble_eq_true rfl) (Or.inr (Or.inr (⟨rfl, hp⟩))) dL_run_16
  · obtain ⟨f, h96⟩ := hP96 z u hp
    refine lv_i2l (v := (iZ z).toInt64) hx hb dL_run_6 rfl ?_
    refine x_last hx hb hK hH h96 dL_run_7 (fun u1 H locs e96 fr hH => ?_)
    refine lv_goto (tgt := 17) hx hb dL_run_8 (by decide) ?_
    refine x_iconst hx hb dL_run_17 ?_
    exact x_iret hx hb hr hlocks hH (Nat.le_of_ble_eq_true rfl) (Nat.le_of_ble_eq_true rfl) (Or.inl ⟨rfl, z, u, hp, e96, fr⟩) dL_run_18
def rm_L_errorPosition : Room := { frames := 7, cells := 1, slots := 6, locals := 110 }
set_option maxRecDepth 100000 in
set_option maxHeartbeats 4000000 in
theorem c_L_errorPosition (l : Launch) (E : xE) (ST : xST) (hSF : SF ST) (hSX : SX ST) (σ : xW) {P : Int → xW → Prop} {px : String → xW → Prop} (hM : XI l E ST yX6_errorPosition wsX6_errorPosition rm_X6_errorPosition [.ref (xad E 0)] σ P px) {fs : List Value} (h0 : σ 0 = oB 4 fs) (hP96 : ∀ (z : Int) (u : xW), P z u → ∃ f : Nat → Int64, u 96 = .inl (xJ E, 1, .inr (.inl f))) (hpx : ∀ (n : String) (u : xW), px n u → n = "java/util/NoSuchElementException") : CI l E ST yL_errorPosition wsL_errorPosition rm_L_errorPosition [.ref (xad E 0), .ref (xad E 96)] σ (fun (z9 : Int) (u : xW) => (z9 = 0 ∧ ∃ (z : Int) (u0 : xW), P z u0 ∧ u 96 = oJ E (iZ z).toInt64 ∧ ∀ j : Nat, j ≠ 96 → u j = u0 j) ∨ (z9 = 1 ∧ px "java/util/NoSuchElementException" u)) := by
  refine CW_of (by decide) rfl (Nat.le_of_ble_eq_true rfl) ?_
  intro p e s m args below meth c Q ls G hH hl hQ
  obtain ⟨hx, hb, hml, hown, hts, hK, hST, hlocks, hr, htab⟩ := G
  have hOK := hSF.1
  have hown : s.vm.findClass RL = some m.cls := hown
  have hl : lv_has ls 3 [(0, .ref (xad E 0)), (1, .ref (xad E 96))] := hl
  subst hQ
  refine lv_aload_n hx hb dL_errorPosition_0 rfl (lv_at hl 1 rfl) ?_
  refine x_iconst (n := 0) hx hb dL_errorPosition_1 ?_
  refine lv_aload_n hx hb dL_errorPosition_2 rfl (lv_at hl 0 rfl) ?_
  refine x_cXVI (As := []) (rest := [.int (iZ 0), .ref (xad E 96)]) hx hb hml hts hown hK hST hOK hH 0 hM (cwV 0 hts gL_errorPosition_X6_errorPosition rfl rfl rfl (by decide +kernel) ⟨Nat.le_of_ble_eq_true rfl, Nat.le_of_ble_eq_true rfl⟩) (by decide) h0 rfl rfl hl.1 rfl (Nat.le_of_ble_eq_true rfl) dL_errorPosition_3 ⟨Nat.le_of_ble_eq_true rfl, Nat.le_of_ble_eq_true rfl⟩ ?_ (fun z u H locs hp hH => ?_)
  · intro n ce q9 u H locs hp hH hce hcv hcl
    have e9 := hpx n u hp
    subst e9
    refine x_catch hown hts hSX hST [] (0, 8, 11, 47) [] htab (by decide +kernel) (fun _ h => absurd h List.not_mem_nil) rfl (by decide) (List.mem_of_getElem? (i := 1) rfl) hce hcv hcl ?_
    refine lv_astore_n (lv' := (2, .ref q9) :: [(0, .ref (xad E 0)), (1, .ref (xad E 96))]) hx hb dL_errorPosition_11 rfl hl (by decide) rfl (fun ls hl => ?_)
    refine x_iconst hx hb dL_errorPosition_12 ?_
    exact x_iret hx hb hr hlocks hH (Nat.le_of_ble_eq_true rfl) (Nat.le_of_ble_eq_true rfl) (Or.inr (⟨rfl, hp⟩)) dL_errorPosition_13
  · obtain ⟨f, h96⟩ := hP96 z u hp
    refine lv_i2l (v := (iZ z).toInt64) hx hb dL_errorPosition_6 rfl ?_
    refine x_last hx hb hK hH h96 dL_errorPosition_7 (fun u1 H locs e96 fr hH => ?_)
    refine lv_goto (tgt := 14) hx hb dL_errorPosition_8 (by decide) ?_
    refine x_iconst hx hb dL_errorPosition_14 ?_
    exact x_iret hx hb hr hlocks hH (Nat.le_of_ble_eq_true rfl) (Nat.le_of_ble_eq_true rfl) (Or.inl ⟨rfl, z, u, hp, e96, fr⟩) dL_errorPosition_15
def rm_L_failedCommand : Room := { frames := 7, cells := 1, slots := 6, locals := 110 }
set_option maxRecDepth 100000 in
set_option maxHeartbeats 4000000 in
theorem c_L_failedCommand (l : Launch) (E : xE) (ST : xST) (hSF : SF ST) (hSX : SX ST) (σ : xW) {P : Int → xW → Prop} {px : String → xW → Prop} (hM : XI l E ST yX6_failedCommand wsX6_failedCommand rm_X6_failedCommand [.ref (xad E 0)] σ P px) {fs : List Value} (h0 : σ 0 = oB 4 fs) (hP96 : ∀ (z : Int) (u : xW), P z u → ∃ f : Nat → Int64, u 96 = .inl (xJ E, 1, .inr (.inl f))) (hpx : ∀ (n : String) (u : xW), px n u → n = "java/util/NoSuchElementException") : CI l E ST yL_failedCommand wsL_failedCommand rm_L_failedCommand [.ref (xad E 0), .ref (xad E 96)] σ (fun (z9 : Int) (u : xW) => (z9 = 0 ∧ ∃ (z : Int) (u0 : xW), P z u0 ∧ u 96 = oJ E (iZ z).toInt64 ∧ ∀ j : Nat, j ≠ 96 → u j = u0 j) ∨ (z9 = 1 ∧ px "java/util/NoSuchElementException" u)) := by
  refine CW_of (by decide) rfl (Nat.le_of_ble_eq_true rfl) ?_
  intro p e s m args below meth c Q ls G hH hl hQ
  obtain ⟨hx, hb, hml, hown, hts, hK, hST, hlocks, hr, htab⟩ := G
  have hOK := hSF.1
  have hown : s.vm.findClass RL = some m.cls := hown
  have hl : lv_has ls 3 [(0, .ref (xad E 0)), (1, .ref (xad E 96))] := hl
  subst hQ
  refine lv_aload_n hx hb dL_failedCommand_0 rfl (lv_at hl 1 rfl) ?_
  refine x_iconst (n := 0) hx hb dL_failedCommand_1 ?_
  refine lv_aload_n hx hb dL_failedCommand_2 rfl (lv_at hl 0 rfl) ?_
  refine x_cXVI (As := []) (rest := [.int (iZ 0), .ref (xad E 96)]) hx hb hml hts hown hK hST hOK hH 0 hM (cwV 0 hts gL_failedCommand_X6_failedCommand rfl rfl rfl (by decide +kernel) ⟨Nat.le_of_ble_eq_true rfl, Nat.le_of_ble_eq_true rfl⟩) (by decide) h0 rfl rfl hl.1 rfl (Nat.le_of_ble_eq_true rfl) dL_failedCommand_3 ⟨Nat.le_of_ble_eq_true rfl, Nat.le_of_ble_eq_true rfl⟩ ?_ (fun z u H locs hp hH => ?_)
  · intro n ce q9 u H locs hp hH hce hcv hcl
    have e9 := hpx n u hp
    subst e9
    refine x_catch hown hts hSX hST [] (0, 8, 11, 47) [] htab (by decide +kernel) (fun _ h => absurd h List.not_mem_nil) rfl (by decide) (List.mem_of_getElem? (i := 1) rfl) hce hcv hcl ?_
    refine lv_astore_n (lv' := (2, .ref q9) :: [(0, .ref (xad E 0)), (1, .ref (xad E 96))]) hx hb dL_failedCommand_11 rfl hl (by decide) rfl (fun ls hl => ?_)
    refine x_iconst hx hb dL_failedCommand_12 ?_
    exact x_iret hx hb hr hlocks hH (Nat.le_of_ble_eq_true rfl) (Nat.le_of_ble_eq_true rfl) (Or.inr (⟨rfl, hp⟩)) dL_failedCommand_13
  · obtain ⟨f, h96⟩ := hP96 z u hp
    refine lv_i2l (v := (iZ z).toInt64) hx hb dL_failedCommand_6 rfl ?_
    refine x_last hx hb hK hH h96 dL_failedCommand_7 (fun u1 H locs e96 fr hH => ?_)
    refine lv_goto (tgt := 14) hx hb dL_failedCommand_8 (by decide) ?_
    refine x_iconst hx hb dL_failedCommand_14 ?_
    exact x_iret hx hb hr hlocks hH (Nat.le_of_ble_eq_true rfl) (Nat.le_of_ble_eq_true rfl) (Or.inl ⟨rfl, z, u, hp, e96, fr⟩) dL_failedCommand_15
def rm_L_writeRow : Room := { frames := 8, cells := 1, slots := 6, locals := 133 }
set_option maxRecDepth 100000 in
set_option maxHeartbeats 4000000 in
theorem c_L_writeRow (l : Launch) (E : xE) (ST : xST) (hSF : SF ST) (hSX : SX ST) (σ : xW) (p0 : Int) {P : Int → xW → Prop} {px : String → xW → Prop} (hM : XI l E ST yX6_writeRow wsX6_writeRow rm_X6_writeRow [.ref (xad E 0), .int (iZ p0)] σ P px) {fs : List Value} (h0 : σ 0 = oB 4 fs) (hP96 : ∀ (z : Int) (u : xW), P z u → ∃ f : Nat → Int64, u 96 = .inl (xJ E, 1, .inr (.inl f))) (hpx : ∀ (n : String) (u : xW), px n u → n = "java/lang/IndexOutOfBoundsException") : CI l E ST yL_writeRow wsL_writeRow rm_L_writeRow [.ref (xad E 0), .int (iZ p0), .ref (xad E 96)] σ (fun (z9 : Int) (u : xW) => (z9 = 0 ∧ ∃ (z : Int) (u0 : xW), P z u0 ∧ u 96 = oJ E (iZ z).toInt64 ∧ ∀ j : Nat, j ≠ 96 → u j = u0 j) ∨ (z9 = 1 ∧ px "java/lang/IndexOutOfBoundsException" u)) := by
  refine CW_of (by decide) rfl (Nat.le_of_ble_eq_true rfl) ?_
  intro p e s m args below meth c Q ls G hH hl hQ
  obtain ⟨hx, hb, hml, hown, hts, hK, hST, hlocks, hr, htab⟩ := G
  have hOK := hSF.1
  have hown : s.vm.findClass RL = some m.cls := hown
  have hl : lv_has ls 4 [(0, .ref (xad E 0)), (1, .int (iZ p0)), (2, .ref (xad E 96))] := hl
  subst hQ
  refine lv_aload_n hx hb dL_writeRow_0 rfl (lv_at hl 2 rfl) ?_
  refine x_iconst (n := 0) hx hb dL_writeRow_1 ?_
  refine lv_aload_n hx hb dL_writeRow_2 rfl (lv_at hl 0 rfl) ?_
  refine lv_iload_n hx hb dL_writeRow_3 rfl (lv_at hl 1 rfl) ?_
  refine x_cXVI (As := [.int (iZ p0)]) (rest := [.int (iZ 0), .ref (xad E 96)]) hx hb hml hts hown hK hST hOK hH 0 hM (cwV 1 hts gL_writeRow_X6_writeRow rfl rfl rfl (by decide +kernel) ⟨Nat.le_of_ble_eq_true rfl, Nat.le_of_ble_eq_true rfl⟩) (by decide) h0 rfl rfl hl.1 rfl (Nat.le_of_ble_eq_true rfl) dL_writeRow_4 ⟨Nat.le_of_ble_eq_true rfl, Nat.le_of_ble_eq_true rfl⟩ ?_ (fun z u H locs hp hH => ?_)
  · intro n ce q9 u H locs hp hH hce hcv hcl
    have e9 := hpx n u hp
    subst e9
    refine x_catch hown hts hSX hST [] (0, 9, 12, 13) [] htab (by decide +kernel) (fun _ h => absurd h List.not_mem_nil) rfl (by decide) (List.mem_of_getElem? (i := 1) rfl) hce hcv hcl ?_
    refine lv_astore_n (lv' := (3, .ref q9) :: [(0, .ref (xad E 0)), (1, .int (iZ p0)), (2, .ref (xad E 96))]) hx hb dL_writeRow_12 rfl hl (by decide) rfl (fun ls hl => ?_)
    refine x_iconst hx hb dL_writeRow_13 ?_
    exact x_iret hx hb hr hlocks hH (Nat.le_of_ble_eq_true rfl) (Nat.le_of_ble_eq_true rfl) (Or.inr (⟨rfl, hp⟩)) dL_writeRow_14
  · obtain ⟨f, h96⟩ := hP96 z u hp
    refine lv_i2l (v := (iZ z).toInt64) hx hb dL_writeRow_7 rfl ?_
    refine x_last hx hb hK hH h96 dL_writeRow_8 (fun u1 H locs e96 fr hH => ?_)
    refine lv_goto (tgt := 15) hx hb dL_writeRow_9 (by decide) ?_
    refine x_iconst hx hb dL_writeRow_15 ?_
    exact x_iret hx hb hr hlocks hH (Nat.le_of_ble_eq_true rfl) (Nat.le_of_ble_eq_true rfl) (Or.inl ⟨rfl, z, u, hp, e96, fr⟩) dL_writeRow_16
def rm_L_outputAt : Room := { frames := 7, cells := 1, slots := 6, locals := 111 }
set_option maxRecDepth 100000 in
set_option maxHeartbeats 4000000 in
theorem c_L_outputAt (l : Launch) (E : xE) (ST : xST) (hSF : SF ST) (hSX : SX ST) (σ : xW) (p0 : Int) {P : Int → xW → Prop} {px : String → xW → Prop} (hM : XI l E ST yX6_outputAt wsX6_outputAt rm_X6_outputAt [.ref (xad E 0), .int (iZ p0)] σ P px) {fs : List Value} (h0 : σ 0 = oB 4 fs) (hP96 : ∀ (z : Int) (u : xW), P z u → ∃ f : Nat → Int64, u 96 = .inl (xJ E, 1, .inr (.inl f))) (hpx : ∀ (n : String) (u : xW), px n u → n = "java/lang/IndexOutOfBoundsException") : CI l E ST yL_outputAt wsL_outputAt rm_L_outputAt [.ref (xad E 0), .int (iZ p0), .ref (xad E 96)] σ (fun (z9 : Int) (u : xW) => (z9 = 0 ∧ ∃ (z : Int) (u0 : xW), P z u0 ∧ u 96 = oJ E (iZ z).toInt64 ∧ ∀ j : Nat, j ≠ 96 → u j = u0 j) ∨ (z9 = 1 ∧ px "java/lang/IndexOutOfBoundsException" u)) := by
  refine CW_of (by decide) rfl (Nat.le_of_ble_eq_true rfl) ?_
  intro p e s m args below meth c Q ls G hH hl hQ
  obtain ⟨hx, hb, hml, hown, hts, hK, hST, hlocks, hr, htab⟩ := G
  have hOK := hSF.1
  have hown : s.vm.findClass RL = some m.cls := hown
  have hl : lv_has ls 4 [(0, .ref (xad E 0)), (1, .int (iZ p0)), (2, .ref (xad E 96))] := hl
  subst hQ
  refine lv_aload_n hx hb dL_outputAt_0 rfl (lv_at hl 2 rfl) ?_
  refine x_iconst (n := 0) hx hb dL_outputAt_1 ?_
  refine lv_aload_n hx hb dL_outputAt_2 rfl (lv_at hl 0 rfl) ?_
  refine lv_iload_n hx hb dL_outputAt_3 rfl (lv_at hl 1 rfl) ?_
  refine x_cXVI (As := [.int (iZ p0)]) (rest := [.int (iZ 0), .ref (xad E 96)]) hx hb hml hts hown hK hST hOK hH 0 hM (cwV 1 hts gL_outputAt_X6_outputAt rfl rfl rfl (by decide +kernel) ⟨Nat.le_of_ble_eq_true rfl, Nat.le_of_ble_eq_true rfl⟩) (by decide) h0 rfl rfl hl.1 rfl (Nat.le_of_ble_eq_true rfl) dL_outputAt_4 ⟨Nat.le_of_ble_eq_true rfl, Nat.le_of_ble_eq_true rfl⟩ ?_ (fun z u H locs hp hH => ?_)
  · intro n ce q9 u H locs hp hH hce hcv hcl
    have e9 := hpx n u hp
    subst e9
    refine x_catch hown hts hSX hST [] (0, 9, 12, 13) [] htab (by decide +kernel) (fun _ h => absurd h List.not_mem_nil) rfl (by decide) (List.mem_of_getElem? (i := 1) rfl) hce hcv hcl ?_
    refine lv_astore_n (lv' := (3, .ref q9) :: [(0, .ref (xad E 0)), (1, .int (iZ p0)), (2, .ref (xad E 96))]) hx hb dL_outputAt_12 rfl hl (by decide) rfl (fun ls hl => ?_)
    refine x_iconst hx hb dL_outputAt_13 ?_
    exact x_iret hx hb hr hlocks hH (Nat.le_of_ble_eq_true rfl) (Nat.le_of_ble_eq_true rfl) (Or.inr (⟨rfl, hp⟩)) dL_outputAt_14
  · obtain ⟨f, h96⟩ := hP96 z u hp
    refine lv_i2l (v := (iZ z).toInt64) hx hb dL_outputAt_7 rfl ?_
    refine x_last hx hb hK hH h96 dL_outputAt_8 (fun u1 H locs e96 fr hH => ?_)
    refine lv_goto (tgt := 15) hx hb dL_outputAt_9 (by decide) ?_
    refine x_iconst hx hb dL_outputAt_15 ?_
    exact x_iret hx hb hr hlocks hH (Nat.le_of_ble_eq_true rfl) (Nat.le_of_ble_eq_true rfl) (Or.inl ⟨rfl, z, u, hp, e96, fr⟩) dL_outputAt_16
def rm_L_undo : Room := { frames := 7, cells := 1, slots := 6, locals := 110 }
set_option maxRecDepth 100000 in
set_option maxHeartbeats 4000000 in
theorem c_L_undo (l : Launch) (E : xE) (ST : xST) (hSF : SF ST) (hSX : SX ST) (σ : xW) {P : Int → xW → Prop} {px : String → xW → Prop} (hM : XI l E ST yX6_undo wsX6_undo rm_X6_undo [.ref (xad E 0)] σ P px) {fs : List Value} (h0 : σ 0 = oB 4 fs) (hP96 : ∀ (z : Int) (u : xW), P z u → ∃ f : Nat → Int64, u 96 = .inl (xJ E, 1, .inr (.inl f))) (hpx : ∀ (n : String) (u : xW), px n u → n = "java/lang/IllegalStateException") : CI l E ST yL_undo wsL_undo rm_L_undo [.ref (xad E 0), .ref (xad E 96)] σ (fun (z9 : Int) (u : xW) => (z9 = 0 ∧ ∃ (z : Int) (u0 : xW), P z u0 ∧ u 96 = oJ E (iZ z).toInt64 ∧ ∀ j : Nat, j ≠ 96 → u j = u0 j) ∨ (z9 = 1 ∧ px "java/lang/IllegalStateException" u)) := by
  refine CW_of (by decide) rfl (Nat.le_of_ble_eq_true rfl) ?_
  intro p e s m args below meth c Q ls G hH hl hQ
  obtain ⟨hx, hb, hml, hown, hts, hK, hST, hlocks, hr, htab⟩ := G
  have hOK := hSF.1
  have hown : s.vm.findClass RL = some m.cls := hown
  have hl : lv_has ls 3 [(0, .ref (xad E 0)), (1, .ref (xad E 96))] := hl
  subst hQ
  refine lv_aload_n hx hb dL_undo_0 rfl (lv_at hl 1 rfl) ?_
  refine x_iconst (n := 0) hx hb dL_undo_1 ?_
  refine lv_aload_n hx hb dL_undo_2 rfl (lv_at hl 0 rfl) ?_
  refine x_cXVI (As := []) (rest := [.int (iZ 0), .ref (xad E 96)]) hx hb hml hts hown hK hST hOK hH 0 hM (cwV 0 hts gL_undo_X6_undo rfl rfl rfl (by decide +kernel) ⟨Nat.le_of_ble_eq_true rfl, Nat.le_of_ble_eq_true rfl⟩) (by decide) h0 rfl rfl hl.1 rfl (Nat.le_of_ble_eq_true rfl) dL_undo_3 ⟨Nat.le_of_ble_eq_true rfl, Nat.le_of_ble_eq_true rfl⟩ ?_ (fun z u H locs hp hH => ?_)
  · intro n ce q9 u H locs hp hH hce hcv hcl
    have e9 := hpx n u hp
    subst e9
    refine x_catch hown hts hSX hST [] (0, 8, 11, 20) [] htab (by decide +kernel) (fun _ h => absurd h List.not_mem_nil) rfl (by decide) (List.mem_of_getElem? (i := 1) rfl) hce hcv hcl ?_
    refine lv_astore_n (lv' := (2, .ref q9) :: [(0, .ref (xad E 0)), (1, .ref (xad E 96))]) hx hb dL_undo_11 rfl hl (by decide) rfl (fun ls hl => ?_)
    refine x_iconst hx hb dL_undo_12 ?_
    exact x_iret hx hb hr hlocks hH (Nat.le_of_ble_eq_true rfl) (Nat.le_of_ble_eq_true rfl) (Or.inr (⟨rfl, hp⟩)) dL_undo_13
  · obtain ⟨f, h96⟩ := hP96 z u hp
    refine lv_i2l (v := (iZ z).toInt64) hx hb dL_undo_6 rfl ?_
    refine x_last hx hb hK hH h96 dL_undo_7 (fun u1 H locs e96 fr hH => ?_)
    refine lv_goto (tgt := 14) hx hb dL_undo_8 (by decide) ?_
    refine x_iconst hx hb dL_undo_14 ?_
    exact x_iret hx hb hr hlocks hH (Nat.le_of_ble_eq_true rfl) (Nat.le_of_ble_eq_true rfl) (Or.inl ⟨rfl, z, u, hp, e96, fr⟩) dL_undo_15
def rm_L_restore : Room := { frames := 7, cells := 1, slots := 6, locals := 110 }
set_option maxRecDepth 100000 in
set_option maxHeartbeats 4000000 in
theorem c_L_restore (l : Launch) (E : xE) (ST : xST) (hSF : SF ST) (hSX : SX ST) (σ : xW) {P : xW → Prop} {px : String → xW → Prop} (hM : XV l E ST yX6_restore wsX6_restore rm_X6_restore [.ref (xad E 0)] σ P px) {fs : List Value} (h0 : σ 0 = oB 4 fs) (hpx : ∀ (n : String) (u : xW), px n u → n = "java/lang/IllegalStateException") : CI l E ST yL_restore wsL_restore rm_L_restore [.ref (xad E 0)] σ (fun (z9 : Int) (u : xW) => (z9 = 0 ∧ P u) ∨ (z9 = 1 ∧ px "java/lang/IllegalStateException" u)) := by
  refine CW_of (by decide) rfl (Nat.le_of_ble_eq_true rfl) ?_
  intro p e s m args below meth c Q ls G hH hl hQ
  obtain ⟨hx, hb, hml, hown, hts, hK, hST, hlocks, hr, htab⟩ := G
  have hOK := hSF.1
  have hown : s.vm.findClass RL = some m.cls := hown
  have hl : lv_has ls 2 [(0, .ref (xad E 0))] := hl
  subst hQ
  refine lv_aload_n hx hb dL_restore_0 rfl (lv_at hl 0 rfl) ?_
  refine x_cXVV (As := []) (rest := []) hx hb hml hts hown hK hST hOK hH 0 hM (cwV 0 hts gL_restore_X6_restore rfl rfl rfl (by decide +kernel) ⟨Nat.le_of_ble_eq_true rfl, Nat.le_of_ble_eq_true rfl⟩) (by decide) h0 rfl rfl hl.1 rfl (Nat.le_of_ble_eq_true rfl) dL_restore_1 ⟨Nat.le_of_ble_eq_true rfl, Nat.le_of_ble_eq_true rfl⟩ ?_ (fun u H locs hp hH => ?_)
  · intro n ce q9 u H locs hp hH hce hcv hcl
    have e9 := hpx n u hp
    subst e9
    refine x_catch hown hts hSX hST [] (0, 4, 7, 20) [] htab (by decide +kernel) (fun _ h => absurd h List.not_mem_nil) rfl (by decide) (List.mem_of_getElem? (i := 1) rfl) hce hcv hcl ?_
    refine lv_astore_n (lv' := (1, .ref q9) :: [(0, .ref (xad E 0))]) hx hb dL_restore_7 rfl hl (by decide) rfl (fun ls hl => ?_)
    refine x_iconst hx hb dL_restore_8 ?_
    exact x_iret hx hb hr hlocks hH (Nat.le_of_ble_eq_true rfl) (Nat.le_of_ble_eq_true rfl) (Or.inr (⟨rfl, hp⟩)) dL_restore_9
  · refine lv_goto (tgt := 10) hx hb dL_restore_4 (by decide) ?_
    refine x_iconst hx hb dL_restore_10 ?_
    exact x_iret hx hb hr hlocks hH (Nat.le_of_ble_eq_true rfl) (Nat.le_of_ble_eq_true rfl) (Or.inl ⟨rfl, hp⟩) dL_restore_11
