def rm_L_asked_1n : Room := { frames := 7, cells := 1, slots := 6, locals := 113 }
set_option maxRecDepth 100000 in
set_option maxHeartbeats 4000000 in
theorem c_L_asked_1n (l : Launch) (E : xE) (ST : xST) (hSF : SF ST) (hSX : SX ST) (htr : l.stackTraces = false) (σ : xW) (a : Int) (b : Int) (c7 : Int) (B : BT) (S : Option BT) (Y : lnQ) (hr0 : cw E σ B S Y) (hok : okC a b) (hlk : lkT B (a * 5 + b) = -1) : XI l E ST yL_asked wML_asked rm_L_asked_1n [.ref (xad E 0), .int (iZ 1), .int (iZ a), .int (iZ b), .int (iZ c7)] σ (fun (z : Int) (u : xW) => (False) ∧ u = σ) (fun (n : String) (u : xW) => ((n = "java/util/NoSuchElementException" ∧ True)) ∧ u = σ) := by
  have fcw_0 : cw E σ B S Y := hr0
  refine XI_of (by decide) rfl (Nat.le_of_ble_eq_true rfl) ?_
  intro p e s m args below meth c Q ls G hH hl hQ
  obtain ⟨hx, hb, hml, hown, hts, hK, hST, hlocks, hr, hno⟩ := G
  have hOK := hSF.1
  have hown : s.vm.findClass RL = some m.cls := hown
  have hl : lv_has ls 5 [(0, .ref (xad E 0)), (1, .int (iZ 1)), (2, .int (iZ a)), (3, .int (iZ b)), (4, .int (iZ c7))] := hl
  refine lv_iload_n hx hb dL_asked_0 rfl (lv_at hl 1 rfl) ?_
  refine x_tableIn (tgt := 75) hx hb 1 rfl (by decide) dL_asked_1 (by decide) (by decide) rfl (by decide) ?_
  refine lv_aload_n hx hb dL_asked_75 rfl (lv_at hl 0 rfl) ?_
  refine lv_iload_n hx hb dL_asked_76 rfl (lv_at hl 2 rfl) ?_
  refine lv_iload_n hx hb dL_asked_77 rfl (lv_at hl 3 rfl) ?_
  obtain ⟨fs9, hfs9⟩ := fcw_0.o0
  refine x_cXVIE (As := [.int (iZ a), .int (iZ b)]) (rest := []) hx hb hml hts hown hK hST hOK hH 0 (q_lockAt1 l E ST hSF htr σ a b B S Y fcw_0 (by omega) (by omega) (by omega)) (cwV 2 hts (goodIn_t (goodIn_x gK_76)) rfl rfl rfl (by decide +kernel) ⟨Nat.le_of_ble_eq_true rfl, Nat.le_of_ble_eq_true rfl⟩) (ltw (by decide)) hfs9 rfl rfl hl.1 rfl (Nat.le_of_ble_eq_true rfl) dL_asked_78 ⟨Nat.le_of_ble_eq_true rfl, Nat.le_of_ble_eq_true rfl⟩ ?_ (fun z u h => h) (fun σ2 H locs hp3 hH => ?_)
  · intro nx ce q9 σ2 H locs hp3 hH hce hcv hcl
    subst hQ
    obtain ⟨hn, hu⟩ := hp3
    rw [hu] at hH
    exact x_out hno hlocks hH hce hcv hcl ⟨(by exact ⟨hn.1, trivial⟩), rfl⟩ (Nat.le_of_ble_eq_true rfl) (Nat.le_of_ble_eq_true rfl)
  · obtain ⟨hf4, hu5⟩ := hp3
    rw [hu5] at hH
    subst hQ
    exact x_ireX hx hb hr hlocks hH (Nat.le_of_ble_eq_true rfl) (Nat.le_of_ble_eq_true rfl) ⟨(by omega), rfl⟩ dL_asked_81

def rm_L_asked_1y : Room := { frames := 3, cells := 0, slots := 0, locals := 64 }
set_option maxRecDepth 100000 in
set_option maxHeartbeats 4000000 in
theorem c_L_asked_1y (l : Launch) (E : xE) (ST : xST) (hSF : SF ST) (hSX : SX ST) (σ : xW) (a : Int) (b : Int) (c7 : Int) (B : BT) (S : Option BT) (Y : lnQ) (hr0 : cw E σ B S Y) (hok : okC a b) (hlk : ¬ lkT B (a * 5 + b) = -1) : CI l E ST yL_asked wML_asked rm_L_asked_1y [.ref (xad E 0), .int (iZ 1), .int (iZ a), .int (iZ b), .int (iZ c7)] σ (fun (z : Int) (u : xW) => z = 97 + lkT B (a * 5 + b) ∧ u = σ) := by
  have fcw_0 : cw E σ B S Y := hr0
  refine CI_of (by decide) rfl (Nat.le_of_ble_eq_true rfl) ?_
  intro p e s m args below meth c Q ls G hH hl hQ
  obtain ⟨hx, hb, hml, hown, hts, hK, hST, hlocks, hr, hno⟩ := G
  have hOK := hSF.1
  have hown : s.vm.findClass RL = some m.cls := hown
  have hl : lv_has ls 5 [(0, .ref (xad E 0)), (1, .int (iZ 1)), (2, .int (iZ a)), (3, .int (iZ b)), (4, .int (iZ c7))] := hl
  refine lv_iload_n hx hb dL_asked_0 rfl (lv_at hl 1 rfl) ?_
  refine x_tableIn (tgt := 75) hx hb 1 rfl (by decide) dL_asked_1 (by decide) (by decide) rfl (by decide) ?_
  refine lv_aload_n hx hb dL_asked_75 rfl (lv_at hl 0 rfl) ?_
  refine lv_iload_n hx hb dL_asked_76 rfl (lv_at hl 2 rfl) ?_
  refine lv_iload_n hx hb dL_asked_77 rfl (lv_at hl 3 rfl) ?_
  obtain ⟨fs9, hfs9⟩ := fcw_0.o0
  refine x_cVID (As := [.int (iZ a), .int (iZ b)]) (rest := []) hx hb hml hts hown hK hST hOK hH 0 (q_lockAt0 l E ST hSF σ a b B S Y fcw_0 (by omega) (by omega) (by omega) (by omega)) (cwV 2 hts (goodIn_t (goodIn_x gK_76)) rfl rfl rfl (by decide +kernel) ⟨Nat.le_of_ble_eq_true rfl, Nat.le_of_ble_eq_true rfl⟩) (ltw (by decide)) hfs9 rfl rfl hl.1 rfl (Nat.le_of_ble_eq_true rfl) dL_asked_78 ⟨Nat.le_of_ble_eq_true rfl, Nat.le_of_ble_eq_true rfl⟩ (fun z u h => h) (fun H locs hH => ?_)
  subst hQ
  exact x_iret hx hb hr hlocks hH (Nat.le_of_ble_eq_true rfl) (Nat.le_of_ble_eq_true rfl) ⟨(show (97 + (lkT B) (a * 5 + b)) = (97 + lkT B (a * 5 + b)) from (by first | rfl | omega | simp_all)), rfl⟩ dL_asked_81

def rm_L_asked_3 : Room := { frames := 8, cells := 1, slots := 6, locals := 133 }
set_option maxRecDepth 100000 in
set_option maxHeartbeats 4000000 in
theorem c_L_asked_3 (l : Launch) (E : xE) (ST : xST) (hSF : SF ST) (hSX : SX ST) (htr : l.stackTraces = false) (σ : xW) (a : Int) (b : Int) (c7 : Int) (B : BT) (S : Option BT) (Y : lnQ) (hr0 : cw E σ B S Y) (hk : 0 ≤ a ∧ a ≤ 5) : XI l E ST yL_asked wML_asked rm_L_asked_3 [.ref (xad E 0), .int (iZ 3), .int (iZ a), .int (iZ b), .int (iZ c7)] σ (fun (z : Int) (u : xW) => z = kpT B a ∧ (0 ≤ kpT B a ∧ kpT B a < 25) ∧ u = σ) (fun (n : String) (u : xW) => ((n = "java/util/NoSuchElementException" ∧ ¬ (0 ≤ kpT B a ∧ kpT B a < 25))) ∧ u = σ) := by
  have fcw_0 : cw E σ B S Y := hr0
  refine XI_of (by decide) rfl (Nat.le_of_ble_eq_true rfl) ?_
  intro p e s m args below meth c Q ls G hH hl hQ
  obtain ⟨hx, hb, hml, hown, hts, hK, hST, hlocks, hr, hno⟩ := G
  have hOK := hSF.1
  have hown : s.vm.findClass RL = some m.cls := hown
  have hl : lv_has ls 5 [(0, .ref (xad E 0)), (1, .int (iZ 3)), (2, .int (iZ a)), (3, .int (iZ b)), (4, .int (iZ c7))] := hl
  have e97 : 97 + a - 97 = a := by omega
  refine lv_iload_n hx hb dL_asked_0 rfl (lv_at hl 1 rfl) ?_
  refine x_tableIn (tgt := 94) hx hb 3 rfl (by decide) dL_asked_1 (by decide) (by decide) rfl (by decide) ?_
  refine lv_aload_n hx hb dL_asked_94 rfl (lv_at hl 0 rfl) ?_
  refine x_bipush hx hb dL_asked_95 (by decide) ?_
  refine lv_iload_n hx hb dL_asked_97 rfl (lv_at hl 2 rfl) ?_
  refine x_iadd hx hb dL_asked_98 ?_
  refine x_i2c hx hb dL_asked_99 ?_
  rw [i2cZ_in (by omega) (by omega)]
  obtain ⟨fs9, hfs9⟩ := fcw_0.o0
  refine x_cXVIE (As := [.int (iZ (97 + a))]) (rest := []) hx hb hml hts hown hK hST hOK hH 0 (q_keyRow1 l E ST hSF htr σ (97 + a) B S Y fcw_0 (by omega) (by omega)) (cwV 1 hts (goodIn_t (goodIn_x gK_87)) rfl rfl rfl (by decide +kernel) ⟨Nat.le_of_ble_eq_true rfl, Nat.le_of_ble_eq_true rfl⟩) (ltw (by decide)) hfs9 rfl rfl hl.1 rfl (Nat.le_of_ble_eq_true rfl) dL_asked_100 ⟨Nat.le_of_ble_eq_true rfl, Nat.le_of_ble_eq_true rfl⟩ ?_ (fun z u h => h) (fun σ2 H locs hp3 hH => ?_)
  · intro nx ce q9 σ2 H locs hp3 hH hce hcv hcl
    subst hQ
    obtain ⟨hn, hu⟩ := hp3
    rw [hu] at hH
    exact x_out hno hlocks hH hce hcv hcl ⟨(by rw [e97] at hn; exact hn), rfl⟩ (Nat.le_of_ble_eq_true rfl) (Nat.le_of_ble_eq_true rfl)
  · obtain ⟨hf4, hu5⟩ := hp3
    rw [hu5] at hH
    refine x_iconst hx hb dL_asked_103 ?_
    refine x_imul hx hb dL_asked_104 ?_
    refine lv_aload_n hx hb dL_asked_105 rfl (lv_at hl 0 rfl) ?_
    refine x_bipush hx hb dL_asked_106 (by decide) ?_
    refine lv_iload_n hx hb dL_asked_108 rfl (lv_at hl 2 rfl) ?_
    refine x_iadd hx hb dL_asked_109 ?_
    refine x_i2c hx hb dL_asked_110 ?_
    rw [i2cZ_in (by omega) (by omega)]
    obtain ⟨fs9, hfs9⟩ := fcw_0.o0
    refine x_cVID (As := [.int (iZ (97 + a))]) (rest := [.int (iZ (((kpT B) ((97 + a) - 97) / 5) * 5))]) hx hb hml hts hown hK hST hOK hH 0 (q_keyColumn0 l E ST hSF σ (97 + a) B S Y fcw_0 (by omega) (by omega) (by omega)) (cwV 1 hts (goodIn_t (goodIn_x gK_91)) rfl rfl rfl (by decide +kernel) ⟨Nat.le_of_ble_eq_true rfl, Nat.le_of_ble_eq_true rfl⟩) (ltw (by decide)) hfs9 rfl rfl hl.1 rfl (Nat.le_of_ble_eq_true rfl) dL_asked_111 ⟨Nat.le_of_ble_eq_true rfl, Nat.le_of_ble_eq_true rfl⟩ (fun z u h => h) (fun H locs hH => ?_)
    refine x_iadd hx hb dL_asked_114 ?_
    subst hQ
    exact x_ireX hx hb hr hlocks hH (Nat.le_of_ble_eq_true rfl) (Nat.le_of_ble_eq_true rfl) ⟨(show ((((kpT B) ((97 + a) - 97) / 5) * 5) + ((kpT B) ((97 + a) - 97) % 5)) = (kpT B a) from (by rw [e97]; omega)), (by rw [e97] at *; assumption), rfl⟩ dL_asked_115

def rm_L_asked_4 : Room := { frames := 7, cells := 1, slots := 6, locals := 112 }
set_option maxRecDepth 100000 in
set_option maxHeartbeats 4000000 in
theorem c_L_asked_4 (l : Launch) (E : xE) (ST : xST) (hSF : SF ST) (hSX : SX ST) (htr : l.stackTraces = false) (σ : xW) (a : Int) (b : Int) (c7 : Int) (B : BT) (S : Option BT) (Y : lnQ) (hr0 : cw E σ B S Y) (hk : 0 ≤ a ∧ a ≤ 5) : XI l E ST yL_asked wML_asked rm_L_asked_4 [.ref (xad E 0), .int (iZ 4), .int (iZ a), .int (iZ b), .int (iZ c7)] σ (fun (z : Int) (u : xW) => z = kpT B a - 25 ∧ (25 ≤ kpT B a) ∧ u = σ) (fun (n : String) (u : xW) => ((n = "java/util/NoSuchElementException" ∧ kpT B a < 25)) ∧ u = σ) := by
  have fcw_0 : cw E σ B S Y := hr0
  refine XI_of (by decide) rfl (Nat.le_of_ble_eq_true rfl) ?_
  intro p e s m args below meth c Q ls G hH hl hQ
  obtain ⟨hx, hb, hml, hown, hts, hK, hST, hlocks, hr, hno⟩ := G
  have hOK := hSF.1
  have hown : s.vm.findClass RL = some m.cls := hown
  have hl : lv_has ls 5 [(0, .ref (xad E 0)), (1, .int (iZ 4)), (2, .int (iZ a)), (3, .int (iZ b)), (4, .int (iZ c7))] := hl
  have e97 : 97 + a - 97 = a := by omega
  refine lv_iload_n hx hb dL_asked_0 rfl (lv_at hl 1 rfl) ?_
  refine x_tableIn (tgt := 116) hx hb 4 rfl (by decide) dL_asked_1 (by decide) (by decide) rfl (by decide) ?_
  refine lv_aload_n hx hb dL_asked_116 rfl (lv_at hl 0 rfl) ?_
  refine x_bipush hx hb dL_asked_117 (by decide) ?_
  refine lv_iload_n hx hb dL_asked_119 rfl (lv_at hl 2 rfl) ?_
  refine x_iadd hx hb dL_asked_120 ?_
  refine x_i2c hx hb dL_asked_121 ?_
  rw [i2cZ_in (by omega) (by omega)]
  obtain ⟨fs9, hfs9⟩ := fcw_0.o0
  refine x_cXVIE (As := [.int (iZ (97 + a))]) (rest := []) hx hb hml hts hown hK hST hOK hH 0 (q_carrierOf1 l E ST hSF htr σ (97 + a) B S Y fcw_0 (by omega) (by omega)) (cwV 1 hts (goodIn_t (goodIn_x gK_94)) rfl rfl rfl (by decide +kernel) ⟨Nat.le_of_ble_eq_true rfl, Nat.le_of_ble_eq_true rfl⟩) (ltw (by decide)) hfs9 rfl rfl hl.1 rfl (Nat.le_of_ble_eq_true rfl) dL_asked_122 ⟨Nat.le_of_ble_eq_true rfl, Nat.le_of_ble_eq_true rfl⟩ ?_ (fun z u h => h) (fun σ2 H locs hp3 hH => ?_)
  · intro nx ce q9 σ2 H locs hp3 hH hce hcv hcl
    subst hQ
    obtain ⟨hn, hu⟩ := hp3
    rw [hu] at hH
    exact x_out hno hlocks hH hce hcv hcl ⟨(by rw [e97] at hn; exact hn), rfl⟩ (Nat.le_of_ble_eq_true rfl) (Nat.le_of_ble_eq_true rfl)
  · obtain ⟨hf4, hu5⟩ := hp3
    rw [hu5] at hH
    subst hQ
    exact x_ireX hx hb hr hlocks hH (Nat.le_of_ble_eq_true rfl) (Nat.le_of_ble_eq_true rfl) ⟨(show ((kpT B) ((97 + a) - 97) - 25) = (kpT B a - 25) from (by rw [e97])), (by rw [e97] at *; assumption), rfl⟩ dL_asked_125

def rm_L_asked_5 : Room := { frames := 8, cells := 1, slots := 6, locals := 134 }
set_option maxRecDepth 100000 in
set_option maxHeartbeats 4000000 in
theorem c_L_asked_5 (l : Launch) (E : xE) (ST : xST) (hSF : SF ST) (hSX : SX ST) (htr : l.stackTraces = false) (σ : xW) (a : Int) (b : Int) (c7 : Int) (B : BT) (S : Option BT) (Y : lnQ) (hr0 : cw E σ B S Y) (hok : okC a b) (hwc : 0 ≤ c7 ∧ c7 < nwT B) : XI l E ST yL_asked wML_asked rm_L_asked_5 [.ref (xad E 0), .int (iZ 5), .int (iZ a), .int (iZ b), .int (iZ c7)] σ (fun (z : Int) (u : xW) => z = (dz (Gw (opT B) (lkT B) (kpT B) c7) (wcT B c7) (a * 5 + b)) ∧ (cw E u B S Y ∧ ((dz (Gw (opT B) (lkT B) (kpT B) c7) (wcT B c7) (a * 5 + b)) < 25)) ∧ ∀ j : Nat, (j < 0 ∨ 0 + 85 ≤ j) → u j = σ j) (fun (n : String) (u : xW) => ((n = "java/util/NoSuchElementException" ∧ 25 ≤ (dz (Gw (opT B) (lkT B) (kpT B) c7) (wcT B c7) (a * 5 + b)))) ∧ (cw E u B S Y) ∧ ∀ j : Nat, (j < 0 ∨ 0 + 85 ≤ j) → u j = σ j) := by
  have fcw_0 : cw E σ B S Y := hr0
  refine XI_of (by decide) rfl (Nat.le_of_ble_eq_true rfl) ?_
  intro p e s m args below meth c Q ls G hH hl hQ
  obtain ⟨hx, hb, hml, hown, hts, hK, hST, hlocks, hr, hno⟩ := G
  have hOK := hSF.1
  have hown : s.vm.findClass RL = some m.cls := hown
  have hl : lv_has ls 5 [(0, .ref (xad E 0)), (1, .int (iZ 5)), (2, .int (iZ a)), (3, .int (iZ b)), (4, .int (iZ c7))] := hl
  obtain ⟨-, -, -, -, -, hnw⟩ : BI (opT B) (lkT B) (kpT B) (wcT B) (pnT B) (nwT B) := fcw_0.bit
  refine lv_iload_n hx hb dL_asked_0 rfl (lv_at hl 1 rfl) ?_
  refine x_tableIn (tgt := 126) hx hb 5 rfl (by decide) dL_asked_1 (by decide) (by decide) rfl (by decide) ?_
  refine lv_aload_n hx hb dL_asked_126 rfl (lv_at hl 0 rfl) ?_
  refine lv_iload hx hb dL_asked_127 (lv_at hl 4 rfl) ?_
  refine lv_iload_n hx hb dL_asked_129 rfl (lv_at hl 2 rfl) ?_
  refine lv_iload_n hx hb dL_asked_130 rfl (lv_at hl 3 rfl) ?_
  obtain ⟨fs9, hfs9⟩ := fcw_0.o0
  refine x_cXVIE (As := [.int (iZ c7), .int (iZ a), .int (iZ b)]) (rest := []) hx hb hml hts hown hK hST hOK hH 0 (q_pathLength1 l E ST hSF htr σ c7 a b B S Y fcw_0 (by omega) (by omega) (by omega) (by omega) (by omega)) (cwV 3 hts (goodIn_t (goodIn_x gK_97)) rfl rfl rfl (by decide +kernel) ⟨Nat.le_of_ble_eq_true rfl, Nat.le_of_ble_eq_true rfl⟩) (ltw (by decide)) hfs9 rfl rfl hl.1 rfl (Nat.le_of_ble_eq_true rfl) dL_asked_131 ⟨Nat.le_of_ble_eq_true rfl, Nat.le_of_ble_eq_true rfl⟩ ?_ (fun z u h => h) (fun σ2 H locs hp3 hH => ?_)
  · intro nx ce q9 σ2 H locs hp3 hH hce hcv hcl
    subst hQ
    obtain ⟨hn, fcw_0, fr4⟩ := hp3
    exact x_out hno hlocks hH hce hcv hcl ⟨(by first | exact hn | simp_all | omega), fcw_0, fun j hj0 => (fr4 j (by omega))⟩ (Nat.le_of_ble_eq_true rfl) (Nat.le_of_ble_eq_true rfl)
  · obtain ⟨⟨fcw_0, hf6⟩, fr5⟩ := hp3
    subst hQ
    exact x_ireX hx hb hr hlocks hH (Nat.le_of_ble_eq_true rfl) (Nat.le_of_ble_eq_true rfl) ⟨(show (dz (Gw (opT B) (lkT B) (kpT B) c7) ((wcT B) c7) (a * 5 + b)) = (dz (Gw (opT B) (lkT B) (kpT B) c7) (wcT B c7) (a * 5 + b)) from (by rfl)), ⟨fcw_0, (by first | assumption | omega | simp_all)⟩, fun j hj0 => (fr5 j (by omega))⟩ dL_asked_134

def rm_L_asked_6 : Room := { frames := 8, cells := 1, slots := 6, locals := 134 }
set_option maxRecDepth 100000 in
set_option maxHeartbeats 4000000 in
theorem c_L_asked_6 (l : Launch) (E : xE) (ST : xST) (hSF : SF ST) (hSX : SX ST) (htr : l.stackTraces = false) (σ : xW) (a : Int) (b : Int) (c7 : Int) (B : BT) (S : Option BT) (Y : lnQ) (hr0 : cw E σ B S Y) (hok : okC a b) (hwc : 0 ≤ c7 ∧ c7 < nwT B) : XI l E ST yL_asked wML_asked rm_L_asked_6 [.ref (xad E 0), .int (iZ 6), .int (iZ a), .int (iZ b), .int (iZ c7)] σ (fun (z : Int) (u : xW) => z = (dz (Gw (opT B) (lkT B) (kpT B) c7) (wcT B c7) (a * 5 + b)) ∧ (cw E u B S Y ∧ ((dz (Gw (opT B) (lkT B) (kpT B) c7) (wcT B c7) (a * 5 + b)) < 25)) ∧ ∀ j : Nat, (j < 0 ∨ 0 + 85 ≤ j) → u j = σ j) (fun (n : String) (u : xW) => ((n = "java/util/NoSuchElementException" ∧ 25 ≤ (dz (Gw (opT B) (lkT B) (kpT B) c7) (wcT B c7) (a * 5 + b)))) ∧ (cw E u B S Y) ∧ ∀ j : Nat, (j < 0 ∨ 0 + 85 ≤ j) → u j = σ j) := by
  have fcw_0 : cw E σ B S Y := hr0
  refine XI_of (by decide) rfl (Nat.le_of_ble_eq_true rfl) ?_
  intro p e s m args below meth c Q ls G hH hl hQ
  obtain ⟨hx, hb, hml, hown, hts, hK, hST, hlocks, hr, hno⟩ := G
  have hOK := hSF.1
  have hown : s.vm.findClass RL = some m.cls := hown
  have hl : lv_has ls 5 [(0, .ref (xad E 0)), (1, .int (iZ 6)), (2, .int (iZ a)), (3, .int (iZ b)), (4, .int (iZ c7))] := hl
  obtain ⟨-, -, -, -, -, hnw⟩ : BI (opT B) (lkT B) (kpT B) (wcT B) (pnT B) (nwT B) := fcw_0.bit
  refine lv_iload_n hx hb dL_asked_0 rfl (lv_at hl 1 rfl) ?_
  refine x_tableIn (tgt := 135) hx hb 6 rfl (by decide) dL_asked_1 (by decide) (by decide) rfl (by decide) ?_
  refine lv_aload_n hx hb dL_asked_135 rfl (lv_at hl 0 rfl) ?_
  refine lv_iload hx hb dL_asked_136 (lv_at hl 4 rfl) ?_
  refine lv_iload_n hx hb dL_asked_138 rfl (lv_at hl 2 rfl) ?_
  refine lv_iload_n hx hb dL_asked_139 rfl (lv_at hl 3 rfl) ?_
  obtain ⟨fs9, hfs9⟩ := fcw_0.o0
  refine x_cXVIE (As := [.int (iZ c7), .int (iZ a), .int (iZ b)]) (rest := []) hx hb hml hts hown hK hST hOK hH 0 (q_pathLengthByRounds1 l E ST hSF htr σ c7 a b B S Y fcw_0 (by omega) (by omega) (by omega) (by omega) (by omega)) (cwV 3 hts (goodIn_t (goodIn_x gK_100)) rfl rfl rfl (by decide +kernel) ⟨Nat.le_of_ble_eq_true rfl, Nat.le_of_ble_eq_true rfl⟩) (ltw (by decide)) hfs9 rfl rfl hl.1 rfl (Nat.le_of_ble_eq_true rfl) dL_asked_140 ⟨Nat.le_of_ble_eq_true rfl, Nat.le_of_ble_eq_true rfl⟩ ?_ (fun z u h => h) (fun σ2 H locs hp3 hH => ?_)
  · intro nx ce q9 σ2 H locs hp3 hH hce hcv hcl
    subst hQ
    obtain ⟨hn, fcw_0, fr4⟩ := hp3
    exact x_out hno hlocks hH hce hcv hcl ⟨(by first | exact hn | simp_all | omega), fcw_0, fun j hj0 => (fr4 j (by omega))⟩ (Nat.le_of_ble_eq_true rfl) (Nat.le_of_ble_eq_true rfl)
  · obtain ⟨⟨fcw_0, hf6⟩, fr5⟩ := hp3
    subst hQ
    exact x_ireX hx hb hr hlocks hH (Nat.le_of_ble_eq_true rfl) (Nat.le_of_ble_eq_true rfl) ⟨(show (dz (Gw (opT B) (lkT B) (kpT B) c7) ((wcT B) c7) (a * 5 + b)) = (dz (Gw (opT B) (lkT B) (kpT B) c7) (wcT B c7) (a * 5 + b)) from (by rfl)), ⟨fcw_0, (by first | assumption | omega | simp_all)⟩, fun j hj0 => (fr5 j (by omega))⟩ dL_asked_143

def rm_L_asked_7 : Room := { frames := 8, cells := 2, slots := 12, locals := 134 }
set_option maxRecDepth 100000 in
set_option maxHeartbeats 4000000 in
theorem c_L_asked_7 (l : Launch) (E : xE) (ST : xST) (hSF : SF ST) (hSX : SX ST) (htr : l.stackTraces = false) (σ : xW) (a : Int) (b : Int) (c7 : Int) (B : BT) (S : Option BT) (Y : lnQ) (hr0 : cw E σ B S Y) (hok : okC a b) (hwc : 0 ≤ c7 ∧ c7 < nwT B) : XI l E ST yL_asked wML_asked rm_L_asked_7 [.ref (xad E 0), .int (iZ 7), .int (iZ a), .int (iZ b), .int (iZ c7)] σ (fun (z : Int) (u : xW) => z = (fz (Gw (opT B) (lkT B) (kpT B) c7) (wcT B c7) (a * 5 + b)) ∧ (cw E u B S Y ∧ ((dz (Gw (opT B) (lkT B) (kpT B) c7) (wcT B c7) (a * 5 + b)) < 25) ∧ (¬ (dz (Gw (opT B) (lkT B) (kpT B) c7) (wcT B c7) (a * 5 + b)) = 0)) ∧ ∀ j : Nat, (j < 0 ∨ 0 + 85 ≤ j) → u j = σ j) (fun (n : String) (u : xW) => ((n = "java/util/NoSuchElementException" ∧ (25 ≤ (dz (Gw (opT B) (lkT B) (kpT B) c7) (wcT B c7) (a * 5 + b)) ∨ (dz (Gw (opT B) (lkT B) (kpT B) c7) (wcT B c7) (a * 5 + b)) = 0))) ∧ (cw E u B S Y) ∧ ∀ j : Nat, (j < 0 ∨ 0 + 85 ≤ j) → u j = σ j) := by
  have fcw_0 : cw E σ B S Y := hr0
  refine XI_of (by decide) rfl (Nat.le_of_ble_eq_true rfl) ?_
  intro p e s m args below meth c Q ls G hH hl hQ
  obtain ⟨hx, hb, hml, hown, hts, hK, hST, hlocks, hr, hno⟩ := G
  have hOK := hSF.1
  have hown : s.vm.findClass RL = some m.cls := hown
  have hl : lv_has ls 5 [(0, .ref (xad E 0)), (1, .int (iZ 7)), (2, .int (iZ a)), (3, .int (iZ b)), (4, .int (iZ c7))] := hl
  obtain ⟨-, -, -, -, -, hnw⟩ : BI (opT B) (lkT B) (kpT B) (wcT B) (pnT B) (nwT B) := fcw_0.bit
  refine lv_iload_n hx hb dL_asked_0 rfl (lv_at hl 1 rfl) ?_
  refine x_tableIn (tgt := 144) hx hb 7 rfl (by decide) dL_asked_1 (by decide) (by decide) rfl (by decide) ?_
  refine lv_aload_n hx hb dL_asked_144 rfl (lv_at hl 0 rfl) ?_
  refine lv_iload hx hb dL_asked_145 (lv_at hl 4 rfl) ?_
  refine lv_iload_n hx hb dL_asked_147 rfl (lv_at hl 2 rfl) ?_
  refine lv_iload_n hx hb dL_asked_148 rfl (lv_at hl 3 rfl) ?_
  obtain ⟨fs9, hfs9⟩ := fcw_0.o0
  refine x_cXVIE (As := [.int (iZ c7), .int (iZ a), .int (iZ b)]) (rest := []) hx hb hml hts hown hK hST hOK hH 0 (q_firstStep1 l E ST hSF htr σ c7 a b B S Y fcw_0 (by omega) (by omega) (by omega) (by omega) (by omega)) (cwV 3 hts (goodIn_t (goodIn_x gK_103)) rfl rfl rfl (by decide +kernel) ⟨Nat.le_of_ble_eq_true rfl, Nat.le_of_ble_eq_true rfl⟩) (ltw (by decide)) hfs9 rfl rfl hl.1 rfl (Nat.le_of_ble_eq_true rfl) dL_asked_149 ⟨Nat.le_of_ble_eq_true rfl, Nat.le_of_ble_eq_true rfl⟩ ?_ (fun z u h => h) (fun σ2 H locs hp3 hH => ?_)
  · intro nx ce q9 σ2 H locs hp3 hH hce hcv hcl
    subst hQ
    obtain ⟨hn, fcw_0, fr4⟩ := hp3
    exact x_out hno hlocks hH hce hcv hcl ⟨(by first | exact hn | simp_all | omega), fcw_0, fun j hj0 => (fr4 j (by omega))⟩ (Nat.le_of_ble_eq_true rfl) (Nat.le_of_ble_eq_true rfl)
  · obtain ⟨⟨fcw_0, hf6, hf7⟩, fr5⟩ := hp3
    subst hQ
    exact x_ireX hx hb hr hlocks hH (Nat.le_of_ble_eq_true rfl) (Nat.le_of_ble_eq_true rfl) ⟨(show (fz (Gw (opT B) (lkT B) (kpT B) c7) ((wcT B) c7) (a * 5 + b)) = (fz (Gw (opT B) (lkT B) (kpT B) c7) (wcT B c7) (a * 5 + b)) from (by rfl)), ⟨fcw_0, (by first | assumption | omega | simp_all), (by first | assumption | omega | simp_all)⟩, fun j hj0 => (fr5 j (by omega))⟩ dL_asked_152

def rm_L_asked_8 : Room := { frames := 7, cells := 1, slots := 6, locals := 115 }
set_option maxRecDepth 100000 in
set_option maxHeartbeats 4000000 in
theorem c_L_asked_8 (l : Launch) (E : xE) (ST : xST) (hSF : SF ST) (hSX : SX ST) (htr : l.stackTraces = false) (σ : xW) (a : Int) (b : Int) (c7 : Int) (B : BT) (S : Option BT) (Y : lnQ) (hr0 : cw E σ B S Y) (hwa : 0 ≤ a ∧ a < nwT B) : XI l E ST yL_asked wML_asked rm_L_asked_8 [.ref (xad E 0), .int (iZ 8), .int (iZ a), .int (iZ b), .int (iZ c7)] σ (fun (z : Int) (u : xW) => z = 97 + (nkK (kpT B) (dz (Gw (opT B) (lkT B) (kpT B) a) (wcT B a)) 6).1 ∧ (cw E u B S Y ∧ (¬ (nkK (kpT B) (dz (Gw (opT B) (lkT B) (kpT B) a) (wcT B a)) 6).1 = -1)) ∧ ∀ j : Nat, (j < 0 ∨ 0 + 85 ≤ j) → u j = σ j) (fun (n : String) (u : xW) => ((n = "java/util/NoSuchElementException" ∧ (nkK (kpT B) (dz (Gw (opT B) (lkT B) (kpT B) a) (wcT B a)) 6).1 = -1)) ∧ (cw E u B S Y) ∧ ∀ j : Nat, (j < 0 ∨ 0 + 85 ≤ j) → u j = σ j) := by
  have fcw_0 : cw E σ B S Y := hr0
  refine XI_of (by decide) rfl (Nat.le_of_ble_eq_true rfl) ?_
  intro p e s m args below meth c Q ls G hH hl hQ
  obtain ⟨hx, hb, hml, hown, hts, hK, hST, hlocks, hr, hno⟩ := G
  have hOK := hSF.1
  have hown : s.vm.findClass RL = some m.cls := hown
  have hl : lv_has ls 5 [(0, .ref (xad E 0)), (1, .int (iZ 8)), (2, .int (iZ a)), (3, .int (iZ b)), (4, .int (iZ c7))] := hl
  obtain ⟨-, -, -, -, -, hnw⟩ : BI (opT B) (lkT B) (kpT B) (wcT B) (pnT B) (nwT B) := fcw_0.bit
  refine lv_iload_n hx hb dL_asked_0 rfl (lv_at hl 1 rfl) ?_
  refine x_tableIn (tgt := 153) hx hb 8 rfl (by decide) dL_asked_1 (by decide) (by decide) rfl (by decide) ?_
  refine lv_aload_n hx hb dL_asked_153 rfl (lv_at hl 0 rfl) ?_
  refine lv_iload_n hx hb dL_asked_154 rfl (lv_at hl 2 rfl) ?_
  obtain ⟨fs9, hfs9⟩ := fcw_0.o0
  refine x_cXVIE (As := [.int (iZ a)]) (rest := []) hx hb hml hts hown hK hST hOK hH 0 (q_nearestKey1 l E ST hSF htr σ a B S Y fcw_0 (by omega) (by omega)) (cwV 1 hts (goodIn_t (goodIn_x gK_106)) rfl rfl rfl (by decide +kernel) ⟨Nat.le_of_ble_eq_true rfl, Nat.le_of_ble_eq_true rfl⟩) (ltw (by decide)) hfs9 rfl rfl hl.1 rfl (Nat.le_of_ble_eq_true rfl) dL_asked_155 ⟨Nat.le_of_ble_eq_true rfl, Nat.le_of_ble_eq_true rfl⟩ ?_ (fun z u h => h) (fun σ2 H locs hp3 hH => ?_)
  · intro nx ce q9 σ2 H locs hp3 hH hce hcv hcl
    subst hQ
    obtain ⟨hn, fcw_0, fr4⟩ := hp3
    exact x_out hno hlocks hH hce hcv hcl ⟨(by first | exact hn | simp_all | omega), fcw_0, fun j hj0 => (fr4 j (by omega))⟩ (Nat.le_of_ble_eq_true rfl) (Nat.le_of_ble_eq_true rfl)
  · obtain ⟨⟨fcw_0, hf6⟩, fr5⟩ := hp3
    subst hQ
    exact x_ireX hx hb hr hlocks hH (Nat.le_of_ble_eq_true rfl) (Nat.le_of_ble_eq_true rfl) ⟨(show (97 + (nkK (kpT B) (dz (Gw (opT B) (lkT B) (kpT B) a) ((wcT B) a)) 6).1) = (97 + (nkK (kpT B) (dz (Gw (opT B) (lkT B) (kpT B) a) (wcT B a)) 6).1) from (by rfl)), ⟨fcw_0, (by first | assumption | omega | simp_all)⟩, fun j hj0 => (fr5 j (by omega))⟩ dL_asked_158

def rm_L_asked_13 : Room := { frames := 3, cells := 0, slots := 0, locals := 65 }
set_option maxRecDepth 100000 in
set_option maxHeartbeats 4000000 in
theorem c_L_asked_13 (l : Launch) (E : xE) (ST : xST) (hSF : SF ST) (hSX : SX ST) (σ : xW) (a : Int) (b : Int) (c7 : Int) (B : BT) (S : Option BT) (Y : lnQ) (hr0 : cw E σ B S Y) (hla : 0 ≤ a ∧ a < 5) : CI l E ST yL_asked wML_asked rm_L_asked_13 [.ref (xad E 0), .int (iZ 13), .int (iZ a), .int (iZ b), .int (iZ c7)] σ (fun (z : Int) (u : xW) => z = b2 (lfB (pnT B) (a * 5) 1) + 2 * b2 (lfB (pnT B) a 5) ∧ u = σ) := by
  have fcw_0 : cw E σ B S Y := hr0
  refine CI_of (by decide) rfl (Nat.le_of_ble_eq_true rfl) ?_
  intro p e s m args below meth c Q ls G hH hl hQ
  obtain ⟨hx, hb, hml, hown, hts, hK, hST, hlocks, hr, hno⟩ := G
  have hOK := hSF.1
  have hown : s.vm.findClass RL = some m.cls := hown
  have hl : lv_has ls 5 [(0, .ref (xad E 0)), (1, .int (iZ 13)), (2, .int (iZ a)), (3, .int (iZ b)), (4, .int (iZ c7))] := hl
  refine lv_iload_n hx hb dL_asked_0 rfl (lv_at hl 1 rfl) ?_
  refine x_tableOut (tgt := 184) hx hb (by decide) dL_asked_1 (by decide) (by decide) ?_
  refine lv_aload_n hx hb dL_asked_184 rfl (lv_at hl 0 rfl) ?_
  refine lv_iload_n hx hb dL_asked_185 rfl (lv_at hl 2 rfl) ?_
  obtain ⟨fs9, hfs9⟩ := fcw_0.o0
  refine x_cVID (As := [.int (iZ a)]) (rest := []) hx hb hml hts hown hK hST hOK hH 0 (q_canShiftRow0 l E ST hSF σ a B S Y fcw_0 (by omega) (by omega)) (cwV 1 hts (goodIn_t (goodIn_x gK_123)) rfl rfl rfl (by decide +kernel) ⟨Nat.le_of_ble_eq_true rfl, Nat.le_of_ble_eq_true rfl⟩) (ltw (by decide)) hfs9 rfl rfl hl.1 rfl (Nat.le_of_ble_eq_true rfl) dL_asked_186 ⟨Nat.le_of_ble_eq_true rfl, Nat.le_of_ble_eq_true rfl⟩ (fun z u h => h) (fun H locs hH => ?_)
  refine x_cSID (As := [.int (iZ (b2 (lfB (pnT B) (a * 5) 1)))]) (rest := []) hx hb hml hts hown hK hST hOK hH (c_L_told l E ST hSF  σ (lfB (pnT B) (a * 5) 1)  ) (va_cwS 1 hts (goodIn_t gK_83) rfl rfl rfl (by decide +kernel) ⟨Nat.le_of_ble_eq_true rfl, Nat.le_of_ble_eq_true rfl⟩) rfl hl.1 rfl (Nat.le_of_ble_eq_true rfl) dL_asked_189 ⟨Nat.le_of_ble_eq_true rfl, Nat.le_of_ble_eq_true rfl⟩ (fun z u h => h) (fun H locs hH => ?_)
  refine x_iconst hx hb dL_asked_192 ?_
  refine lv_aload_n hx hb dL_asked_193 rfl (lv_at hl 0 rfl) ?_
  refine lv_iload_n hx hb dL_asked_194 rfl (lv_at hl 2 rfl) ?_
  obtain ⟨fs9, hfs9⟩ := fcw_0.o0
  refine x_cVID (As := [.int (iZ a)]) (rest := [.int (iZ 2), .int (iZ (b2 (lfB (pnT B) (a * 5) 1)))]) hx hb hml hts hown hK hST hOK hH 0 (q_canShiftColumn0 l E ST hSF σ a B S Y fcw_0 (by omega) (by omega)) (cwV 1 hts (goodIn_t (goodIn_x gK_127)) rfl rfl rfl (by decide +kernel) ⟨Nat.le_of_ble_eq_true rfl, Nat.le_of_ble_eq_true rfl⟩) (ltw (by decide)) hfs9 rfl rfl hl.1 rfl (Nat.le_of_ble_eq_true rfl) dL_asked_195 ⟨Nat.le_of_ble_eq_true rfl, Nat.le_of_ble_eq_true rfl⟩ (fun z u h => h) (fun H locs hH => ?_)
  refine x_cSID (As := [.int (iZ (b2 (lfB (pnT B) a 5)))]) (rest := [.int (iZ 2), .int (iZ (b2 (lfB (pnT B) (a * 5) 1)))]) hx hb hml hts hown hK hST hOK hH (c_L_told l E ST hSF  σ (lfB (pnT B) a 5)  ) (va_cwS 1 hts (goodIn_t gK_83) rfl rfl rfl (by decide +kernel) ⟨Nat.le_of_ble_eq_true rfl, Nat.le_of_ble_eq_true rfl⟩) rfl hl.1 rfl (Nat.le_of_ble_eq_true rfl) dL_asked_198 ⟨Nat.le_of_ble_eq_true rfl, Nat.le_of_ble_eq_true rfl⟩ (fun z u h => h) (fun H locs hH => ?_)
  refine x_imul hx hb dL_asked_201 ?_
  refine x_iadd hx hb dL_asked_202 ?_
  subst hQ
  exact x_iret hx hb hr hlocks hH (Nat.le_of_ble_eq_true rfl) (Nat.le_of_ble_eq_true rfl) ⟨(show ((b2 (lfB (pnT B) (a * 5) 1)) + (2 * (b2 (lfB (pnT B) a 5)))) = (b2 (lfB (pnT B) (a * 5) 1) + 2 * b2 (lfB (pnT B) a 5)) from (by rfl)), rfl⟩ dL_asked_203

def rm_L_asked_0b : Room := { frames := 8, cells := 1, slots := 6, locals := 133 }
set_option maxRecDepth 100000 in
set_option maxHeartbeats 4000000 in
theorem c_L_asked_0b (l : Launch) (E : xE) (ST : xST) (hSF : SF ST) (hSX : SX ST) (htr : l.stackTraces = false) (σ : xW) (a : Int) (b : Int) (c7 : Int) (B : BT) (S : Option BT) (Y : lnQ) (hr0 : cw E σ B S Y) (ha : rg a) (hb9 : rg b) (hc9 : rg c7) (hno : ¬ okC a b) : XI l E ST yL_asked wML_asked rm_L_asked_0b [.ref (xad E 0), .int (iZ 0), .int (iZ a), .int (iZ b), .int (iZ c7)] σ (fun (z : Int) (u : xW) => (False) ∧ u = σ) (fun (n : String) (u : xW) => ((n = "java/lang/IndexOutOfBoundsException" ∧ True)) ∧ u = σ) := by
  have fcw_0 : cw E σ B S Y := hr0
  refine XI_of (by decide) rfl (Nat.le_of_ble_eq_true rfl) ?_
  intro p e s m args below meth c Q ls G hH hl hQ
  obtain ⟨hx, hb, hml, hown, hts, hK, hST, hlocks, hr, hno⟩ := G
  have hOK := hSF.1
  have hown : s.vm.findClass RL = some m.cls := hown
  have hl : lv_has ls 5 [(0, .ref (xad E 0)), (1, .int (iZ 0)), (2, .int (iZ a)), (3, .int (iZ b)), (4, .int (iZ c7))] := hl
  refine lv_iload_n hx hb dL_asked_0 rfl (lv_at hl 1 rfl) ?_
  refine x_tableIn (tgt := 68) hx hb 0 rfl (by decide) dL_asked_1 (by decide) (by decide) rfl (by decide) ?_
  refine lv_aload_n hx hb dL_asked_68 rfl (lv_at hl 0 rfl) ?_
  refine lv_iload_n hx hb dL_asked_69 rfl (lv_at hl 2 rfl) ?_
  refine lv_iload_n hx hb dL_asked_70 rfl (lv_at hl 3 rfl) ?_
  obtain ⟨fs9, hfs9⟩ := fcw_0.o0
  refine x_cXVIE (As := [.int (iZ a), .int (iZ b)]) (rest := []) hx hb hml hts hown hK hST hOK hH 0 (q_openings l E ST hSF htr σ a b B S Y fcw_0 (by omega) (by omega)) (cwV 2 hts (goodIn_t (goodIn_x gK_73)) rfl rfl rfl (by decide +kernel) ⟨Nat.le_of_ble_eq_true rfl, Nat.le_of_ble_eq_true rfl⟩) (ltw (by decide)) hfs9 rfl rfl hl.1 rfl (Nat.le_of_ble_eq_true rfl) dL_asked_71 ⟨Nat.le_of_ble_eq_true rfl, Nat.le_of_ble_eq_true rfl⟩ ?_ (fun z u h => h) (fun σ2 H locs hp3 hH => ?_)
  · intro nx ce q9 σ2 H locs hp3 hH hce hcv hcl
    subst hQ
    obtain ⟨hn, hu⟩ := hp3
    rw [hu] at hH
    exact x_out hno hlocks hH hce hcv hcl ⟨(by exact ⟨hn.1, trivial⟩), rfl⟩ (Nat.le_of_ble_eq_true rfl) (Nat.le_of_ble_eq_true rfl)
  · obtain ⟨hf4, hu5⟩ := hp3
    rw [hu5] at hH
    subst hQ
    exact x_ireX hx hb hr hlocks hH (Nat.le_of_ble_eq_true rfl) (Nat.le_of_ble_eq_true rfl) ⟨(by omega), rfl⟩ dL_asked_74

def rm_L_asked_2b : Room := { frames := 8, cells := 2, slots := 12, locals := 135 }
set_option maxRecDepth 100000 in
set_option maxHeartbeats 4000000 in
theorem c_L_asked_2b (l : Launch) (E : xE) (ST : xST) (hSF : SF ST) (hSX : SX ST) (htr : l.stackTraces = false) (σ : xW) (a : Int) (b : Int) (c7 : Int) (B : BT) (S : Option BT) (Y : lnQ) (hr0 : cw E σ B S Y) (ha : rg a) (hb9 : rg b) (hc9 : rg c7) (hok : okC a b) (hno : ¬ (0 ≤ c7 ∧ c7 < 4)) : XI l E ST yL_asked wML_asked rm_L_asked_2b [.ref (xad E 0), .int (iZ 2), .int (iZ a), .int (iZ b), .int (iZ c7)] σ (fun (z : Int) (u : xW) => (False) ∧ u = σ) (fun (n : String) (u : xW) => ((n = "java/lang/IllegalArgumentException" ∧ True)) ∧ u = σ) := by
  have fcw_0 : cw E σ B S Y := hr0
  refine XI_of (by decide) rfl (Nat.le_of_ble_eq_true rfl) ?_
  intro p e s m args below meth c Q ls G hH hl hQ
  obtain ⟨hx, hb, hml, hown, hts, hK, hST, hlocks, hr, hno⟩ := G
  have hOK := hSF.1
  have hown : s.vm.findClass RL = some m.cls := hown
  have hl : lv_has ls 5 [(0, .ref (xad E 0)), (1, .int (iZ 2)), (2, .int (iZ a)), (3, .int (iZ b)), (4, .int (iZ c7))] := hl
  refine lv_iload_n hx hb dL_asked_0 rfl (lv_at hl 1 rfl) ?_
  refine x_tableIn (tgt := 82) hx hb 2 rfl (by decide) dL_asked_1 (by decide) (by decide) rfl (by decide) ?_
  refine lv_aload_n hx hb dL_asked_82 rfl (lv_at hl 0 rfl) ?_
  refine lv_iload_n hx hb dL_asked_83 rfl (lv_at hl 2 rfl) ?_
  refine lv_iload_n hx hb dL_asked_84 rfl (lv_at hl 3 rfl) ?_
  refine lv_iload hx hb dL_asked_85 (lv_at hl 4 rfl) ?_
  obtain ⟨fs9, hfs9⟩ := fcw_0.o0
  refine x_cXVIE (As := [.int (iZ a), .int (iZ b), .int (iZ c7)]) (rest := []) hx hb hml hts hown hK hST hOK hH 0 (q_isConnected l E ST hSF htr σ a b c7 B S Y fcw_0 (by omega) (by omega) (by omega)) (cwV 3 hts (goodIn_t (goodIn_x gK_79)) rfl rfl rfl (by decide +kernel) ⟨Nat.le_of_ble_eq_true rfl, Nat.le_of_ble_eq_true rfl⟩) (ltw (by decide)) hfs9 rfl rfl hl.1 rfl (Nat.le_of_ble_eq_true rfl) dL_asked_87 ⟨Nat.le_of_ble_eq_true rfl, Nat.le_of_ble_eq_true rfl⟩ ?_ (fun z u h => h) (fun σ2 H locs hp3 hH => ?_)
  · intro nx ce q9 σ2 H locs hp3 hH hce hcv hcl
    subst hQ
    obtain ⟨hn, hu⟩ := hp3
    rw [hu] at hH
    exact x_out hno hlocks hH hce hcv hcl ⟨(by rcases hn with ⟨e9, h9⟩ | ⟨e9, h9⟩ <;> first | exact ⟨e9, trivial⟩ | (exfalso; omega)), rfl⟩ (Nat.le_of_ble_eq_true rfl) (Nat.le_of_ble_eq_true rfl)
  · obtain ⟨hf4, hf5, hu6⟩ := hp3
    rw [hu6] at hH
    refine x_cSID (As := [.int (iZ (b2 (decide (¬ cnZ (opT B) (a * 5 + b) c7 = -1))))]) (rest := []) hx hb hml hts hown hK hST hOK hH (c_L_told l E ST hSF  σ (decide (¬ cnZ (opT B) (a * 5 + b) c7 = -1))  ) (va_cwS 1 hts (goodIn_t gK_83) rfl rfl rfl (by decide +kernel) ⟨Nat.le_of_ble_eq_true rfl, Nat.le_of_ble_eq_true rfl⟩) rfl hl.1 rfl (Nat.le_of_ble_eq_true rfl) dL_asked_90 ⟨Nat.le_of_ble_eq_true rfl, Nat.le_of_ble_eq_true rfl⟩ (fun z u h => h) (fun H locs hH => ?_)
    subst hQ
    exact x_ireX hx hb hr hlocks hH (Nat.le_of_ble_eq_true rfl) (Nat.le_of_ble_eq_true rfl) ⟨(by omega), rfl⟩ dL_asked_93

def rm_L_asked_13b : Room := { frames := 8, cells := 2, slots := 12, locals := 131 }
set_option maxRecDepth 100000 in
set_option maxHeartbeats 4000000 in
theorem c_L_asked_13b (l : Launch) (E : xE) (ST : xST) (hSF : SF ST) (hSX : SX ST) (htr : l.stackTraces = false) (σ : xW) (a : Int) (b : Int) (c7 : Int) (B : BT) (S : Option BT) (Y : lnQ) (hr0 : cw E σ B S Y) (ha : rg a) (hb9 : rg b) (hc9 : rg c7) (hno : ¬ (0 ≤ a ∧ a < 5)) : XI l E ST yL_asked wML_asked rm_L_asked_13b [.ref (xad E 0), .int (iZ 13), .int (iZ a), .int (iZ b), .int (iZ c7)] σ (fun (z : Int) (u : xW) => (False) ∧ u = σ) (fun (n : String) (u : xW) => ((n = "java/lang/IndexOutOfBoundsException" ∧ True)) ∧ u = σ) := by
  have fcw_0 : cw E σ B S Y := hr0
  refine XI_of (by decide) rfl (Nat.le_of_ble_eq_true rfl) ?_
  intro p e s m args below meth c Q ls G hH hl hQ
  obtain ⟨hx, hb, hml, hown, hts, hK, hST, hlocks, hr, hno⟩ := G
  have hOK := hSF.1
  have hown : s.vm.findClass RL = some m.cls := hown
  have hl : lv_has ls 5 [(0, .ref (xad E 0)), (1, .int (iZ 13)), (2, .int (iZ a)), (3, .int (iZ b)), (4, .int (iZ c7))] := hl
  refine lv_iload_n hx hb dL_asked_0 rfl (lv_at hl 1 rfl) ?_
  refine x_tableOut (tgt := 184) hx hb (by decide) dL_asked_1 (by decide) (by decide) ?_
  refine lv_aload_n hx hb dL_asked_184 rfl (lv_at hl 0 rfl) ?_
  refine lv_iload_n hx hb dL_asked_185 rfl (lv_at hl 2 rfl) ?_
  obtain ⟨fs9, hfs9⟩ := fcw_0.o0
  refine x_cXVIE (As := [.int (iZ a)]) (rest := []) hx hb hml hts hown hK hST hOK hH 0 (q_canShiftRow l E ST hSF htr σ a B S Y fcw_0 (by omega)) (cwV 1 hts (goodIn_t (goodIn_x gK_123)) rfl rfl rfl (by decide +kernel) ⟨Nat.le_of_ble_eq_true rfl, Nat.le_of_ble_eq_true rfl⟩) (ltw (by decide)) hfs9 rfl rfl hl.1 rfl (Nat.le_of_ble_eq_true rfl) dL_asked_186 ⟨Nat.le_of_ble_eq_true rfl, Nat.le_of_ble_eq_true rfl⟩ ?_ (fun z u h => h) (fun σ2 H locs hp3 hH => ?_)
  · intro nx ce q9 σ2 H locs hp3 hH hce hcv hcl
    subst hQ
    obtain ⟨hn, hu⟩ := hp3
    rw [hu] at hH
    exact x_out hno hlocks hH hce hcv hcl ⟨(by exact ⟨hn.1, trivial⟩), rfl⟩ (Nat.le_of_ble_eq_true rfl) (Nat.le_of_ble_eq_true rfl)
  · obtain ⟨hf4, hu5⟩ := hp3
    rw [hu5] at hH
    refine x_cSID (As := [.int (iZ (b2 (lfB (pnT B) (a * 5) 1)))]) (rest := []) hx hb hml hts hown hK hST hOK hH (c_L_told l E ST hSF  σ (lfB (pnT B) (a * 5) 1)  ) (va_cwS 1 hts (goodIn_t gK_83) rfl rfl rfl (by decide +kernel) ⟨Nat.le_of_ble_eq_true rfl, Nat.le_of_ble_eq_true rfl⟩) rfl hl.1 rfl (Nat.le_of_ble_eq_true rfl) dL_asked_189 ⟨Nat.le_of_ble_eq_true rfl, Nat.le_of_ble_eq_true rfl⟩ (fun z u h => h) (fun H locs hH => ?_)
    refine x_iconst hx hb dL_asked_192 ?_
    refine lv_aload_n hx hb dL_asked_193 rfl (lv_at hl 0 rfl) ?_
    refine lv_iload_n hx hb dL_asked_194 rfl (lv_at hl 2 rfl) ?_
    obtain ⟨fs9, hfs9⟩ := fcw_0.o0
    refine x_cXVIE (As := [.int (iZ a)]) (rest := [.int (iZ 2), .int (iZ (b2 (lfB (pnT B) (a * 5) 1)))]) hx hb hml hts hown hK hST hOK hH 0 (q_canShiftColumn l E ST hSF htr σ a B S Y fcw_0 (by omega)) (cwV 1 hts (goodIn_t (goodIn_x gK_127)) rfl rfl rfl (by decide +kernel) ⟨Nat.le_of_ble_eq_true rfl, Nat.le_of_ble_eq_true rfl⟩) (ltw (by decide)) hfs9 rfl rfl hl.1 rfl (Nat.le_of_ble_eq_true rfl) dL_asked_195 ⟨Nat.le_of_ble_eq_true rfl, Nat.le_of_ble_eq_true rfl⟩ ?_ (fun z u h => h) (fun σ10 H locs hp11 hH => ?_)
    · intro nx ce q9 σ10 H locs hp11 hH hce hcv hcl
      subst hQ
      obtain ⟨hn, hu⟩ := hp11
      rw [hu] at hH
      exact x_out hno hlocks hH hce hcv hcl ⟨(by exact ⟨hn.1, trivial⟩), rfl⟩ (Nat.le_of_ble_eq_true rfl) (Nat.le_of_ble_eq_true rfl)
    · obtain ⟨hf12, hu13⟩ := hp11
      rw [hu13] at hH
      refine x_cSID (As := [.int (iZ (b2 (lfB (pnT B) a 5)))]) (rest := [.int (iZ 2), .int (iZ (b2 (lfB (pnT B) (a * 5) 1)))]) hx hb hml hts hown hK hST hOK hH (c_L_told l E ST hSF  σ (lfB (pnT B) a 5)  ) (va_cwS 1 hts (goodIn_t gK_83) rfl rfl rfl (by decide +kernel) ⟨Nat.le_of_ble_eq_true rfl, Nat.le_of_ble_eq_true rfl⟩) rfl hl.1 rfl (Nat.le_of_ble_eq_true rfl) dL_asked_198 ⟨Nat.le_of_ble_eq_true rfl, Nat.le_of_ble_eq_true rfl⟩ (fun z u h => h) (fun H locs hH => ?_)
      refine x_imul hx hb dL_asked_201 ?_
      refine x_iadd hx hb dL_asked_202 ?_
      subst hQ
      exact x_ireX hx hb hr hlocks hH (Nat.le_of_ble_eq_true rfl) (Nat.le_of_ble_eq_true rfl) ⟨(by omega), rfl⟩ dL_asked_203

def rm_L_asked_3b : Room := { frames := 9, cells := 4, slots := 24, locals := 153 }
set_option maxRecDepth 100000 in
set_option maxHeartbeats 4000000 in
theorem c_L_asked_3b (l : Launch) (E : xE) (ST : xST) (hSF : SF ST) (hSX : SX ST) (htr : l.stackTraces = false) (σ : xW) (a : Int) (b : Int) (c7 : Int) (B : BT) (S : Option BT) (Y : lnQ) (hr0 : cw E σ B S Y) (hno : (-10 ≤ a ∧ a ≤ -1) ∨ (6 ≤ a ∧ a ≤ 20)) : XI l E ST yL_asked wML_asked rm_L_asked_3b [.ref (xad E 0), .int (iZ 3), .int (iZ a), .int (iZ b), .int (iZ c7)] σ (fun (z : Int) (u : xW) => (False) ∧ u = σ) (fun (n : String) (u : xW) => ((n = "java/lang/IllegalArgumentException" ∧ True)) ∧ u = σ) := by
  have fcw_0 : cw E σ B S Y := hr0
  refine XI_of (by decide) rfl (Nat.le_of_ble_eq_true rfl) ?_
  intro p e s m args below meth c Q ls G hH hl hQ
  obtain ⟨hx, hb, hml, hown, hts, hK, hST, hlocks, hr, hno⟩ := G
  have hOK := hSF.1
  have hown : s.vm.findClass RL = some m.cls := hown
  have hl : lv_has ls 5 [(0, .ref (xad E 0)), (1, .int (iZ 3)), (2, .int (iZ a)), (3, .int (iZ b)), (4, .int (iZ c7))] := hl
  refine lv_iload_n hx hb dL_asked_0 rfl (lv_at hl 1 rfl) ?_
  refine x_tableIn (tgt := 94) hx hb 3 rfl (by decide) dL_asked_1 (by decide) (by decide) rfl (by decide) ?_
  refine lv_aload_n hx hb dL_asked_94 rfl (lv_at hl 0 rfl) ?_
  refine x_bipush hx hb dL_asked_95 (by decide) ?_
  refine lv_iload_n hx hb dL_asked_97 rfl (lv_at hl 2 rfl) ?_
  refine x_iadd hx hb dL_asked_98 ?_
  refine x_i2c hx hb dL_asked_99 ?_
  rw [i2cZ_in (by omega) (by omega)]
  obtain ⟨fs9, hfs9⟩ := fcw_0.o0
  refine x_cXVIE (As := [.int (iZ (97 + a))]) (rest := []) hx hb hml hts hown hK hST hOK hH 0 (q_keyRow l E ST hSF htr σ (97 + a) B S Y fcw_0 (by omega)) (cwV 1 hts (goodIn_t (goodIn_x gK_87)) rfl rfl rfl (by decide +kernel) ⟨Nat.le_of_ble_eq_true rfl, Nat.le_of_ble_eq_true rfl⟩) (ltw (by decide)) hfs9 rfl rfl hl.1 rfl (Nat.le_of_ble_eq_true rfl) dL_asked_100 ⟨Nat.le_of_ble_eq_true rfl, Nat.le_of_ble_eq_true rfl⟩ ?_ (fun z u h => h) (fun σ2 H locs hp3 hH => ?_)
  · intro nx ce q9 σ2 H locs hp3 hH hce hcv hcl
    subst hQ
    obtain ⟨hn, hu⟩ := hp3
    rw [hu] at hH
    exact x_out hno hlocks hH hce hcv hcl ⟨(by rcases hn with ⟨e9, h9⟩ | ⟨e9, h9⟩ <;> first | exact ⟨e9, trivial⟩ | (exfalso; omega)), rfl⟩ (Nat.le_of_ble_eq_true rfl) (Nat.le_of_ble_eq_true rfl)
  · obtain ⟨hf4, hf5, hu6⟩ := hp3
    rw [hu6] at hH
    refine x_iconst hx hb dL_asked_103 ?_
    refine x_imul hx hb dL_asked_104 ?_
    refine lv_aload_n hx hb dL_asked_105 rfl (lv_at hl 0 rfl) ?_
    refine x_bipush hx hb dL_asked_106 (by decide) ?_
    refine lv_iload_n hx hb dL_asked_108 rfl (lv_at hl 2 rfl) ?_
    refine x_iadd hx hb dL_asked_109 ?_
    refine x_i2c hx hb dL_asked_110 ?_
    rw [i2cZ_in (by omega) (by omega)]
    obtain ⟨fs9, hfs9⟩ := fcw_0.o0
    refine x_cXVIE (As := [.int (iZ (97 + a))]) (rest := [.int (iZ (((kpT B) ((97 + a) - 97) / 5) * 5))]) hx hb hml hts hown hK hST hOK hH 0 (q_keyColumn l E ST hSF htr σ (97 + a) B S Y fcw_0 (by omega)) (cwV 1 hts (goodIn_t (goodIn_x gK_91)) rfl rfl rfl (by decide +kernel) ⟨Nat.le_of_ble_eq_true rfl, Nat.le_of_ble_eq_true rfl⟩) (ltw (by decide)) hfs9 rfl rfl hl.1 rfl (Nat.le_of_ble_eq_true rfl) dL_asked_111 ⟨Nat.le_of_ble_eq_true rfl, Nat.le_of_ble_eq_true rfl⟩ ?_ (fun z u h => h) (fun σ8 H locs hp9 hH => ?_)
    · intro nx ce q9 σ8 H locs hp9 hH hce hcv hcl
      subst hQ
      obtain ⟨hn, hu⟩ := hp9
      rw [hu] at hH
      exact x_out hno hlocks hH hce hcv hcl ⟨(by rcases hn with ⟨e9, h9⟩ | ⟨e9, h9⟩ <;> first | exact ⟨e9, trivial⟩ | (exfalso; omega)), rfl⟩ (Nat.le_of_ble_eq_true rfl) (Nat.le_of_ble_eq_true rfl)
    · obtain ⟨hf10, hf11, hu12⟩ := hp9
      rw [hu12] at hH
      refine x_iadd hx hb dL_asked_114 ?_
      subst hQ
      exact x_ireX hx hb hr hlocks hH (Nat.le_of_ble_eq_true rfl) (Nat.le_of_ble_eq_true rfl) ⟨(by omega), rfl⟩ dL_asked_115

def rm_L_asked_4b : Room := { frames := 8, cells := 2, slots := 12, locals := 132 }
set_option maxRecDepth 100000 in
set_option maxHeartbeats 4000000 in
theorem c_L_asked_4b (l : Launch) (E : xE) (ST : xST) (hSF : SF ST) (hSX : SX ST) (htr : l.stackTraces = false) (σ : xW) (a : Int) (b : Int) (c7 : Int) (B : BT) (S : Option BT) (Y : lnQ) (hr0 : cw E σ B S Y) (hno : (-10 ≤ a ∧ a ≤ -1) ∨ (6 ≤ a ∧ a ≤ 20)) : XI l E ST yL_asked wML_asked rm_L_asked_4b [.ref (xad E 0), .int (iZ 4), .int (iZ a), .int (iZ b), .int (iZ c7)] σ (fun (z : Int) (u : xW) => (False) ∧ u = σ) (fun (n : String) (u : xW) => ((n = "java/lang/IllegalArgumentException" ∧ True)) ∧ u = σ) := by
  have fcw_0 : cw E σ B S Y := hr0
  refine XI_of (by decide) rfl (Nat.le_of_ble_eq_true rfl) ?_
  intro p e s m args below meth c Q ls G hH hl hQ
  obtain ⟨hx, hb, hml, hown, hts, hK, hST, hlocks, hr, hno⟩ := G
  have hOK := hSF.1
  have hown : s.vm.findClass RL = some m.cls := hown
  have hl : lv_has ls 5 [(0, .ref (xad E 0)), (1, .int (iZ 4)), (2, .int (iZ a)), (3, .int (iZ b)), (4, .int (iZ c7))] := hl
  refine lv_iload_n hx hb dL_asked_0 rfl (lv_at hl 1 rfl) ?_
  refine x_tableIn (tgt := 116) hx hb 4 rfl (by decide) dL_asked_1 (by decide) (by decide) rfl (by decide) ?_
  refine lv_aload_n hx hb dL_asked_116 rfl (lv_at hl 0 rfl) ?_
  refine x_bipush hx hb dL_asked_117 (by decide) ?_
  refine lv_iload_n hx hb dL_asked_119 rfl (lv_at hl 2 rfl) ?_
  refine x_iadd hx hb dL_asked_120 ?_
  refine x_i2c hx hb dL_asked_121 ?_
  rw [i2cZ_in (by omega) (by omega)]
  obtain ⟨fs9, hfs9⟩ := fcw_0.o0
  refine x_cXVIE (As := [.int (iZ (97 + a))]) (rest := []) hx hb hml hts hown hK hST hOK hH 0 (q_carrierOf l E ST hSF htr σ (97 + a) B S Y fcw_0 (by omega)) (cwV 1 hts (goodIn_t (goodIn_x gK_94)) rfl rfl rfl (by decide +kernel) ⟨Nat.le_of_ble_eq_true rfl, Nat.le_of_ble_eq_true rfl⟩) (ltw (by decide)) hfs9 rfl rfl hl.1 rfl (Nat.le_of_ble_eq_true rfl) dL_asked_122 ⟨Nat.le_of_ble_eq_true rfl, Nat.le_of_ble_eq_true rfl⟩ ?_ (fun z u h => h) (fun σ2 H locs hp3 hH => ?_)
  · intro nx ce q9 σ2 H locs hp3 hH hce hcv hcl
    subst hQ
    obtain ⟨hn, hu⟩ := hp3
    rw [hu] at hH
    exact x_out hno hlocks hH hce hcv hcl ⟨(by rcases hn with ⟨e9, h9⟩ | ⟨e9, h9⟩ <;> first | exact ⟨e9, trivial⟩ | (exfalso; omega)), rfl⟩ (Nat.le_of_ble_eq_true rfl) (Nat.le_of_ble_eq_true rfl)
  · obtain ⟨hf4, hf5, hu6⟩ := hp3
    rw [hu6] at hH
    subst hQ
    exact x_ireX hx hb hr hlocks hH (Nat.le_of_ble_eq_true rfl) (Nat.le_of_ble_eq_true rfl) ⟨(by omega), rfl⟩ dL_asked_125

def rm_L_asked_5b : Room := { frames := 8, cells := 3, slots := 18, locals := 135 }
set_option maxRecDepth 100000 in
set_option maxHeartbeats 4000000 in
theorem c_L_asked_5b (l : Launch) (E : xE) (ST : xST) (hSF : SF ST) (hSX : SX ST) (htr : l.stackTraces = false) (σ : xW) (a : Int) (b : Int) (c7 : Int) (B : BT) (S : Option BT) (Y : lnQ) (hr0 : cw E σ B S Y) (ha : rg a) (hb9 : rg b) (hc9 : rg c7) (hno : ¬ (0 ≤ c7 ∧ c7 < nwT B)) : XI l E ST yL_asked wML_asked rm_L_asked_5b [.ref (xad E 0), .int (iZ 5), .int (iZ a), .int (iZ b), .int (iZ c7)] σ (fun (z : Int) (u : xW) => (False) ∧ (cw E u B S Y) ∧ ∀ j : Nat, (j < 0 ∨ 0 + 85 ≤ j) → u j = σ j) (fun (n : String) (u : xW) => ((n = "java/lang/IndexOutOfBoundsException" ∧ True)) ∧ (cw E u B S Y) ∧ ∀ j : Nat, (j < 0 ∨ 0 + 85 ≤ j) → u j = σ j) := by
  have fcw_0 : cw E σ B S Y := hr0
  refine XI_of (by decide) rfl (Nat.le_of_ble_eq_true rfl) ?_
  intro p e s m args below meth c Q ls G hH hl hQ
  obtain ⟨hx, hb, hml, hown, hts, hK, hST, hlocks, hr, hno⟩ := G
  have hOK := hSF.1
  have hown : s.vm.findClass RL = some m.cls := hown
  have hl : lv_has ls 5 [(0, .ref (xad E 0)), (1, .int (iZ 5)), (2, .int (iZ a)), (3, .int (iZ b)), (4, .int (iZ c7))] := hl
  refine lv_iload_n hx hb dL_asked_0 rfl (lv_at hl 1 rfl) ?_
  refine x_tableIn (tgt := 126) hx hb 5 rfl (by decide) dL_asked_1 (by decide) (by decide) rfl (by decide) ?_
  refine lv_aload_n hx hb dL_asked_126 rfl (lv_at hl 0 rfl) ?_
  refine lv_iload hx hb dL_asked_127 (lv_at hl 4 rfl) ?_
  refine lv_iload_n hx hb dL_asked_129 rfl (lv_at hl 2 rfl) ?_
  refine lv_iload_n hx hb dL_asked_130 rfl (lv_at hl 3 rfl) ?_
  obtain ⟨fs9, hfs9⟩ := fcw_0.o0
  refine x_cXVIE (As := [.int (iZ c7), .int (iZ a), .int (iZ b)]) (rest := []) hx hb hml hts hown hK hST hOK hH 0 (q_pathLength l E ST hSF htr σ c7 a b B S Y fcw_0 (by omega) (by omega) (by omega)) (cwV 3 hts (goodIn_t (goodIn_x gK_97)) rfl rfl rfl (by decide +kernel) ⟨Nat.le_of_ble_eq_true rfl, Nat.le_of_ble_eq_true rfl⟩) (ltw (by decide)) hfs9 rfl rfl hl.1 rfl (Nat.le_of_ble_eq_true rfl) dL_asked_131 ⟨Nat.le_of_ble_eq_true rfl, Nat.le_of_ble_eq_true rfl⟩ ?_ (fun z u h => h) (fun σ2 H locs hp3 hH => ?_)
  · intro nx ce q9 σ2 H locs hp3 hH hce hcv hcl
    subst hQ
    obtain ⟨hn, fcw_0, fr4⟩ := hp3
    exact x_out hno hlocks hH hce hcv hcl ⟨(by rcases hn with ⟨e9, h9⟩ | ⟨e9, h9⟩ <;> first | exact ⟨e9, trivial⟩ | (exfalso; omega)), fcw_0, fun j hj0 => (fr4 j (by omega))⟩ (Nat.le_of_ble_eq_true rfl) (Nat.le_of_ble_eq_true rfl)
  · obtain ⟨⟨fcw_0, hf6, hf7, hf8⟩, fr5⟩ := hp3
    subst hQ
    exact x_ireX hx hb hr hlocks hH (Nat.le_of_ble_eq_true rfl) (Nat.le_of_ble_eq_true rfl) ⟨(by omega), fcw_0, fun j hj0 => (fr5 j (by omega))⟩ dL_asked_134

def rm_L_asked_7b : Room := { frames := 8, cells := 4, slots := 24, locals := 135 }
set_option maxRecDepth 100000 in
set_option maxHeartbeats 4000000 in
theorem c_L_asked_7b (l : Launch) (E : xE) (ST : xST) (hSF : SF ST) (hSX : SX ST) (htr : l.stackTraces = false) (σ : xW) (a : Int) (b : Int) (c7 : Int) (B : BT) (S : Option BT) (Y : lnQ) (hr0 : cw E σ B S Y) (ha : rg a) (hb9 : rg b) (hc9 : rg c7) (hno : ¬ (0 ≤ c7 ∧ c7 < nwT B)) : XI l E ST yL_asked wML_asked rm_L_asked_7b [.ref (xad E 0), .int (iZ 7), .int (iZ a), .int (iZ b), .int (iZ c7)] σ (fun (z : Int) (u : xW) => (False) ∧ (cw E u B S Y) ∧ ∀ j : Nat, (j < 0 ∨ 0 + 85 ≤ j) → u j = σ j) (fun (n : String) (u : xW) => ((n = "java/lang/IndexOutOfBoundsException" ∧ True)) ∧ (cw E u B S Y) ∧ ∀ j : Nat, (j < 0 ∨ 0 + 85 ≤ j) → u j = σ j) := by
  have fcw_0 : cw E σ B S Y := hr0
  refine XI_of (by decide) rfl (Nat.le_of_ble_eq_true rfl) ?_
  intro p e s m args below meth c Q ls G hH hl hQ
  obtain ⟨hx, hb, hml, hown, hts, hK, hST, hlocks, hr, hno⟩ := G
  have hOK := hSF.1
  have hown : s.vm.findClass RL = some m.cls := hown
  have hl : lv_has ls 5 [(0, .ref (xad E 0)), (1, .int (iZ 7)), (2, .int (iZ a)), (3, .int (iZ b)), (4, .int (iZ c7))] := hl
  refine lv_iload_n hx hb dL_asked_0 rfl (lv_at hl 1 rfl) ?_
  refine x_tableIn (tgt := 144) hx hb 7 rfl (by decide) dL_asked_1 (by decide) (by decide) rfl (by decide) ?_
  refine lv_aload_n hx hb dL_asked_144 rfl (lv_at hl 0 rfl) ?_
  refine lv_iload hx hb dL_asked_145 (lv_at hl 4 rfl) ?_
  refine lv_iload_n hx hb dL_asked_147 rfl (lv_at hl 2 rfl) ?_
  refine lv_iload_n hx hb dL_asked_148 rfl (lv_at hl 3 rfl) ?_
  obtain ⟨fs9, hfs9⟩ := fcw_0.o0
  refine x_cXVIE (As := [.int (iZ c7), .int (iZ a), .int (iZ b)]) (rest := []) hx hb hml hts hown hK hST hOK hH 0 (q_firstStep l E ST hSF htr σ c7 a b B S Y fcw_0 (by omega) (by omega) (by omega)) (cwV 3 hts (goodIn_t (goodIn_x gK_103)) rfl rfl rfl (by decide +kernel) ⟨Nat.le_of_ble_eq_true rfl, Nat.le_of_ble_eq_true rfl⟩) (ltw (by decide)) hfs9 rfl rfl hl.1 rfl (Nat.le_of_ble_eq_true rfl) dL_asked_149 ⟨Nat.le_of_ble_eq_true rfl, Nat.le_of_ble_eq_true rfl⟩ ?_ (fun z u h => h) (fun σ2 H locs hp3 hH => ?_)
  · intro nx ce q9 σ2 H locs hp3 hH hce hcv hcl
    subst hQ
    obtain ⟨hn, fcw_0, fr4⟩ := hp3
    exact x_out hno hlocks hH hce hcv hcl ⟨(by rcases hn with ⟨e9, h9⟩ | ⟨e9, h9⟩ <;> first | exact ⟨e9, trivial⟩ | (exfalso; omega)), fcw_0, fun j hj0 => (fr4 j (by omega))⟩ (Nat.le_of_ble_eq_true rfl) (Nat.le_of_ble_eq_true rfl)
  · obtain ⟨⟨fcw_0, hf6, hf7, hf8, hf9⟩, fr5⟩ := hp3
    subst hQ
    exact x_ireX hx hb hr hlocks hH (Nat.le_of_ble_eq_true rfl) (Nat.le_of_ble_eq_true rfl) ⟨(by omega), fcw_0, fun j hj0 => (fr5 j (by omega))⟩ dL_asked_152

def rm_L_asked_8b : Room := { frames := 8, cells := 2, slots := 12, locals := 136 }
set_option maxRecDepth 100000 in
set_option maxHeartbeats 4000000 in
theorem c_L_asked_8b (l : Launch) (E : xE) (ST : xST) (hSF : SF ST) (hSX : SX ST) (htr : l.stackTraces = false) (σ : xW) (a : Int) (b : Int) (c7 : Int) (B : BT) (S : Option BT) (Y : lnQ) (hr0 : cw E σ B S Y) (ha : rg a) (hb9 : rg b) (hc9 : rg c7) (hno : ¬ (0 ≤ a ∧ a < nwT B)) : XI l E ST yL_asked wML_asked rm_L_asked_8b [.ref (xad E 0), .int (iZ 8), .int (iZ a), .int (iZ b), .int (iZ c7)] σ (fun (z : Int) (u : xW) => (False) ∧ (cw E u B S Y) ∧ ∀ j : Nat, (j < 0 ∨ 0 + 85 ≤ j) → u j = σ j) (fun (n : String) (u : xW) => ((n = "java/lang/IndexOutOfBoundsException" ∧ True)) ∧ (cw E u B S Y) ∧ ∀ j : Nat, (j < 0 ∨ 0 + 85 ≤ j) → u j = σ j) := by
  have fcw_0 : cw E σ B S Y := hr0
  refine XI_of (by decide) rfl (Nat.le_of_ble_eq_true rfl) ?_
  intro p e s m args below meth c Q ls G hH hl hQ
  obtain ⟨hx, hb, hml, hown, hts, hK, hST, hlocks, hr, hno⟩ := G
  have hOK := hSF.1
  have hown : s.vm.findClass RL = some m.cls := hown
  have hl : lv_has ls 5 [(0, .ref (xad E 0)), (1, .int (iZ 8)), (2, .int (iZ a)), (3, .int (iZ b)), (4, .int (iZ c7))] := hl
  refine lv_iload_n hx hb dL_asked_0 rfl (lv_at hl 1 rfl) ?_
  refine x_tableIn (tgt := 153) hx hb 8 rfl (by decide) dL_asked_1 (by decide) (by decide) rfl (by decide) ?_
  refine lv_aload_n hx hb dL_asked_153 rfl (lv_at hl 0 rfl) ?_
  refine lv_iload_n hx hb dL_asked_154 rfl (lv_at hl 2 rfl) ?_
  obtain ⟨fs9, hfs9⟩ := fcw_0.o0
  refine x_cXVIE (As := [.int (iZ a)]) (rest := []) hx hb hml hts hown hK hST hOK hH 0 (q_nearestKey l E ST hSF htr σ a B S Y fcw_0 (by omega)) (cwV 1 hts (goodIn_t (goodIn_x gK_106)) rfl rfl rfl (by decide +kernel) ⟨Nat.le_of_ble_eq_true rfl, Nat.le_of_ble_eq_true rfl⟩) (ltw (by decide)) hfs9 rfl rfl hl.1 rfl (Nat.le_of_ble_eq_true rfl) dL_asked_155 ⟨Nat.le_of_ble_eq_true rfl, Nat.le_of_ble_eq_true rfl⟩ ?_ (fun z u h => h) (fun σ2 H locs hp3 hH => ?_)
  · intro nx ce q9 σ2 H locs hp3 hH hce hcv hcl
    subst hQ
    obtain ⟨hn, fcw_0, fr4⟩ := hp3
    exact x_out hno hlocks hH hce hcv hcl ⟨(by rcases hn with ⟨e9, h9⟩ | ⟨e9, h9⟩ <;> first | exact ⟨e9, trivial⟩ | (exfalso; omega)), fcw_0, fun j hj0 => (fr4 j (by omega))⟩ (Nat.le_of_ble_eq_true rfl) (Nat.le_of_ble_eq_true rfl)
  · obtain ⟨⟨fcw_0, hf6, hf7⟩, fr5⟩ := hp3
    subst hQ
    exact x_ireX hx hb hr hlocks hH (Nat.le_of_ble_eq_true rfl) (Nat.le_of_ble_eq_true rfl) ⟨(by omega), fcw_0, fun j hj0 => (fr5 j (by omega))⟩ dL_asked_158

def rm_L_asked_9b : Room := { frames := 8, cells := 2, slots := 12, locals := 137 }
set_option maxRecDepth 100000 in
set_option maxHeartbeats 4000000 in
theorem c_L_asked_9b (l : Launch) (E : xE) (ST : xST) (hSF : SF ST) (hSX : SX ST) (htr : l.stackTraces = false) (σ : xW) (a : Int) (b : Int) (c7 : Int) (B : BT) (S : Option BT) (Y : lnQ) (hr0 : cw E σ B S Y) (ha : rg a) (hb9 : rg b) (hc9 : rg c7) (hno : ¬ (0 ≤ c7 ∧ c7 < nwT B)) : XI l E ST yL_asked wML_asked rm_L_asked_9b [.ref (xad E 0), .int (iZ 9), .int (iZ a), .int (iZ b), .int (iZ c7)] σ (fun (z : Int) (u : xW) => (False) ∧ (cw E u B S Y) ∧ ∀ j : Nat, (j < 0 ∨ 0 + 85 ≤ j) → u j = σ j) (fun (n : String) (u : xW) => ((n = "java/lang/IndexOutOfBoundsException" ∧ True)) ∧ (cw E u B S Y) ∧ ∀ j : Nat, (j < 0 ∨ 0 + 85 ≤ j) → u j = σ j) := by
  have fcw_0 : cw E σ B S Y := hr0
  refine XI_of (by decide) rfl (Nat.le_of_ble_eq_true rfl) ?_
  intro p e s m args below meth c Q ls G hH hl hQ
  obtain ⟨hx, hb, hml, hown, hts, hK, hST, hlocks, hr, hno⟩ := G
  have hOK := hSF.1
  have hown : s.vm.findClass RL = some m.cls := hown
  have hl : lv_has ls 5 [(0, .ref (xad E 0)), (1, .int (iZ 9)), (2, .int (iZ a)), (3, .int (iZ b)), (4, .int (iZ c7))] := hl
  refine lv_iload_n hx hb dL_asked_0 rfl (lv_at hl 1 rfl) ?_
  refine x_tableIn (tgt := 159) hx hb 9 rfl (by decide) dL_asked_1 (by decide) (by decide) rfl (by decide) ?_
  refine lv_aload_n hx hb dL_asked_159 rfl (lv_at hl 0 rfl) ?_
  refine lv_iload hx hb dL_asked_160 (lv_at hl 4 rfl) ?_
  refine lv_iload_n hx hb dL_asked_162 rfl (lv_at hl 2 rfl) ?_
  refine lv_iload_n hx hb dL_asked_163 rfl (lv_at hl 3 rfl) ?_
  obtain ⟨fs9, hfs9⟩ := fcw_0.o0
  refine x_cXVIE (As := [.int (iZ c7), .int (iZ a), .int (iZ b)]) (rest := []) hx hb hml hts hown hK hST hOK hH 0 (q_helpfulShifts l E ST hSF htr σ c7 a b B S Y fcw_0 (by omega) (by omega) (by omega)) (cwV 3 hts (goodIn_t (goodIn_x gK_110)) rfl rfl rfl (by decide +kernel) ⟨Nat.le_of_ble_eq_true rfl, Nat.le_of_ble_eq_true rfl⟩) (ltw (by decide)) hfs9 rfl rfl hl.1 rfl (Nat.le_of_ble_eq_true rfl) dL_asked_164 ⟨Nat.le_of_ble_eq_true rfl, Nat.le_of_ble_eq_true rfl⟩ ?_ (fun z u h => h) (fun σ2 H locs hp3 hH => ?_)
  · intro nx ce q9 σ2 H locs hp3 hH hce hcv hcl
    subst hQ
    obtain ⟨hn, fcw_0, fr4⟩ := hp3
    exact x_out hno hlocks hH hce hcv hcl ⟨(by exact ⟨hn.1, trivial⟩), fcw_0, fun j hj0 => (fr4 j (by omega))⟩ (Nat.le_of_ble_eq_true rfl) (Nat.le_of_ble_eq_true rfl)
  · obtain ⟨⟨fcw_0, hf6, hf7⟩, fr5⟩ := hp3
    subst hQ
    exact x_ireX hx hb hr hlocks hH (Nat.le_of_ble_eq_true rfl) (Nat.le_of_ble_eq_true rfl) ⟨(by omega), fcw_0, fun j hj0 => (fr5 j (by omega))⟩ dL_asked_167

def rm_L_asked_12b : Room := { frames := 8, cells := 1, slots := 6, locals := 132 }
set_option maxRecDepth 100000 in
set_option maxHeartbeats 4000000 in
theorem c_L_asked_12b (l : Launch) (E : xE) (ST : xST) (hSF : SF ST) (hSX : SX ST) (htr : l.stackTraces = false) (σ : xW) (a : Int) (b : Int) (c7 : Int) (B : BT) (S : Option BT) (Y : lnQ) (hr0 : cw E σ B S Y) (ha : rg a) (hb9 : rg b) (hc9 : rg c7) (hno : ¬ (0 ≤ a ∧ a < nwT B)) : XI l E ST yL_asked wML_asked rm_L_asked_12b [.ref (xad E 0), .int (iZ 12), .int (iZ a), .int (iZ b), .int (iZ c7)] σ (fun (z : Int) (u : xW) => (False) ∧ (cw E u B S Y) ∧ ∀ j : Nat, (j < 0 ∨ 0 + 85 ≤ j) → u j = σ j) (fun (n : String) (u : xW) => ((n = "java/lang/IndexOutOfBoundsException" ∧ True)) ∧ (cw E u B S Y) ∧ ∀ j : Nat, (j < 0 ∨ 0 + 85 ≤ j) → u j = σ j) := by
  have fcw_0 : cw E σ B S Y := hr0
  refine XI_of (by decide) rfl (Nat.le_of_ble_eq_true rfl) ?_
  intro p e s m args below meth c Q ls G hH hl hQ
  obtain ⟨hx, hb, hml, hown, hts, hK, hST, hlocks, hr, hno⟩ := G
  have hOK := hSF.1
  have hown : s.vm.findClass RL = some m.cls := hown
  have hl : lv_has ls 5 [(0, .ref (xad E 0)), (1, .int (iZ 12)), (2, .int (iZ a)), (3, .int (iZ b)), (4, .int (iZ c7))] := hl
  refine lv_iload_n hx hb dL_asked_0 rfl (lv_at hl 1 rfl) ?_
  refine x_tableIn (tgt := 178) hx hb 12 rfl (by decide) dL_asked_1 (by decide) (by decide) rfl (by decide) ?_
  refine lv_aload_n hx hb dL_asked_178 rfl (lv_at hl 0 rfl) ?_
  refine lv_iload_n hx hb dL_asked_179 rfl (lv_at hl 2 rfl) ?_
  obtain ⟨fs9, hfs9⟩ := fcw_0.o0
  refine x_cXVIE (As := [.int (iZ a)]) (rest := []) hx hb hml hts hown hK hST hOK hH 0 (q_reachableCells l E ST hSF htr σ a B S Y fcw_0 (by omega)) (cwV 1 hts (goodIn_t (goodIn_x gK_119)) rfl rfl rfl (by decide +kernel) ⟨Nat.le_of_ble_eq_true rfl, Nat.le_of_ble_eq_true rfl⟩) (ltw (by decide)) hfs9 rfl rfl hl.1 rfl (Nat.le_of_ble_eq_true rfl) dL_asked_180 ⟨Nat.le_of_ble_eq_true rfl, Nat.le_of_ble_eq_true rfl⟩ ?_ (fun z u h => h) (fun σ2 H locs hp3 hH => ?_)
  · intro nx ce q9 σ2 H locs hp3 hH hce hcv hcl
    subst hQ
    obtain ⟨hn, fcw_0, fr4⟩ := hp3
    exact x_out hno hlocks hH hce hcv hcl ⟨(by exact ⟨hn.1, trivial⟩), fcw_0, fun j hj0 => (fr4 j (by omega))⟩ (Nat.le_of_ble_eq_true rfl) (Nat.le_of_ble_eq_true rfl)
  · obtain ⟨⟨fcw_0, hf6⟩, fr5⟩ := hp3
    subst hQ
    exact x_ireX hx hb hr hlocks hH (Nat.le_of_ble_eq_true rfl) (Nat.le_of_ble_eq_true rfl) ⟨(by omega), fcw_0, fun j hj0 => (fr5 j (by omega))⟩ dL_asked_183
