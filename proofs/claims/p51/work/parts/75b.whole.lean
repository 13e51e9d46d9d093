theorem c_L_joined (l : Launch) (E : xE) (ST : xST) (hSF : SF ST) (σ : xW) (ce : Int) (d : Int) (B : BT) (S : Option BT) (Y : lnQ) (hr0 : cw E σ B S Y) (hc : 0 ≤ ce ∧ ce ≤ 24) (hd : 0 ≤ d ∧ d ≤ 3) : CI l E ST yL_joined wML_joined rm_L_joined_0 [.ref (xad E 0), .int (iZ ce), .int (iZ d)] σ (fun (z : Int) (u : xW) => z = cnZ (opT B) ce d ∧ u = σ) := by
  rcases (show d = 0 ∨ d = 1 ∨ d = 2 ∨ d = 3 by omega) with rfl | rfl | rfl | rfl
  · exact c_L_joined_0 l E ST hSF σ ce B S Y hr0 hc
  · exact c_L_joined_1 l E ST hSF σ ce B S Y hr0 hc
  · exact c_L_joined_2 l E ST hSF σ ce B S Y hr0 hc
  · exact c_L_joined_3 l E ST hSF σ ce B S Y hr0 hc
theorem c_L_mayEnter (l : Launch) (E : xE) (ST : xST) (hSF : SF ST) (hSX : SX ST) (htr : l.stackTraces = false) (σ : xW) (w : Int) (ce : Int) (B : BT) (S : Option BT) (Y : lnQ) (hr0 : cw E σ B S Y) (hw : 0 ≤ w ∧ w ≤ 2) (hc : 0 ≤ ce ∧ ce ≤ 24) : CI l E ST yL_mayEnter wML_mayEnter rm_L_mayEnter_n [.ref (xad E 0), .int (iZ w), .int (iZ ce)] σ (fun (z : Int) (u : xW) => z = b2 (decide (lkT B ce = -1 ∨ kpT B (lkT B ce) = 25 + w)) ∧ u = σ) := by
  by_cases h : lkT B ce = -1
  · exact c_L_mayEnter_n l E ST hSF hSX htr σ w ce B S Y hr0 hw hc h
  · exact c_L_mayEnter_y l E ST hSF hSX htr σ w ce B S Y hr0 hw hc h
