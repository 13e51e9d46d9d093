/-! ===== save, restore and the output line over the one world ===== -/
theorem q_save (l : Launch) (E : xE) (ST : xST) (hSF : SF ST) (σ : xW) (B : BT) (S : Option BT) (Y : lnQ) (hr0 : cw E σ B S Y) : CV l E ST yX6_save wsX6_save rm_X6_save [.ref (xad E 0)] σ (fun (u : xW) => (cw E u B (some B) Y) ∧ ∀ j : Nat, (j < 0 ∨ 0 + 85 ≤ j) → u j = σ j) := by
  obtain ⟨hv, se, sf, nx, ct, SB, HB, tx, ln, hC, hBI, hnc, hlq, hS, hSB⟩ := id hr0
  obtain ⟨q0, q1, q2, ⟨X7, q3⟩, ⟨X13, q4⟩, q5, q6, q7, q8, q9⟩ := id hC
  refine (c_X6_save l E ST hSF σ hv se sf Y.2 (opT B) (lkT B) (kpT B) (wcT B) (pnT B) (nwT B) (shB B) (wkB B) SB.1 SB.2.1 SB.2.2.1 SB.2.2.2.1 SB.2.2.2.2.1 SB.2.2.2.2.2.1 SB.2.2.2.2.2.2.1 SB.2.2.2.2.2.2.2 q0 q2 q5).imp (fun u h => ?_)
  obtain ⟨⟨a0, a1, a2⟩, fr⟩ := h
  refine ⟨⟨true, se, sf, nx, ct, B, HB, tx, ln, ⟨a0, hi_fr q1 (fun j g0 g1 => fr j (by omega) (by omega)), a1, ⟨X7, bdT_fr q3 (fun j g0 g1 => fr j (by omega) (by omega))⟩, ⟨X13, bdT_fr q4 (fun j g0 g1 => fr j (by omega) (by omega))⟩, a2, hist_fr q6 (fun j g0 g1 => fr j (by omega) (by omega)), srX_fr q7 (fun j g0 g1 => fr j (by omega) (by omega)), pgX_fr q8 (fun j g0 g1 => fr j (by omega) (by omega)), (fr 84 (by omega) (by omega)).trans q9⟩, hBI, hnc, hlq, rfl, fun _ => hBI⟩, fun j hj => fr j (by omega) (by omega)⟩
theorem q_restore0 (l : Launch) (E : xE) (ST : xST) (hSF : SF ST) (σ : xW) (X : BT) (B : BT) (Y : lnQ) (hr0 : cw E σ B (some X) Y) : CV l E ST yX6_restore wsX6_restore rm_X6_restore0 [.ref (xad E 0)] σ (fun (u : xW) => (cw E u X (some X) Y) ∧ ∀ j : Nat, (j < 0 ∨ 0 + 85 ≤ j) → u j = σ j) := by
  obtain ⟨hv, se, sf, nx, ct, SB, HB, tx, ln, hC, hBI, hnc, hlq, hS, hSB⟩ := id hr0
  have hvt : hv = true := by
    cases hv with
    | true => rfl
    | false => exact absurd hS (by simp)
  subst hvt
  have hX : X = SB := Option.some.inj hS
  subst hX
  obtain ⟨q0, q1, q2, ⟨X7, q3⟩, ⟨X13, q4⟩, q5, q6, q7, q8, q9⟩ := id hC
  refine (c_X6_restore0 l E ST hSF σ true se sf Y.2 nx ct (opT B) (lkT B) (kpT B) (wcT B) (pnT B) (nwT B) (shB B) (wkB B) X.1 X.2.1 X.2.2.1 X.2.2.2.1 X.2.2.2.2.1 X.2.2.2.2.2.1 X.2.2.2.2.2.2.1 X.2.2.2.2.2.2.2 q0 q1 q2 q5 rfl).imp (fun u h => ?_)
  obtain ⟨⟨a0, a1, a2, a3⟩, fr⟩ := h
  refine ⟨⟨true, se, sf, nx, 0, X, HB, tx, ln, ⟨a0, a1, a2, ⟨X7, bdT_fr q3 (fun j g0 g1 => fr j (by omega) (by omega))⟩, ⟨X13, bdT_fr q4 (fun j g0 g1 => fr j (by omega) (by omega))⟩, a3, hist_fr q6 (fun j g0 g1 => fr j (by omega) (by omega)), srX_fr q7 (fun j g0 g1 => fr j (by omega) (by omega)), pgX_fr q8 (fun j g0 g1 => fr j (by omega) (by omega)), (fr 84 (by omega) (by omega)).trans q9⟩, hSB rfl, ⟨hnc.1, by omega⟩, hlq, rfl, hSB⟩, fun j hj => fr j (by omega) (by omega)⟩
/-- what a row's line is -/
def lnY (B : BT) (Y : lnQ) (r : Int) : lnQ := List.foldl wrF (Y.1, 0) (rwL (opT B) (lkT B) (kpT B) (wcT B) (pnT B) (nwT B) r 5)
theorem q_writeRow0 (l : Launch) (E : xE) (ST : xST) (hSF : SF ST) (σ : xW) (r : Int) (B : BT) (S : Option BT) (Y : lnQ) (hr0 : cw E σ B S Y) (hr9 : rg r) (hok : 0 ≤ r ∧ r < 5) : CI l E ST yX6_writeRow wsX6_writeRow rm_X6_writeRow0 [.ref (xad E 0), .int (iZ r)] σ (fun (z : Int) (u : xW) => z = (lnY B Y r).2 ∧ (cw E u B S (lnY B Y r)) ∧ ∀ j : Nat, (j < 0 ∨ 0 + 85 ≤ j) → u j = σ j) := by
  obtain ⟨hv, se, sf, nx, ct, SB, HB, tx, ln, hC, hBI, hnc, hlq, hS, hSB⟩ := id hr0
  obtain ⟨q0, q1, q2, ⟨X7, q3⟩, ⟨X13, q4⟩, q5, q6, q7, q8, q9⟩ := id hC
  have h35 := rwL_35 (op := opT B) (lk := lkT B) (kp := kpT B) (wc := wcT B) (pn := pnT B) (nw := nwT B) (r := r) ⟨hok.1, by omega⟩
  have hch := rwN_ch (op := opT B) (lk := lkT B) (kp := kpT B) (wc := wcT B) (pn := pnT B) (nw := nwT B) (r := r) hBI.1 hBI.2.1 5
  have hpt : lnY B Y r = List.foldl ptF (Y.1, 0) (rwL (opT B) (lkT B) (kpT B) (wcT B) (pnT B) (nwT B) r 5) := wr_pt _ _ (by show (0 : Int) + _ ≤ 35; omega)
  have hlen : (lnY B Y r).2 = ((rwL (opT B) (lkT B) (kpT B) (wcT B) (pnT B) (nwT B) r 5).length : Int) := by
    rw [hpt, pt_len]
    show (0 : Int) + _ = _
    omega
  have hcc : ∀ j : Int, chR ((lnY B Y r).1 j) := wr_ch _ _ hlq.2 hch
  refine (c_X6_writeRow0 l E ST hSF σ r hv se sf Y.2 (opT B) (lkT B) (kpT B) (wcT B) (pnT B) (nwT B) (shB B) (wkB B) Y.1 q0 q2 q9 hBI hr9 hok).imp (fun z u h => ?_)
  obtain ⟨hz, ⟨a0, a1, a2⟩, fr⟩ := h
  exact ⟨hz, ⟨hv, se, sf, nx, ct, SB, HB, tx, ln, ⟨a0, hi_fr q1 (fun j g0 g1 => fr j (by omega) (by omega)), a1, ⟨X7, bdT_fr q3 (fun j g0 g1 => fr j (by omega) (by omega))⟩, ⟨X13, bdT_fr q4 (fun j g0 g1 => fr j (by omega) (by omega))⟩, bdT_fr q5 (fun j g0 g1 => fr j (by omega) (by omega)), hist_fr q6 (fun j g0 g1 => fr j (by omega) (by omega)), srX_fr q7 (fun j g0 g1 => fr j (by omega) (by omega)), pgX_fr q8 (fun j g0 g1 => fr j (by omega) (by omega)), a2⟩, hBI, hnc, ⟨by omega, hcc⟩, hS, hSB⟩, fun j hj => fr j (by omega) (by omega)⟩
