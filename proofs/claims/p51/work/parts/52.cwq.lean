set_option maxHeartbeats 1000000 in
theorem q_openings (l : Launch) (E : xE) (ST : xST) (hSF : SF ST) (htr : l.stackTraces = false) (σ : xW) (r : Int) (c0 : Int) (B : BT) (S : Option BT) (Y : lnQ) (hr0 : cw E σ B S Y) (hr9 : rg r) (hc9 : rg c0) : XI l E ST yX6_openings wsX6_openings rm_X6_openings [.ref (xad E 0), .int (iZ r), .int (iZ c0)] σ (fun (z : Int) (u : xW) => z = (opT B) (r * 5 + c0) ∧ (okC r c0) ∧ u = σ) (fun (n : String) (u : xW) => ((n = "java/lang/IndexOutOfBoundsException" ∧ ¬ okC r c0)) ∧ u = σ) := by
  obtain ⟨hv, se, sf, nx, ct, SB, HB, tx, ln, hC, hBI, ⟨hnx, hct⟩, ⟨hll, hlq⟩, hS, hSB⟩ := id hr0
  obtain ⟨q0, q1, q2, ⟨X7, q3⟩, ⟨X13, q4⟩, q5, q6, ⟨le, rl, fs, qu, gr, q7⟩, q8, q9⟩ := id hC
  have hhb := hsl_rg hnx.1 hnx.2
  exact c_X6_openings l E ST hSF htr σ r c0 hv se sf Y.2 (opT B) (lkT B) (kpT B) (wcT B) (pnT B) (nwT B) (shB B) (wkB B) q0 q2 hBI hr9 hc9

set_option maxHeartbeats 1000000 in
theorem q_isPinned (l : Launch) (E : xE) (ST : xST) (hSF : SF ST) (htr : l.stackTraces = false) (σ : xW) (r : Int) (c0 : Int) (B : BT) (S : Option BT) (Y : lnQ) (hr0 : cw E σ B S Y) (hr9 : rg r) (hc9 : rg c0) : XI l E ST yX6_isPinned wsX6_isPinned rm_X6_isPinned [.ref (xad E 0), .int (iZ r), .int (iZ c0)] σ (fun (z : Int) (u : xW) => z = b2 (decide (iandZ (ishrZ (pnT B) (r * 5 + c0)) 1 = 1)) ∧ (okC r c0) ∧ u = σ) (fun (n : String) (u : xW) => ((n = "java/lang/IndexOutOfBoundsException" ∧ ¬ okC r c0)) ∧ u = σ) := by
  obtain ⟨hv, se, sf, nx, ct, SB, HB, tx, ln, hC, hBI, ⟨hnx, hct⟩, ⟨hll, hlq⟩, hS, hSB⟩ := id hr0
  obtain ⟨q0, q1, q2, ⟨X7, q3⟩, ⟨X13, q4⟩, q5, q6, ⟨le, rl, fs, qu, gr, q7⟩, q8, q9⟩ := id hC
  have hhb := hsl_rg hnx.1 hnx.2
  exact c_X6_isPinned l E ST hSF htr σ r c0 hv se sf Y.2 (opT B) (lkT B) (kpT B) (wcT B) (pnT B) (nwT B) (shB B) (wkB B) q0 q2 hBI hr9 hc9

set_option maxHeartbeats 1000000 in
theorem q_canShiftRow (l : Launch) (E : xE) (ST : xST) (hSF : SF ST) (htr : l.stackTraces = false) (σ : xW) (r : Int) (B : BT) (S : Option BT) (Y : lnQ) (hr0 : cw E σ B S Y) (hr9 : rg r) : XI l E ST yX6_canShiftRow wsX6_canShiftRow rm_X6_canShiftRow [.ref (xad E 0), .int (iZ r)] σ (fun (z : Int) (u : xW) => z = b2 (lfB (pnT B) (r * 5) 1) ∧ (0 ≤ r ∧ r < 5) ∧ u = σ) (fun (n : String) (u : xW) => ((n = "java/lang/IndexOutOfBoundsException" ∧ ¬ (0 ≤ r ∧ r < 5))) ∧ u = σ) := by
  obtain ⟨hv, se, sf, nx, ct, SB, HB, tx, ln, hC, hBI, ⟨hnx, hct⟩, ⟨hll, hlq⟩, hS, hSB⟩ := id hr0
  obtain ⟨q0, q1, q2, ⟨X7, q3⟩, ⟨X13, q4⟩, q5, q6, ⟨le, rl, fs, qu, gr, q7⟩, q8, q9⟩ := id hC
  have hhb := hsl_rg hnx.1 hnx.2
  exact c_X6_canShiftRow l E ST hSF htr σ r hv se sf Y.2 (opT B) (lkT B) (kpT B) (wcT B) (pnT B) (nwT B) (shB B) (wkB B) q0 q2 hBI hr9

set_option maxHeartbeats 1000000 in
theorem q_canShiftColumn (l : Launch) (E : xE) (ST : xST) (hSF : SF ST) (htr : l.stackTraces = false) (σ : xW) (r : Int) (B : BT) (S : Option BT) (Y : lnQ) (hr0 : cw E σ B S Y) (hr9 : rg r) : XI l E ST yX6_canShiftColumn wsX6_canShiftColumn rm_X6_canShiftColumn [.ref (xad E 0), .int (iZ r)] σ (fun (z : Int) (u : xW) => z = b2 (lfB (pnT B) r 5) ∧ (0 ≤ r ∧ r < 5) ∧ u = σ) (fun (n : String) (u : xW) => ((n = "java/lang/IndexOutOfBoundsException" ∧ ¬ (0 ≤ r ∧ r < 5))) ∧ u = σ) := by
  obtain ⟨hv, se, sf, nx, ct, SB, HB, tx, ln, hC, hBI, ⟨hnx, hct⟩, ⟨hll, hlq⟩, hS, hSB⟩ := id hr0
  obtain ⟨q0, q1, q2, ⟨X7, q3⟩, ⟨X13, q4⟩, q5, q6, ⟨le, rl, fs, qu, gr, q7⟩, q8, q9⟩ := id hC
  have hhb := hsl_rg hnx.1 hnx.2
  exact c_X6_canShiftColumn l E ST hSF htr σ r hv se sf Y.2 (opT B) (lkT B) (kpT B) (wcT B) (pnT B) (nwT B) (shB B) (wkB B) q0 q2 hBI hr9

set_option maxHeartbeats 1000000 in
theorem q_hasLock (l : Launch) (E : xE) (ST : xST) (hSF : SF ST) (htr : l.stackTraces = false) (σ : xW) (r : Int) (c0 : Int) (B : BT) (S : Option BT) (Y : lnQ) (hr0 : cw E σ B S Y) (hr9 : rg r) (hc9 : rg c0) : XI l E ST yX6_hasLock wsX6_hasLock rm_X6_hasLock [.ref (xad E 0), .int (iZ r), .int (iZ c0)] σ (fun (z : Int) (u : xW) => z = b2 (decide (¬ (lkT B) (r * 5 + c0) = -1)) ∧ (okC r c0) ∧ u = σ) (fun (n : String) (u : xW) => ((n = "java/lang/IndexOutOfBoundsException" ∧ ¬ okC r c0)) ∧ u = σ) := by
  obtain ⟨hv, se, sf, nx, ct, SB, HB, tx, ln, hC, hBI, ⟨hnx, hct⟩, ⟨hll, hlq⟩, hS, hSB⟩ := id hr0
  obtain ⟨q0, q1, q2, ⟨X7, q3⟩, ⟨X13, q4⟩, q5, q6, ⟨le, rl, fs, qu, gr, q7⟩, q8, q9⟩ := id hC
  have hhb := hsl_rg hnx.1 hnx.2
  exact c_X6_hasLock l E ST hSF htr σ r c0 hv se sf Y.2 (opT B) (lkT B) (kpT B) (wcT B) (pnT B) (nwT B) (shB B) (wkB B) q0 q2 hBI hr9 hc9

set_option maxHeartbeats 1000000 in
theorem q_lockAt (l : Launch) (E : xE) (ST : xST) (hSF : SF ST) (htr : l.stackTraces = false) (σ : xW) (r : Int) (c0 : Int) (B : BT) (S : Option BT) (Y : lnQ) (hr0 : cw E σ B S Y) (hr9 : rg r) (hc9 : rg c0) : XI l E ST yX6_lockAt wsX6_lockAt rm_X6_lockAt [.ref (xad E 0), .int (iZ r), .int (iZ c0)] σ (fun (z : Int) (u : xW) => z = 97 + (lkT B) (r * 5 + c0) ∧ (okC r c0) ∧ (¬ (lkT B) (r * 5 + c0) = -1) ∧ u = σ) (fun (n : String) (u : xW) => ((n = "java/lang/IndexOutOfBoundsException" ∧ ¬ okC r c0) ∨ (n = "java/util/NoSuchElementException" ∧ okC r c0 ∧ (lkT B) (r * 5 + c0) = -1)) ∧ u = σ) := by
  obtain ⟨hv, se, sf, nx, ct, SB, HB, tx, ln, hC, hBI, ⟨hnx, hct⟩, ⟨hll, hlq⟩, hS, hSB⟩ := id hr0
  obtain ⟨q0, q1, q2, ⟨X7, q3⟩, ⟨X13, q4⟩, q5, q6, ⟨le, rl, fs, qu, gr, q7⟩, q8, q9⟩ := id hC
  have hhb := hsl_rg hnx.1 hnx.2
  exact c_X6_lockAt l E ST hSF htr σ r c0 hv se sf Y.2 (opT B) (lkT B) (kpT B) (wcT B) (pnT B) (nwT B) (shB B) (wkB B) q0 q2 hBI hr9 hc9

set_option maxHeartbeats 1000000 in
theorem q_keysAt (l : Launch) (E : xE) (ST : xST) (hSF : SF ST) (htr : l.stackTraces = false) (σ : xW) (r : Int) (c0 : Int) (B : BT) (S : Option BT) (Y : lnQ) (hr0 : cw E σ B S Y) (hr9 : rg r) (hc9 : rg c0) : XI l E ST yX6_keysAt wsX6_keysAt rm_X6_keysAt [.ref (xad E 0), .int (iZ r), .int (iZ c0)] σ (fun (z : Int) (u : xW) => z = cntK (kpT B) (r * 5 + c0) 6 ∧ (okC r c0) ∧ u = σ) (fun (n : String) (u : xW) => ((n = "java/lang/IndexOutOfBoundsException" ∧ ¬ okC r c0)) ∧ u = σ) := by
  obtain ⟨hv, se, sf, nx, ct, SB, HB, tx, ln, hC, hBI, ⟨hnx, hct⟩, ⟨hll, hlq⟩, hS, hSB⟩ := id hr0
  obtain ⟨q0, q1, q2, ⟨X7, q3⟩, ⟨X13, q4⟩, q5, q6, ⟨le, rl, fs, qu, gr, q7⟩, q8, q9⟩ := id hC
  have hhb := hsl_rg hnx.1 hnx.2
  exact c_X6_keysAt l E ST hSF htr σ r c0 hv se sf Y.2 (opT B) (lkT B) (kpT B) (wcT B) (pnT B) (nwT B) (shB B) (wkB B) q0 q2 hBI hr9 hc9

set_option maxHeartbeats 1000000 in
theorem q_isConnected (l : Launch) (E : xE) (ST : xST) (hSF : SF ST) (htr : l.stackTraces = false) (σ : xW) (r : Int) (c0 : Int) (d : Int) (B : BT) (S : Option BT) (Y : lnQ) (hr0 : cw E σ B S Y) (hr9 : rg r) (hc9 : rg c0) (hd9 : rg d) : XI l E ST yX6_isConnected wsX6_isConnected rm_X6_isConnected [.ref (xad E 0), .int (iZ r), .int (iZ c0), .int (iZ d)] σ (fun (z : Int) (u : xW) => z = b2 (decide (¬ cnZ (opT B) (r * 5 + c0) d = -1)) ∧ (okC r c0) ∧ (0 ≤ d ∧ d < 4) ∧ u = σ) (fun (n : String) (u : xW) => ((n = "java/lang/IndexOutOfBoundsException" ∧ ¬ okC r c0) ∨ (n = "java/lang/IllegalArgumentException" ∧ okC r c0 ∧ ¬ (0 ≤ d ∧ d < 4))) ∧ u = σ) := by
  obtain ⟨hv, se, sf, nx, ct, SB, HB, tx, ln, hC, hBI, ⟨hnx, hct⟩, ⟨hll, hlq⟩, hS, hSB⟩ := id hr0
  obtain ⟨q0, q1, q2, ⟨X7, q3⟩, ⟨X13, q4⟩, q5, q6, ⟨le, rl, fs, qu, gr, q7⟩, q8, q9⟩ := id hC
  have hhb := hsl_rg hnx.1 hnx.2
  exact c_X6_isConnected l E ST hSF htr σ r c0 d hv se sf Y.2 (opT B) (lkT B) (kpT B) (wcT B) (pnT B) (nwT B) (shB B) (wkB B) q0 q2 hBI hr9 hc9 hd9

set_option maxHeartbeats 1000000 in
theorem q_keyRow (l : Launch) (E : xE) (ST : xST) (hSF : SF ST) (htr : l.stackTraces = false) (σ : xW) (k : Int) (B : BT) (S : Option BT) (Y : lnQ) (hr0 : cw E σ B S Y) (hk9 : rg k) : XI l E ST yX6_keyRow wsX6_keyRow rm_X6_keyRow [.ref (xad E 0), .int (iZ k)] σ (fun (z : Int) (u : xW) => z = (kpT B) (k - 97) / 5 ∧ (97 ≤ k ∧ k < 103) ∧ (0 ≤ (kpT B) (k - 97) ∧ (kpT B) (k - 97) < 25) ∧ u = σ) (fun (n : String) (u : xW) => ((n = "java/lang/IllegalArgumentException" ∧ ¬ (97 ≤ k ∧ k < 103)) ∨ (n = "java/util/NoSuchElementException" ∧ (97 ≤ k ∧ k < 103) ∧ ¬ (0 ≤ (kpT B) (k - 97) ∧ (kpT B) (k - 97) < 25))) ∧ u = σ) := by
  obtain ⟨hv, se, sf, nx, ct, SB, HB, tx, ln, hC, hBI, ⟨hnx, hct⟩, ⟨hll, hlq⟩, hS, hSB⟩ := id hr0
  obtain ⟨q0, q1, q2, ⟨X7, q3⟩, ⟨X13, q4⟩, q5, q6, ⟨le, rl, fs, qu, gr, q7⟩, q8, q9⟩ := id hC
  have hhb := hsl_rg hnx.1 hnx.2
  exact c_X6_keyRow l E ST hSF htr σ k hv se sf Y.2 (opT B) (lkT B) (kpT B) (wcT B) (pnT B) (nwT B) (shB B) (wkB B) q0 q2 hBI hk9

set_option maxHeartbeats 1000000 in
theorem q_keyColumn (l : Launch) (E : xE) (ST : xST) (hSF : SF ST) (htr : l.stackTraces = false) (σ : xW) (k : Int) (B : BT) (S : Option BT) (Y : lnQ) (hr0 : cw E σ B S Y) (hk9 : rg k) : XI l E ST yX6_keyColumn wsX6_keyColumn rm_X6_keyColumn [.ref (xad E 0), .int (iZ k)] σ (fun (z : Int) (u : xW) => z = (kpT B) (k - 97) % 5 ∧ (97 ≤ k ∧ k < 103) ∧ (0 ≤ (kpT B) (k - 97) ∧ (kpT B) (k - 97) < 25) ∧ u = σ) (fun (n : String) (u : xW) => ((n = "java/lang/IllegalArgumentException" ∧ ¬ (97 ≤ k ∧ k < 103)) ∨ (n = "java/util/NoSuchElementException" ∧ (97 ≤ k ∧ k < 103) ∧ ¬ (0 ≤ (kpT B) (k - 97) ∧ (kpT B) (k - 97) < 25))) ∧ u = σ) := by
  obtain ⟨hv, se, sf, nx, ct, SB, HB, tx, ln, hC, hBI, ⟨hnx, hct⟩, ⟨hll, hlq⟩, hS, hSB⟩ := id hr0
  obtain ⟨q0, q1, q2, ⟨X7, q3⟩, ⟨X13, q4⟩, q5, q6, ⟨le, rl, fs, qu, gr, q7⟩, q8, q9⟩ := id hC
  have hhb := hsl_rg hnx.1 hnx.2
  exact c_X6_keyColumn l E ST hSF htr σ k hv se sf Y.2 (opT B) (lkT B) (kpT B) (wcT B) (pnT B) (nwT B) (shB B) (wkB B) q0 q2 hBI hk9

set_option maxHeartbeats 1000000 in
theorem q_carrierOf (l : Launch) (E : xE) (ST : xST) (hSF : SF ST) (htr : l.stackTraces = false) (σ : xW) (k : Int) (B : BT) (S : Option BT) (Y : lnQ) (hr0 : cw E σ B S Y) (hk9 : rg k) : XI l E ST yX6_carrierOf wsX6_carrierOf rm_X6_carrierOf [.ref (xad E 0), .int (iZ k)] σ (fun (z : Int) (u : xW) => z = (kpT B) (k - 97) - 25 ∧ (97 ≤ k ∧ k < 103) ∧ (25 ≤ (kpT B) (k - 97)) ∧ u = σ) (fun (n : String) (u : xW) => ((n = "java/lang/IllegalArgumentException" ∧ ¬ (97 ≤ k ∧ k < 103)) ∨ (n = "java/util/NoSuchElementException" ∧ (97 ≤ k ∧ k < 103) ∧ (kpT B) (k - 97) < 25)) ∧ u = σ) := by
  obtain ⟨hv, se, sf, nx, ct, SB, HB, tx, ln, hC, hBI, ⟨hnx, hct⟩, ⟨hll, hlq⟩, hS, hSB⟩ := id hr0
  obtain ⟨q0, q1, q2, ⟨X7, q3⟩, ⟨X13, q4⟩, q5, q6, ⟨le, rl, fs, qu, gr, q7⟩, q8, q9⟩ := id hC
  have hhb := hsl_rg hnx.1 hnx.2
  exact c_X6_carrierOf l E ST hSF htr σ k hv se sf Y.2 (opT B) (lkT B) (kpT B) (wcT B) (pnT B) (nwT B) (shB B) (wkB B) q0 q2 hBI hk9

set_option maxHeartbeats 1000000 in
theorem q_walkerCount (l : Launch) (E : xE) (ST : xST) (hSF : SF ST) (σ : xW) (B : BT) (S : Option BT) (Y : lnQ) (hr0 : cw E σ B S Y) : CI l E ST yX6_walkerCount wsX6_walkerCount rm_X6_walkerCount [.ref (xad E 0)] σ (fun (z : Int) (u : xW) => z = (nwT B) ∧ u = σ) := by
  obtain ⟨hv, se, sf, nx, ct, SB, HB, tx, ln, hC, hBI, ⟨hnx, hct⟩, ⟨hll, hlq⟩, hS, hSB⟩ := id hr0
  obtain ⟨q0, q1, q2, ⟨X7, q3⟩, ⟨X13, q4⟩, q5, q6, ⟨le, rl, fs, qu, gr, q7⟩, q8, q9⟩ := id hC
  have hhb := hsl_rg hnx.1 hnx.2
  exact c_X6_walkerCount l E ST hSF σ hv se sf Y.2 (opT B) (lkT B) (kpT B) (wcT B) (pnT B) (nwT B) (shB B) (wkB B) q0 q2 

set_option maxHeartbeats 1000000 in
theorem q_walkerRow (l : Launch) (E : xE) (ST : xST) (hSF : SF ST) (htr : l.stackTraces = false) (σ : xW) (w : Int) (B : BT) (S : Option BT) (Y : lnQ) (hr0 : cw E σ B S Y) (hw9 : rg w) : XI l E ST yX6_walkerRow wsX6_walkerRow rm_X6_walkerRow [.ref (xad E 0), .int (iZ w)] σ (fun (z : Int) (u : xW) => z = (wcT B) w / 5 ∧ (0 ≤ w ∧ w < (nwT B)) ∧ u = σ) (fun (n : String) (u : xW) => ((n = "java/lang/IndexOutOfBoundsException" ∧ ¬ (0 ≤ w ∧ w < (nwT B)))) ∧ u = σ) := by
  obtain ⟨hv, se, sf, nx, ct, SB, HB, tx, ln, hC, hBI, ⟨hnx, hct⟩, ⟨hll, hlq⟩, hS, hSB⟩ := id hr0
  obtain ⟨q0, q1, q2, ⟨X7, q3⟩, ⟨X13, q4⟩, q5, q6, ⟨le, rl, fs, qu, gr, q7⟩, q8, q9⟩ := id hC
  have hhb := hsl_rg hnx.1 hnx.2
  exact c_X6_walkerRow l E ST hSF htr σ w hv se sf Y.2 (opT B) (lkT B) (kpT B) (wcT B) (pnT B) (nwT B) (shB B) (wkB B) q0 q2 hBI hw9

set_option maxHeartbeats 1000000 in
theorem q_walkerColumn (l : Launch) (E : xE) (ST : xST) (hSF : SF ST) (htr : l.stackTraces = false) (σ : xW) (w : Int) (B : BT) (S : Option BT) (Y : lnQ) (hr0 : cw E σ B S Y) (hw9 : rg w) : XI l E ST yX6_walkerColumn wsX6_walkerColumn rm_X6_walkerColumn [.ref (xad E 0), .int (iZ w)] σ (fun (z : Int) (u : xW) => z = (wcT B) w % 5 ∧ (0 ≤ w ∧ w < (nwT B)) ∧ u = σ) (fun (n : String) (u : xW) => ((n = "java/lang/IndexOutOfBoundsException" ∧ ¬ (0 ≤ w ∧ w < (nwT B)))) ∧ u = σ) := by
  obtain ⟨hv, se, sf, nx, ct, SB, HB, tx, ln, hC, hBI, ⟨hnx, hct⟩, ⟨hll, hlq⟩, hS, hSB⟩ := id hr0
  obtain ⟨q0, q1, q2, ⟨X7, q3⟩, ⟨X13, q4⟩, q5, q6, ⟨le, rl, fs, qu, gr, q7⟩, q8, q9⟩ := id hC
  have hhb := hsl_rg hnx.1 hnx.2
  exact c_X6_walkerColumn l E ST hSF htr σ w hv se sf Y.2 (opT B) (lkT B) (kpT B) (wcT B) (pnT B) (nwT B) (shB B) (wkB B) q0 q2 hBI hw9

set_option maxHeartbeats 1000000 in
theorem q_keysOf (l : Launch) (E : xE) (ST : xST) (hSF : SF ST) (htr : l.stackTraces = false) (σ : xW) (w : Int) (B : BT) (S : Option BT) (Y : lnQ) (hr0 : cw E σ B S Y) (hw9 : rg w) : XI l E ST yX6_keysOf wsX6_keysOf rm_X6_keysOf [.ref (xad E 0), .int (iZ w)] σ (fun (z : Int) (u : xW) => z = cntK (kpT B) (25 + w) 6 ∧ (0 ≤ w ∧ w < (nwT B)) ∧ u = σ) (fun (n : String) (u : xW) => ((n = "java/lang/IndexOutOfBoundsException" ∧ ¬ (0 ≤ w ∧ w < (nwT B)))) ∧ u = σ) := by
  obtain ⟨hv, se, sf, nx, ct, SB, HB, tx, ln, hC, hBI, ⟨hnx, hct⟩, ⟨hll, hlq⟩, hS, hSB⟩ := id hr0
  obtain ⟨q0, q1, q2, ⟨X7, q3⟩, ⟨X13, q4⟩, q5, q6, ⟨le, rl, fs, qu, gr, q7⟩, q8, q9⟩ := id hC
  have hhb := hsl_rg hnx.1 hnx.2
  exact c_X6_keysOf l E ST hSF htr σ w hv se sf Y.2 (opT B) (lkT B) (kpT B) (wcT B) (pnT B) (nwT B) (shB B) (wkB B) q0 q2 hBI hw9

set_option maxHeartbeats 1000000 in
theorem q_shiftCount (l : Launch) (E : xE) (ST : xST) (hSF : SF ST) (σ : xW) (B : BT) (S : Option BT) (Y : lnQ) (hr0 : cw E σ B S Y) : CI l E ST yX6_shiftCount wsX6_shiftCount rm_X6_shiftCount [.ref (xad E 0)] σ (fun (z : Int) (u : xW) => z = (shB B) ∧ u = σ) := by
  obtain ⟨hv, se, sf, nx, ct, SB, HB, tx, ln, hC, hBI, ⟨hnx, hct⟩, ⟨hll, hlq⟩, hS, hSB⟩ := id hr0
  obtain ⟨q0, q1, q2, ⟨X7, q3⟩, ⟨X13, q4⟩, q5, q6, ⟨le, rl, fs, qu, gr, q7⟩, q8, q9⟩ := id hC
  have hhb := hsl_rg hnx.1 hnx.2
  exact c_X6_shiftCount l E ST hSF σ hv se sf Y.2 (opT B) (lkT B) (kpT B) (wcT B) (pnT B) (nwT B) (shB B) (wkB B) q0 q2 

set_option maxHeartbeats 1000000 in
theorem q_walkedTotal (l : Launch) (E : xE) (ST : xST) (hSF : SF ST) (σ : xW) (B : BT) (S : Option BT) (Y : lnQ) (hr0 : cw E σ B S Y) : CL l E ST yX6_walkedTotal wsX6_walkedTotal rm_X6_walkedTotal [.ref (xad E 0)] σ (fun z (u : xW) => z = lZ (wkB B) ∧ u = σ) := by
  obtain ⟨hv, se, sf, nx, ct, SB, HB, tx, ln, hC, hBI, ⟨hnx, hct⟩, ⟨hll, hlq⟩, hS, hSB⟩ := id hr0
  obtain ⟨q0, q1, q2, ⟨X7, q3⟩, ⟨X13, q4⟩, q5, q6, ⟨le, rl, fs, qu, gr, q7⟩, q8, q9⟩ := id hC
  have hhb := hsl_rg hnx.1 hnx.2
  exact c_X6_walkedTotal l E ST hSF σ hv se sf Y.2 (opT B) (lkT B) (kpT B) (wcT B) (pnT B) (nwT B) (shB B) (wkB B) q0 q2 

set_option maxHeartbeats 1000000 in
theorem q_meanOpenings (l : Launch) (E : xE) (ST : xST) (hSF : SF ST) (σ : xW) (B : BT) (S : Option BT) (Y : lnQ) (hr0 : cw E σ B S Y) : CD l E ST yX6_meanOpenings wsX6_meanOpenings rm_X6_meanOpenings [.ref (xad E 0)] σ (fun z (u : xW) => z = meD (smK (fun c => bcZ ((opT B) c)) 25) ∧ u = σ) := by
  obtain ⟨hv, se, sf, nx, ct, SB, HB, tx, ln, hC, hBI, ⟨hnx, hct⟩, ⟨hll, hlq⟩, hS, hSB⟩ := id hr0
  obtain ⟨q0, q1, q2, ⟨X7, q3⟩, ⟨X13, q4⟩, q5, q6, ⟨le, rl, fs, qu, gr, q7⟩, q8, q9⟩ := id hC
  have hhb := hsl_rg hnx.1 hnx.2
  exact c_X6_meanOpenings l E ST hSF σ hv se sf Y.2 (opT B) (lkT B) (kpT B) (wcT B) (pnT B) (nwT B) (shB B) (wkB B) q0 q2 hBI

set_option maxHeartbeats 1000000 in
theorem q_outputAt (l : Launch) (E : xE) (ST : xST) (hSF : SF ST) (htr : l.stackTraces = false) (σ : xW) (i9 : Int) (B : BT) (S : Option BT) (Y : lnQ) (hr0 : cw E σ B S Y) (hi9 : rg i9) : XI l E ST yX6_outputAt wsX6_outputAt rm_X6_outputAt [.ref (xad E 0), .int (iZ i9)] σ (fun (z : Int) (u : xW) => z = Y.1 i9 ∧ (0 ≤ i9 ∧ i9 < Y.2) ∧ u = σ) (fun (n : String) (u : xW) => ((n = "java/lang/IndexOutOfBoundsException" ∧ ¬ (0 ≤ i9 ∧ i9 < Y.2))) ∧ u = σ) := by
  obtain ⟨hv, se, sf, nx, ct, SB, HB, tx, ln, hC, hBI, ⟨hnx, hct⟩, ⟨hll, hlq⟩, hS, hSB⟩ := id hr0
  obtain ⟨q0, q1, q2, ⟨X7, q3⟩, ⟨X13, q4⟩, q5, q6, ⟨le, rl, fs, qu, gr, q7⟩, q8, q9⟩ := id hC
  have hhb := hsl_rg hnx.1 hnx.2
  exact c_X6_outputAt l E ST hSF htr σ i9 hv se sf Y.2 Y.1 q0 q9 hi9 hll hlq

set_option maxHeartbeats 1000000 in
theorem q_openings0 (l : Launch) (E : xE) (ST : xST) (hSF : SF ST) (σ : xW) (r : Int) (c0 : Int) (B : BT) (S : Option BT) (Y : lnQ) (hr0 : cw E σ B S Y) (hr9 : rg r) (hc9 : rg c0) (hok : okC r c0) : CI l E ST yX6_openings wsX6_openings rm_X6_openings0 [.ref (xad E 0), .int (iZ r), .int (iZ c0)] σ (fun (z : Int) (u : xW) => z = (opT B) (r * 5 + c0) ∧ u = σ) := by
  obtain ⟨hv, se, sf, nx, ct, SB, HB, tx, ln, hC, hBI, ⟨hnx, hct⟩, ⟨hll, hlq⟩, hS, hSB⟩ := id hr0
  obtain ⟨q0, q1, q2, ⟨X7, q3⟩, ⟨X13, q4⟩, q5, q6, ⟨le, rl, fs, qu, gr, q7⟩, q8, q9⟩ := id hC
  have hhb := hsl_rg hnx.1 hnx.2
  exact c_X6_openings0 l E ST hSF σ r c0 hv se sf Y.2 (opT B) (lkT B) (kpT B) (wcT B) (pnT B) (nwT B) (shB B) (wkB B) q0 q2 hBI hr9 hc9 hok

set_option maxHeartbeats 1000000 in
theorem q_isPinned0 (l : Launch) (E : xE) (ST : xST) (hSF : SF ST) (σ : xW) (r : Int) (c0 : Int) (B : BT) (S : Option BT) (Y : lnQ) (hr0 : cw E σ B S Y) (hr9 : rg r) (hc9 : rg c0) (hok : okC r c0) : CI l E ST yX6_isPinned wsX6_isPinned rm_X6_isPinned0 [.ref (xad E 0), .int (iZ r), .int (iZ c0)] σ (fun (z : Int) (u : xW) => z = b2 (decide (iandZ (ishrZ (pnT B) (r * 5 + c0)) 1 = 1)) ∧ u = σ) := by
  obtain ⟨hv, se, sf, nx, ct, SB, HB, tx, ln, hC, hBI, ⟨hnx, hct⟩, ⟨hll, hlq⟩, hS, hSB⟩ := id hr0
  obtain ⟨q0, q1, q2, ⟨X7, q3⟩, ⟨X13, q4⟩, q5, q6, ⟨le, rl, fs, qu, gr, q7⟩, q8, q9⟩ := id hC
  have hhb := hsl_rg hnx.1 hnx.2
  exact c_X6_isPinned0 l E ST hSF σ r c0 hv se sf Y.2 (opT B) (lkT B) (kpT B) (wcT B) (pnT B) (nwT B) (shB B) (wkB B) q0 q2 hBI hr9 hc9 hok

set_option maxHeartbeats 1000000 in
theorem q_canShiftRow0 (l : Launch) (E : xE) (ST : xST) (hSF : SF ST) (σ : xW) (r : Int) (B : BT) (S : Option BT) (Y : lnQ) (hr0 : cw E σ B S Y) (hr9 : rg r) (hok : 0 ≤ r ∧ r < 5) : CI l E ST yX6_canShiftRow wsX6_canShiftRow rm_X6_canShiftRow0 [.ref (xad E 0), .int (iZ r)] σ (fun (z : Int) (u : xW) => z = b2 (lfB (pnT B) (r * 5) 1) ∧ u = σ) := by
  obtain ⟨hv, se, sf, nx, ct, SB, HB, tx, ln, hC, hBI, ⟨hnx, hct⟩, ⟨hll, hlq⟩, hS, hSB⟩ := id hr0
  obtain ⟨q0, q1, q2, ⟨X7, q3⟩, ⟨X13, q4⟩, q5, q6, ⟨le, rl, fs, qu, gr, q7⟩, q8, q9⟩ := id hC
  have hhb := hsl_rg hnx.1 hnx.2
  exact c_X6_canShiftRow0 l E ST hSF σ r hv se sf Y.2 (opT B) (lkT B) (kpT B) (wcT B) (pnT B) (nwT B) (shB B) (wkB B) q0 q2 hBI hr9 hok

set_option maxHeartbeats 1000000 in
theorem q_canShiftColumn0 (l : Launch) (E : xE) (ST : xST) (hSF : SF ST) (σ : xW) (r : Int) (B : BT) (S : Option BT) (Y : lnQ) (hr0 : cw E σ B S Y) (hr9 : rg r) (hok : 0 ≤ r ∧ r < 5) : CI l E ST yX6_canShiftColumn wsX6_canShiftColumn rm_X6_canShiftColumn0 [.ref (xad E 0), .int (iZ r)] σ (fun (z : Int) (u : xW) => z = b2 (lfB (pnT B) r 5) ∧ u = σ) := by
  obtain ⟨hv, se, sf, nx, ct, SB, HB, tx, ln, hC, hBI, ⟨hnx, hct⟩, ⟨hll, hlq⟩, hS, hSB⟩ := id hr0
  obtain ⟨q0, q1, q2, ⟨X7, q3⟩, ⟨X13, q4⟩, q5, q6, ⟨le, rl, fs, qu, gr, q7⟩, q8, q9⟩ := id hC
  have hhb := hsl_rg hnx.1 hnx.2
  exact c_X6_canShiftColumn0 l E ST hSF σ r hv se sf Y.2 (opT B) (lkT B) (kpT B) (wcT B) (pnT B) (nwT B) (shB B) (wkB B) q0 q2 hBI hr9 hok

set_option maxHeartbeats 1000000 in
theorem q_hasLock0 (l : Launch) (E : xE) (ST : xST) (hSF : SF ST) (σ : xW) (r : Int) (c0 : Int) (B : BT) (S : Option BT) (Y : lnQ) (hr0 : cw E σ B S Y) (hr9 : rg r) (hc9 : rg c0) (hok : okC r c0) : CI l E ST yX6_hasLock wsX6_hasLock rm_X6_hasLock0 [.ref (xad E 0), .int (iZ r), .int (iZ c0)] σ (fun (z : Int) (u : xW) => z = b2 (decide (¬ (lkT B) (r * 5 + c0) = -1)) ∧ u = σ) := by
  obtain ⟨hv, se, sf, nx, ct, SB, HB, tx, ln, hC, hBI, ⟨hnx, hct⟩, ⟨hll, hlq⟩, hS, hSB⟩ := id hr0
  obtain ⟨q0, q1, q2, ⟨X7, q3⟩, ⟨X13, q4⟩, q5, q6, ⟨le, rl, fs, qu, gr, q7⟩, q8, q9⟩ := id hC
  have hhb := hsl_rg hnx.1 hnx.2
  exact c_X6_hasLock0 l E ST hSF σ r c0 hv se sf Y.2 (opT B) (lkT B) (kpT B) (wcT B) (pnT B) (nwT B) (shB B) (wkB B) q0 q2 hBI hr9 hc9 hok

set_option maxHeartbeats 1000000 in
theorem q_lockAt1 (l : Launch) (E : xE) (ST : xST) (hSF : SF ST) (htr : l.stackTraces = false) (σ : xW) (r : Int) (c0 : Int) (B : BT) (S : Option BT) (Y : lnQ) (hr0 : cw E σ B S Y) (hr9 : rg r) (hc9 : rg c0) (hok : okC r c0) : XI l E ST yX6_lockAt wsX6_lockAt rm_X6_lockAt1 [.ref (xad E 0), .int (iZ r), .int (iZ c0)] σ (fun (z : Int) (u : xW) => z = 97 + (lkT B) (r * 5 + c0) ∧ (¬ (lkT B) (r * 5 + c0) = -1) ∧ u = σ) (fun (n : String) (u : xW) => ((n = "java/util/NoSuchElementException" ∧ (lkT B) (r * 5 + c0) = -1)) ∧ u = σ) := by
  obtain ⟨hv, se, sf, nx, ct, SB, HB, tx, ln, hC, hBI, ⟨hnx, hct⟩, ⟨hll, hlq⟩, hS, hSB⟩ := id hr0
  obtain ⟨q0, q1, q2, ⟨X7, q3⟩, ⟨X13, q4⟩, q5, q6, ⟨le, rl, fs, qu, gr, q7⟩, q8, q9⟩ := id hC
  have hhb := hsl_rg hnx.1 hnx.2
  exact c_X6_lockAt1 l E ST hSF htr σ r c0 hv se sf Y.2 (opT B) (lkT B) (kpT B) (wcT B) (pnT B) (nwT B) (shB B) (wkB B) q0 q2 hBI hr9 hc9 hok

set_option maxHeartbeats 1000000 in
theorem q_lockAt0 (l : Launch) (E : xE) (ST : xST) (hSF : SF ST) (σ : xW) (r : Int) (c0 : Int) (B : BT) (S : Option BT) (Y : lnQ) (hr0 : cw E σ B S Y) (hr9 : rg r) (hc9 : rg c0) (hok : okC r c0) (hlo : ¬ (lkT B) (r * 5 + c0) = -1) : CI l E ST yX6_lockAt wsX6_lockAt rm_X6_lockAt0 [.ref (xad E 0), .int (iZ r), .int (iZ c0)] σ (fun (z : Int) (u : xW) => z = 97 + (lkT B) (r * 5 + c0) ∧ u = σ) := by
  obtain ⟨hv, se, sf, nx, ct, SB, HB, tx, ln, hC, hBI, ⟨hnx, hct⟩, ⟨hll, hlq⟩, hS, hSB⟩ := id hr0
  obtain ⟨q0, q1, q2, ⟨X7, q3⟩, ⟨X13, q4⟩, q5, q6, ⟨le, rl, fs, qu, gr, q7⟩, q8, q9⟩ := id hC
  have hhb := hsl_rg hnx.1 hnx.2
  exact c_X6_lockAt0 l E ST hSF σ r c0 hv se sf Y.2 (opT B) (lkT B) (kpT B) (wcT B) (pnT B) (nwT B) (shB B) (wkB B) q0 q2 hBI hr9 hc9 hok hlo

set_option maxHeartbeats 1000000 in
theorem q_keysAt0 (l : Launch) (E : xE) (ST : xST) (hSF : SF ST) (σ : xW) (r : Int) (c0 : Int) (B : BT) (S : Option BT) (Y : lnQ) (hr0 : cw E σ B S Y) (hr9 : rg r) (hc9 : rg c0) (hok : okC r c0) : CI l E ST yX6_keysAt wsX6_keysAt rm_X6_keysAt0 [.ref (xad E 0), .int (iZ r), .int (iZ c0)] σ (fun (z : Int) (u : xW) => z = cntK (kpT B) (r * 5 + c0) 6 ∧ u = σ) := by
  obtain ⟨hv, se, sf, nx, ct, SB, HB, tx, ln, hC, hBI, ⟨hnx, hct⟩, ⟨hll, hlq⟩, hS, hSB⟩ := id hr0
  obtain ⟨q0, q1, q2, ⟨X7, q3⟩, ⟨X13, q4⟩, q5, q6, ⟨le, rl, fs, qu, gr, q7⟩, q8, q9⟩ := id hC
  have hhb := hsl_rg hnx.1 hnx.2
  exact c_X6_keysAt0 l E ST hSF σ r c0 hv se sf Y.2 (opT B) (lkT B) (kpT B) (wcT B) (pnT B) (nwT B) (shB B) (wkB B) q0 q2 hBI hr9 hc9 hok

set_option maxHeartbeats 1000000 in
theorem q_isConnected0 (l : Launch) (E : xE) (ST : xST) (hSF : SF ST) (σ : xW) (r : Int) (c0 : Int) (d : Int) (B : BT) (S : Option BT) (Y : lnQ) (hr0 : cw E σ B S Y) (hr9 : rg r) (hc9 : rg c0) (hd9 : rg d) (hok : okC r c0) (hd0 : 0 ≤ d ∧ d < 4) : CI l E ST yX6_isConnected wsX6_isConnected rm_X6_isConnected0 [.ref (xad E 0), .int (iZ r), .int (iZ c0), .int (iZ d)] σ (fun (z : Int) (u : xW) => z = b2 (decide (¬ cnZ (opT B) (r * 5 + c0) d = -1)) ∧ u = σ) := by
  obtain ⟨hv, se, sf, nx, ct, SB, HB, tx, ln, hC, hBI, ⟨hnx, hct⟩, ⟨hll, hlq⟩, hS, hSB⟩ := id hr0
  obtain ⟨q0, q1, q2, ⟨X7, q3⟩, ⟨X13, q4⟩, q5, q6, ⟨le, rl, fs, qu, gr, q7⟩, q8, q9⟩ := id hC
  have hhb := hsl_rg hnx.1 hnx.2
  exact c_X6_isConnected0 l E ST hSF σ r c0 d hv se sf Y.2 (opT B) (lkT B) (kpT B) (wcT B) (pnT B) (nwT B) (shB B) (wkB B) q0 q2 hBI hr9 hc9 hd9 hok hd0

set_option maxHeartbeats 1000000 in
theorem q_keyRow1 (l : Launch) (E : xE) (ST : xST) (hSF : SF ST) (htr : l.stackTraces = false) (σ : xW) (k : Int) (B : BT) (S : Option BT) (Y : lnQ) (hr0 : cw E σ B S Y) (hk9 : rg k) (hok : 97 ≤ k ∧ k < 103) : XI l E ST yX6_keyRow wsX6_keyRow rm_X6_keyRow1 [.ref (xad E 0), .int (iZ k)] σ (fun (z : Int) (u : xW) => z = (kpT B) (k - 97) / 5 ∧ (0 ≤ (kpT B) (k - 97) ∧ (kpT B) (k - 97) < 25) ∧ u = σ) (fun (n : String) (u : xW) => ((n = "java/util/NoSuchElementException" ∧ ¬ (0 ≤ (kpT B) (k - 97) ∧ (kpT B) (k - 97) < 25))) ∧ u = σ) := by
  obtain ⟨hv, se, sf, nx, ct, SB, HB, tx, ln, hC, hBI, ⟨hnx, hct⟩, ⟨hll, hlq⟩, hS, hSB⟩ := id hr0
  obtain ⟨q0, q1, q2, ⟨X7, q3⟩, ⟨X13, q4⟩, q5, q6, ⟨le, rl, fs, qu, gr, q7⟩, q8, q9⟩ := id hC
  have hhb := hsl_rg hnx.1 hnx.2
  exact c_X6_keyRow1 l E ST hSF htr σ k hv se sf Y.2 (opT B) (lkT B) (kpT B) (wcT B) (pnT B) (nwT B) (shB B) (wkB B) q0 q2 hBI hk9 hok

set_option maxHeartbeats 1000000 in
theorem q_keyColumn0 (l : Launch) (E : xE) (ST : xST) (hSF : SF ST) (σ : xW) (k : Int) (B : BT) (S : Option BT) (Y : lnQ) (hr0 : cw E σ B S Y) (hk9 : rg k) (hok : 97 ≤ k ∧ k < 103) (hli : 0 ≤ (kpT B) (k - 97) ∧ (kpT B) (k - 97) < 25) : CI l E ST yX6_keyColumn wsX6_keyColumn rm_X6_keyColumn0 [.ref (xad E 0), .int (iZ k)] σ (fun (z : Int) (u : xW) => z = (kpT B) (k - 97) % 5 ∧ u = σ) := by
  obtain ⟨hv, se, sf, nx, ct, SB, HB, tx, ln, hC, hBI, ⟨hnx, hct⟩, ⟨hll, hlq⟩, hS, hSB⟩ := id hr0
  obtain ⟨q0, q1, q2, ⟨X7, q3⟩, ⟨X13, q4⟩, q5, q6, ⟨le, rl, fs, qu, gr, q7⟩, q8, q9⟩ := id hC
  have hhb := hsl_rg hnx.1 hnx.2
  exact c_X6_keyColumn0 l E ST hSF σ k hv se sf Y.2 (opT B) (lkT B) (kpT B) (wcT B) (pnT B) (nwT B) (shB B) (wkB B) q0 q2 hBI hk9 hok hli

set_option maxHeartbeats 1000000 in
theorem q_carrierOf1 (l : Launch) (E : xE) (ST : xST) (hSF : SF ST) (htr : l.stackTraces = false) (σ : xW) (k : Int) (B : BT) (S : Option BT) (Y : lnQ) (hr0 : cw E σ B S Y) (hk9 : rg k) (hok : 97 ≤ k ∧ k < 103) : XI l E ST yX6_carrierOf wsX6_carrierOf rm_X6_carrierOf1 [.ref (xad E 0), .int (iZ k)] σ (fun (z : Int) (u : xW) => z = (kpT B) (k - 97) - 25 ∧ (25 ≤ (kpT B) (k - 97)) ∧ u = σ) (fun (n : String) (u : xW) => ((n = "java/util/NoSuchElementException" ∧ (kpT B) (k - 97) < 25)) ∧ u = σ) := by
  obtain ⟨hv, se, sf, nx, ct, SB, HB, tx, ln, hC, hBI, ⟨hnx, hct⟩, ⟨hll, hlq⟩, hS, hSB⟩ := id hr0
  obtain ⟨q0, q1, q2, ⟨X7, q3⟩, ⟨X13, q4⟩, q5, q6, ⟨le, rl, fs, qu, gr, q7⟩, q8, q9⟩ := id hC
  have hhb := hsl_rg hnx.1 hnx.2
  exact c_X6_carrierOf1 l E ST hSF htr σ k hv se sf Y.2 (opT B) (lkT B) (kpT B) (wcT B) (pnT B) (nwT B) (shB B) (wkB B) q0 q2 hBI hk9 hok

set_option maxHeartbeats 1000000 in
theorem q_walkerRow0 (l : Launch) (E : xE) (ST : xST) (hSF : SF ST) (σ : xW) (w : Int) (B : BT) (S : Option BT) (Y : lnQ) (hr0 : cw E σ B S Y) (hw9 : rg w) (hok : 0 ≤ w ∧ w < (nwT B)) : CI l E ST yX6_walkerRow wsX6_walkerRow rm_X6_walkerRow0 [.ref (xad E 0), .int (iZ w)] σ (fun (z : Int) (u : xW) => z = (wcT B) w / 5 ∧ u = σ) := by
  obtain ⟨hv, se, sf, nx, ct, SB, HB, tx, ln, hC, hBI, ⟨hnx, hct⟩, ⟨hll, hlq⟩, hS, hSB⟩ := id hr0
  obtain ⟨q0, q1, q2, ⟨X7, q3⟩, ⟨X13, q4⟩, q5, q6, ⟨le, rl, fs, qu, gr, q7⟩, q8, q9⟩ := id hC
  have hhb := hsl_rg hnx.1 hnx.2
  exact c_X6_walkerRow0 l E ST hSF σ w hv se sf Y.2 (opT B) (lkT B) (kpT B) (wcT B) (pnT B) (nwT B) (shB B) (wkB B) q0 q2 hBI hw9 hok

set_option maxHeartbeats 1000000 in
theorem q_walkerColumn0 (l : Launch) (E : xE) (ST : xST) (hSF : SF ST) (σ : xW) (w : Int) (B : BT) (S : Option BT) (Y : lnQ) (hr0 : cw E σ B S Y) (hw9 : rg w) (hok : 0 ≤ w ∧ w < (nwT B)) : CI l E ST yX6_walkerColumn wsX6_walkerColumn rm_X6_walkerColumn0 [.ref (xad E 0), .int (iZ w)] σ (fun (z : Int) (u : xW) => z = (wcT B) w % 5 ∧ u = σ) := by
  obtain ⟨hv, se, sf, nx, ct, SB, HB, tx, ln, hC, hBI, ⟨hnx, hct⟩, ⟨hll, hlq⟩, hS, hSB⟩ := id hr0
  obtain ⟨q0, q1, q2, ⟨X7, q3⟩, ⟨X13, q4⟩, q5, q6, ⟨le, rl, fs, qu, gr, q7⟩, q8, q9⟩ := id hC
  have hhb := hsl_rg hnx.1 hnx.2
  exact c_X6_walkerColumn0 l E ST hSF σ w hv se sf Y.2 (opT B) (lkT B) (kpT B) (wcT B) (pnT B) (nwT B) (shB B) (wkB B) q0 q2 hBI hw9 hok

set_option maxHeartbeats 1000000 in
theorem q_keysOf0 (l : Launch) (E : xE) (ST : xST) (hSF : SF ST) (σ : xW) (w : Int) (B : BT) (S : Option BT) (Y : lnQ) (hr0 : cw E σ B S Y) (hw9 : rg w) (hok : 0 ≤ w ∧ w < (nwT B)) : CI l E ST yX6_keysOf wsX6_keysOf rm_X6_keysOf0 [.ref (xad E 0), .int (iZ w)] σ (fun (z : Int) (u : xW) => z = cntK (kpT B) (25 + w) 6 ∧ u = σ) := by
  obtain ⟨hv, se, sf, nx, ct, SB, HB, tx, ln, hC, hBI, ⟨hnx, hct⟩, ⟨hll, hlq⟩, hS, hSB⟩ := id hr0
  obtain ⟨q0, q1, q2, ⟨X7, q3⟩, ⟨X13, q4⟩, q5, q6, ⟨le, rl, fs, qu, gr, q7⟩, q8, q9⟩ := id hC
  have hhb := hsl_rg hnx.1 hnx.2
  exact c_X6_keysOf0 l E ST hSF σ w hv se sf Y.2 (opT B) (lkT B) (kpT B) (wcT B) (pnT B) (nwT B) (shB B) (wkB B) q0 q2 hBI hw9 hok

set_option maxHeartbeats 1000000 in
theorem q_outputAt0 (l : Launch) (E : xE) (ST : xST) (hSF : SF ST) (σ : xW) (i9 : Int) (B : BT) (S : Option BT) (Y : lnQ) (hr0 : cw E σ B S Y) (hi9 : rg i9) (hok : 0 ≤ i9 ∧ i9 < Y.2) : CI l E ST yX6_outputAt wsX6_outputAt rm_X6_outputAt0 [.ref (xad E 0), .int (iZ i9)] σ (fun (z : Int) (u : xW) => z = Y.1 i9 ∧ u = σ) := by
  obtain ⟨hv, se, sf, nx, ct, SB, HB, tx, ln, hC, hBI, ⟨hnx, hct⟩, ⟨hll, hlq⟩, hS, hSB⟩ := id hr0
  obtain ⟨q0, q1, q2, ⟨X7, q3⟩, ⟨X13, q4⟩, q5, q6, ⟨le, rl, fs, qu, gr, q7⟩, q8, q9⟩ := id hC
  have hhb := hsl_rg hnx.1 hnx.2
  exact c_X6_outputAt0 l E ST hSF σ i9 hv se sf Y.2 Y.1 q0 q9 hi9 hll hlq hok

set_option maxHeartbeats 1000000 in
theorem q_regionCount (l : Launch) (E : xE) (ST : xST) (hSF : SF ST) (σ : xW) (B : BT) (S : Option BT) (Y : lnQ) (hr0 : cw E σ B S Y) : CI l E ST yX6_regionCount wsX6_regionCount rm_X6_regionCount [.ref (xad E 0)] σ (fun (z : Int) (u : xW) => z = ngZ (opT B) ∧ (cw E u B S Y) ∧ ∀ j : Nat, (j < 0 ∨ 0 + 85 ≤ j) → u j = σ j) := by
  obtain ⟨hv, se, sf, nx, ct, SB, HB, tx, ln, hC, hBI, ⟨hnx, hct⟩, ⟨hll, hlq⟩, hS, hSB⟩ := id hr0
  obtain ⟨q0, q1, q2, ⟨X7, q3⟩, ⟨X13, q4⟩, q5, q6, ⟨le, rl, fs, qu, gr, q7⟩, q8, q9⟩ := id hC
  have hhb := hsl_rg hnx.1 hnx.2
  refine (c_X6_regionCount l E ST hSF σ hv se sf Y.2 (opT B) (lkT B) (kpT B) (wcT B) (pnT B) (nwT B) (shB B) (wkB B) le rl fs qu gr q0 q2 q7 hBI).imp (fun z u h => ?_)
  · obtain ⟨hz, ⟨le1, rl1, fs1, qu1, gr1, a0, a1, a2⟩, fr⟩ := h
    exact ⟨hz, hr0.sq ⟨_, _, _, _, _, a2⟩ fr, fun j hj => fr j (by omega)⟩

set_option maxHeartbeats 1000000 in
theorem q_regionCountByMerging (l : Launch) (E : xE) (ST : xST) (hSF : SF ST) (σ : xW) (B : BT) (S : Option BT) (Y : lnQ) (hr0 : cw E σ B S Y) : CI l E ST yX6_regionCountByMerging wsX6_regionCountByMerging rm_X6_regionCountByMerging [.ref (xad E 0)] σ (fun (z : Int) (u : xW) => z = ngZ (opT B) ∧ (cw E u B S Y) ∧ ∀ j : Nat, (j < 0 ∨ 0 + 85 ≤ j) → u j = σ j) := by
  obtain ⟨hv, se, sf, nx, ct, SB, HB, tx, ln, hC, hBI, ⟨hnx, hct⟩, ⟨hll, hlq⟩, hS, hSB⟩ := id hr0
  obtain ⟨q0, q1, q2, ⟨X7, q3⟩, ⟨X13, q4⟩, q5, q6, ⟨le, rl, fs, qu, gr, q7⟩, q8, q9⟩ := id hC
  have hhb := hsl_rg hnx.1 hnx.2
  refine (c_X6_regionCountByMerging l E ST hSF σ hv se sf Y.2 (opT B) (lkT B) (kpT B) (wcT B) (pnT B) (nwT B) (shB B) (wkB B) le rl fs qu gr q0 q2 q7 hBI).imp (fun z u h => ?_)
  · obtain ⟨hz, ⟨le1, rl1, fs1, qu1, gr1, a0, a1, a2⟩, fr⟩ := h
    exact ⟨hz, hr0.sq ⟨_, _, _, _, _, a2⟩ fr, fun j hj => fr j (by omega)⟩

set_option maxHeartbeats 1000000 in
theorem q_pathLength (l : Launch) (E : xE) (ST : xST) (hSF : SF ST) (htr : l.stackTraces = false) (σ : xW) (w : Int) (r : Int) (c0 : Int) (B : BT) (S : Option BT) (Y : lnQ) (hr0 : cw E σ B S Y) (hr9 : rg r) (hc9 : rg c0) (hw9 : rg w) : XI l E ST yX6_pathLength wsX6_pathLength rm_X6_pathLength [.ref (xad E 0), .int (iZ w), .int (iZ r), .int (iZ c0)] σ (fun (z : Int) (u : xW) => z = dz (Gw (opT B) (lkT B) (kpT B) w) ((wcT B) w) (r * 5 + c0) ∧ (cw E u B S Y ∧ (0 ≤ w ∧ w < (nwT B)) ∧ (okC r c0) ∧ (dz (Gw (opT B) (lkT B) (kpT B) w) ((wcT B) w) (r * 5 + c0) < 25)) ∧ ∀ j : Nat, (j < 0 ∨ 0 + 85 ≤ j) → u j = σ j) (fun (n : String) (u : xW) => ((n = "java/lang/IndexOutOfBoundsException" ∧ ¬ ((0 ≤ w ∧ w < (nwT B)) ∧ okC r c0)) ∨ (n = "java/util/NoSuchElementException" ∧ ((0 ≤ w ∧ w < (nwT B)) ∧ okC r c0) ∧ 25 ≤ dz (Gw (opT B) (lkT B) (kpT B) w) ((wcT B) w) (r * 5 + c0))) ∧ (cw E u B S Y) ∧ ∀ j : Nat, (j < 0 ∨ 0 + 85 ≤ j) → u j = σ j) := by
  obtain ⟨hv, se, sf, nx, ct, SB, HB, tx, ln, hC, hBI, ⟨hnx, hct⟩, ⟨hll, hlq⟩, hS, hSB⟩ := id hr0
  obtain ⟨q0, q1, q2, ⟨X7, q3⟩, ⟨X13, q4⟩, q5, q6, ⟨le, rl, fs, qu, gr, q7⟩, q8, q9⟩ := id hC
  have hhb := hsl_rg hnx.1 hnx.2
  refine (c_X6_pathLength l E ST hSF htr σ w r c0 hv se sf Y.2 (opT B) (lkT B) (kpT B) (wcT B) (pnT B) (nwT B) (shB B) (wkB B) le rl fs qu gr q0 q2 q7 hBI hr9 hc9 hw9).imp (fun z u h => ?_) (fun n u h => ?_)
  · obtain ⟨hz, ⟨le1, rl1, fs1, qu1, gr1, a0, a1, a2, g0, g1, g2⟩, fr⟩ := h
    exact ⟨hz, ⟨hr0.sq ⟨_, _, _, _, _, a2⟩ fr, g0, g1, g2⟩, fun j hj => fr j (by omega)⟩
  · obtain ⟨hz, ⟨le1, rl1, fs1, qu1, gr1, a0, a1, a2⟩, fr⟩ := h
    exact ⟨hz, hr0.sq ⟨_, _, _, _, _, a2⟩ fr, fun j hj => fr j (by omega)⟩

set_option maxHeartbeats 1000000 in
theorem q_pathLengthByRounds (l : Launch) (E : xE) (ST : xST) (hSF : SF ST) (htr : l.stackTraces = false) (σ : xW) (w : Int) (r : Int) (c0 : Int) (B : BT) (S : Option BT) (Y : lnQ) (hr0 : cw E σ B S Y) (hr9 : rg r) (hc9 : rg c0) (hw9 : rg w) : XI l E ST yX6_pathLengthByRounds wsX6_pathLengthByRounds rm_X6_pathLengthByRounds [.ref (xad E 0), .int (iZ w), .int (iZ r), .int (iZ c0)] σ (fun (z : Int) (u : xW) => z = dz (Gw (opT B) (lkT B) (kpT B) w) ((wcT B) w) (r * 5 + c0) ∧ (cw E u B S Y ∧ (0 ≤ w ∧ w < (nwT B)) ∧ (okC r c0) ∧ (dz (Gw (opT B) (lkT B) (kpT B) w) ((wcT B) w) (r * 5 + c0) < 25)) ∧ ∀ j : Nat, (j < 0 ∨ 0 + 85 ≤ j) → u j = σ j) (fun (n : String) (u : xW) => ((n = "java/lang/IndexOutOfBoundsException" ∧ ¬ ((0 ≤ w ∧ w < (nwT B)) ∧ okC r c0)) ∨ (n = "java/util/NoSuchElementException" ∧ ((0 ≤ w ∧ w < (nwT B)) ∧ okC r c0) ∧ 25 ≤ dz (Gw (opT B) (lkT B) (kpT B) w) ((wcT B) w) (r * 5 + c0))) ∧ (cw E u B S Y) ∧ ∀ j : Nat, (j < 0 ∨ 0 + 85 ≤ j) → u j = σ j) := by
  obtain ⟨hv, se, sf, nx, ct, SB, HB, tx, ln, hC, hBI, ⟨hnx, hct⟩, ⟨hll, hlq⟩, hS, hSB⟩ := id hr0
  obtain ⟨q0, q1, q2, ⟨X7, q3⟩, ⟨X13, q4⟩, q5, q6, ⟨le, rl, fs, qu, gr, q7⟩, q8, q9⟩ := id hC
  have hhb := hsl_rg hnx.1 hnx.2
  refine (c_X6_pathLengthByRounds l E ST hSF htr σ w r c0 hv se sf Y.2 (opT B) (lkT B) (kpT B) (wcT B) (pnT B) (nwT B) (shB B) (wkB B) le rl fs qu gr q0 q2 q7 hBI hr9 hc9 hw9).imp (fun z u h => ?_) (fun n u h => ?_)
  · obtain ⟨hz, ⟨le1, rl1, fs1, qu1, gr1, a0, a1, a2, g0, g1, g2⟩, fr⟩ := h
    exact ⟨hz, ⟨hr0.sq ⟨_, _, _, _, _, a2⟩ fr, g0, g1, g2⟩, fun j hj => fr j (by omega)⟩
  · obtain ⟨hz, ⟨le1, rl1, fs1, qu1, gr1, a0, a1, a2⟩, fr⟩ := h
    exact ⟨hz, hr0.sq ⟨_, _, _, _, _, a2⟩ fr, fun j hj => fr j (by omega)⟩

set_option maxHeartbeats 1000000 in
theorem q_firstStep (l : Launch) (E : xE) (ST : xST) (hSF : SF ST) (htr : l.stackTraces = false) (σ : xW) (w : Int) (r : Int) (c0 : Int) (B : BT) (S : Option BT) (Y : lnQ) (hr0 : cw E σ B S Y) (hr9 : rg r) (hc9 : rg c0) (hw9 : rg w) : XI l E ST yX6_firstStep wsX6_firstStep rm_X6_firstStep [.ref (xad E 0), .int (iZ w), .int (iZ r), .int (iZ c0)] σ (fun (z : Int) (u : xW) => z = fz (Gw (opT B) (lkT B) (kpT B) w) ((wcT B) w) (r * 5 + c0) ∧ (cw E u B S Y ∧ (0 ≤ w ∧ w < (nwT B)) ∧ (okC r c0) ∧ (dz (Gw (opT B) (lkT B) (kpT B) w) ((wcT B) w) (r * 5 + c0) < 25) ∧ (¬ dz (Gw (opT B) (lkT B) (kpT B) w) ((wcT B) w) (r * 5 + c0) = 0)) ∧ ∀ j : Nat, (j < 0 ∨ 0 + 85 ≤ j) → u j = σ j) (fun (n : String) (u : xW) => ((n = "java/lang/IndexOutOfBoundsException" ∧ ¬ ((0 ≤ w ∧ w < (nwT B)) ∧ okC r c0)) ∨ (n = "java/util/NoSuchElementException" ∧ ((0 ≤ w ∧ w < (nwT B)) ∧ okC r c0) ∧ (25 ≤ dz (Gw (opT B) (lkT B) (kpT B) w) ((wcT B) w) (r * 5 + c0) ∨ dz (Gw (opT B) (lkT B) (kpT B) w) ((wcT B) w) (r * 5 + c0) = 0))) ∧ (cw E u B S Y) ∧ ∀ j : Nat, (j < 0 ∨ 0 + 85 ≤ j) → u j = σ j) := by
  obtain ⟨hv, se, sf, nx, ct, SB, HB, tx, ln, hC, hBI, ⟨hnx, hct⟩, ⟨hll, hlq⟩, hS, hSB⟩ := id hr0
  obtain ⟨q0, q1, q2, ⟨X7, q3⟩, ⟨X13, q4⟩, q5, q6, ⟨le, rl, fs, qu, gr, q7⟩, q8, q9⟩ := id hC
  have hhb := hsl_rg hnx.1 hnx.2
  refine (c_X6_firstStep l E ST hSF htr σ w r c0 hv se sf Y.2 (opT B) (lkT B) (kpT B) (wcT B) (pnT B) (nwT B) (shB B) (wkB B) le rl fs qu gr q0 q2 q7 hBI hr9 hc9 hw9).imp (fun z u h => ?_) (fun n u h => ?_)
  · obtain ⟨hz, ⟨le1, rl1, fs1, qu1, gr1, a0, a1, a2, g0, g1, g2, g3⟩, fr⟩ := h
    exact ⟨hz, ⟨hr0.sq ⟨_, _, _, _, _, a2⟩ fr, g0, g1, g2, g3⟩, fun j hj => fr j (by omega)⟩
  · obtain ⟨hz, ⟨le1, rl1, fs1, qu1, gr1, a0, a1, a2⟩, fr⟩ := h
    exact ⟨hz, hr0.sq ⟨_, _, _, _, _, a2⟩ fr, fun j hj => fr j (by omega)⟩

set_option maxHeartbeats 1000000 in
theorem q_reachableCells (l : Launch) (E : xE) (ST : xST) (hSF : SF ST) (htr : l.stackTraces = false) (σ : xW) (w : Int) (B : BT) (S : Option BT) (Y : lnQ) (hr0 : cw E σ B S Y) (hw9 : rg w) : XI l E ST yX6_reachableCells wsX6_reachableCells rm_X6_reachableCells [.ref (xad E 0), .int (iZ w)] σ (fun (z : Int) (u : xW) => z = cnbK (fun c => decide (dz (Gw (opT B) (lkT B) (kpT B) w) ((wcT B) w) c < 25)) 25 ∧ (cw E u B S Y ∧ (0 ≤ w ∧ w < (nwT B))) ∧ ∀ j : Nat, (j < 0 ∨ 0 + 85 ≤ j) → u j = σ j) (fun (n : String) (u : xW) => ((n = "java/lang/IndexOutOfBoundsException" ∧ ¬ (0 ≤ w ∧ w < (nwT B)))) ∧ (cw E u B S Y) ∧ ∀ j : Nat, (j < 0 ∨ 0 + 85 ≤ j) → u j = σ j) := by
  obtain ⟨hv, se, sf, nx, ct, SB, HB, tx, ln, hC, hBI, ⟨hnx, hct⟩, ⟨hll, hlq⟩, hS, hSB⟩ := id hr0
  obtain ⟨q0, q1, q2, ⟨X7, q3⟩, ⟨X13, q4⟩, q5, q6, ⟨le, rl, fs, qu, gr, q7⟩, q8, q9⟩ := id hC
  have hhb := hsl_rg hnx.1 hnx.2
  refine (c_X6_reachableCells l E ST hSF htr σ w hv se sf Y.2 (opT B) (lkT B) (kpT B) (wcT B) (pnT B) (nwT B) (shB B) (wkB B) le rl fs qu gr q0 q2 q7 hBI hw9).imp (fun z u h => ?_) (fun n u h => ?_)
  · obtain ⟨hz, ⟨le1, rl1, fs1, qu1, gr1, a0, a1, a2, g0⟩, fr⟩ := h
    exact ⟨hz, ⟨hr0.sq ⟨_, _, _, _, _, a2⟩ fr, g0⟩, fun j hj => fr j (by omega)⟩
  · obtain ⟨hz, ⟨le1, rl1, fs1, qu1, gr1, a0, a1, a2⟩, fr⟩ := h
    exact ⟨hz, hr0.sq ⟨_, _, _, _, _, a2⟩ fr, fun j hj => fr j (by omega)⟩

set_option maxHeartbeats 1000000 in
theorem q_nearestKey (l : Launch) (E : xE) (ST : xST) (hSF : SF ST) (htr : l.stackTraces = false) (σ : xW) (w : Int) (B : BT) (S : Option BT) (Y : lnQ) (hr0 : cw E σ B S Y) (hw9 : rg w) : XI l E ST yX6_nearestKey wsX6_nearestKey rm_X6_nearestKey [.ref (xad E 0), .int (iZ w)] σ (fun (z : Int) (u : xW) => z = 97 + (nkK (kpT B) (dz (Gw (opT B) (lkT B) (kpT B) w) ((wcT B) w)) 6).1 ∧ (cw E u B S Y ∧ (0 ≤ w ∧ w < (nwT B)) ∧ (¬ (nkK (kpT B) (dz (Gw (opT B) (lkT B) (kpT B) w) ((wcT B) w)) 6).1 = -1)) ∧ ∀ j : Nat, (j < 0 ∨ 0 + 85 ≤ j) → u j = σ j) (fun (n : String) (u : xW) => ((n = "java/lang/IndexOutOfBoundsException" ∧ ¬ (0 ≤ w ∧ w < (nwT B))) ∨ (n = "java/util/NoSuchElementException" ∧ (0 ≤ w ∧ w < (nwT B)) ∧ (nkK (kpT B) (dz (Gw (opT B) (lkT B) (kpT B) w) ((wcT B) w)) 6).1 = -1)) ∧ (cw E u B S Y) ∧ ∀ j : Nat, (j < 0 ∨ 0 + 85 ≤ j) → u j = σ j) := by
  obtain ⟨hv, se, sf, nx, ct, SB, HB, tx, ln, hC, hBI, ⟨hnx, hct⟩, ⟨hll, hlq⟩, hS, hSB⟩ := id hr0
  obtain ⟨q0, q1, q2, ⟨X7, q3⟩, ⟨X13, q4⟩, q5, q6, ⟨le, rl, fs, qu, gr, q7⟩, q8, q9⟩ := id hC
  have hhb := hsl_rg hnx.1 hnx.2
  refine (c_X6_nearestKey l E ST hSF htr σ w hv se sf Y.2 (opT B) (lkT B) (kpT B) (wcT B) (pnT B) (nwT B) (shB B) (wkB B) le rl fs qu gr q0 q2 q7 hBI hw9).imp (fun z u h => ?_) (fun n u h => ?_)
  · obtain ⟨hz, ⟨le1, rl1, fs1, qu1, gr1, a0, a1, a2, g0, g1⟩, fr⟩ := h
    exact ⟨hz, ⟨hr0.sq ⟨_, _, _, _, _, a2⟩ fr, g0, g1⟩, fun j hj => fr j (by omega)⟩
  · obtain ⟨hz, ⟨le1, rl1, fs1, qu1, gr1, a0, a1, a2⟩, fr⟩ := h
    exact ⟨hz, hr0.sq ⟨_, _, _, _, _, a2⟩ fr, fun j hj => fr j (by omega)⟩

set_option maxHeartbeats 1000000 in
theorem q_reachableShare (l : Launch) (E : xE) (ST : xST) (hSF : SF ST) (htr : l.stackTraces = false) (σ : xW) (w : Int) (B : BT) (S : Option BT) (Y : lnQ) (hr0 : cw E σ B S Y) (hw9 : rg w) : XF l E ST yX6_reachableShare wsX6_reachableShare rm_X6_reachableShare [.ref (xad E 0), .int (iZ w)] σ (fun z (u : xW) => z = shF (cnbK (fun c => decide (dz (Gw (opT B) (lkT B) (kpT B) w) ((wcT B) w) c < 25)) 25) ∧ (cw E u B S Y ∧ (0 ≤ w ∧ w < (nwT B))) ∧ ∀ j : Nat, (j < 0 ∨ 0 + 85 ≤ j) → u j = σ j) (fun (n : String) (u : xW) => ((n = "java/lang/IndexOutOfBoundsException" ∧ ¬ (0 ≤ w ∧ w < (nwT B)))) ∧ (cw E u B S Y) ∧ ∀ j : Nat, (j < 0 ∨ 0 + 85 ≤ j) → u j = σ j) := by
  obtain ⟨hv, se, sf, nx, ct, SB, HB, tx, ln, hC, hBI, ⟨hnx, hct⟩, ⟨hll, hlq⟩, hS, hSB⟩ := id hr0
  obtain ⟨q0, q1, q2, ⟨X7, q3⟩, ⟨X13, q4⟩, q5, q6, ⟨le, rl, fs, qu, gr, q7⟩, q8, q9⟩ := id hC
  have hhb := hsl_rg hnx.1 hnx.2
  refine (c_X6_reachableShare l E ST hSF htr σ w hv se sf Y.2 (opT B) (lkT B) (kpT B) (wcT B) (pnT B) (nwT B) (shB B) (wkB B) le rl fs qu gr q0 q2 q7 hBI hw9).imp (fun z u h => ?_) (fun n u h => ?_)
  · obtain ⟨hz, ⟨le1, rl1, fs1, qu1, gr1, a0, a1, a2, g0⟩, fr⟩ := h
    exact ⟨hz, ⟨hr0.sq ⟨_, _, _, _, _, a2⟩ fr, g0⟩, fun j hj => fr j (by omega)⟩
  · obtain ⟨hz, ⟨le1, rl1, fs1, qu1, gr1, a0, a1, a2⟩, fr⟩ := h
    exact ⟨hz, hr0.sq ⟨_, _, _, _, _, a2⟩ fr, fun j hj => fr j (by omega)⟩

set_option maxHeartbeats 1000000 in
theorem q_isConsistent (l : Launch) (E : xE) (ST : xST) (hSF : SF ST) (σ : xW) (B : BT) (S : Option BT) (Y : lnQ) (hr0 : cw E σ B S Y) : CI l E ST yX6_isConsistent wsX6_isConsistent rm_X6_isConsistent [.ref (xad E 0)] σ (fun (z : Int) (u : xW) => z = b2 true ∧ (cw E u B S Y) ∧ ∀ j : Nat, (j < 0 ∨ 0 + 85 ≤ j) → u j = σ j) := by
  obtain ⟨hv, se, sf, nx, ct, SB, HB, tx, ln, hC, hBI, ⟨hnx, hct⟩, ⟨hll, hlq⟩, hS, hSB⟩ := id hr0
  obtain ⟨q0, q1, q2, ⟨X7, q3⟩, ⟨X13, q4⟩, q5, q6, ⟨le, rl, fs, qu, gr, q7⟩, q8, q9⟩ := id hC
  have hhb := hsl_rg hnx.1 hnx.2
  refine (c_X6_isConsistent l E ST hSF σ hv se sf Y.2 (opT B) (lkT B) (kpT B) (wcT B) (pnT B) (nwT B) (shB B) (wkB B) le rl fs qu gr q0 q2 q7 hBI).imp (fun z u h => ?_)
  · obtain ⟨hz, ⟨le1, rl1, fs1, qu1, gr1, a0, a1, a2⟩, fr⟩ := h
    exact ⟨hz, hr0.sq ⟨_, _, _, _, _, a2⟩ fr, fun j hj => fr j (by omega)⟩

set_option maxHeartbeats 1000000 in
theorem q_pathLength1 (l : Launch) (E : xE) (ST : xST) (hSF : SF ST) (htr : l.stackTraces = false) (σ : xW) (w : Int) (r : Int) (c0 : Int) (B : BT) (S : Option BT) (Y : lnQ) (hr0 : cw E σ B S Y) (hr9 : rg r) (hc9 : rg c0) (hw9 : rg w) (hok : 0 ≤ w ∧ w < (nwT B)) (hok2 : okC r c0) : XI l E ST yX6_pathLength wsX6_pathLength rm_X6_pathLength1 [.ref (xad E 0), .int (iZ w), .int (iZ r), .int (iZ c0)] σ (fun (z : Int) (u : xW) => z = dz (Gw (opT B) (lkT B) (kpT B) w) ((wcT B) w) (r * 5 + c0) ∧ (cw E u B S Y ∧ (dz (Gw (opT B) (lkT B) (kpT B) w) ((wcT B) w) (r * 5 + c0) < 25)) ∧ ∀ j : Nat, (j < 0 ∨ 0 + 85 ≤ j) → u j = σ j) (fun (n : String) (u : xW) => ((n = "java/util/NoSuchElementException" ∧ 25 ≤ dz (Gw (opT B) (lkT B) (kpT B) w) ((wcT B) w) (r * 5 + c0))) ∧ (cw E u B S Y) ∧ ∀ j : Nat, (j < 0 ∨ 0 + 85 ≤ j) → u j = σ j) := by
  obtain ⟨hv, se, sf, nx, ct, SB, HB, tx, ln, hC, hBI, ⟨hnx, hct⟩, ⟨hll, hlq⟩, hS, hSB⟩ := id hr0
  obtain ⟨q0, q1, q2, ⟨X7, q3⟩, ⟨X13, q4⟩, q5, q6, ⟨le, rl, fs, qu, gr, q7⟩, q8, q9⟩ := id hC
  have hhb := hsl_rg hnx.1 hnx.2
  refine (c_X6_pathLength1 l E ST hSF htr σ w r c0 hv se sf Y.2 (opT B) (lkT B) (kpT B) (wcT B) (pnT B) (nwT B) (shB B) (wkB B) le rl fs qu gr q0 q2 q7 hBI hr9 hc9 hw9 hok hok2).imp (fun z u h => ?_) (fun n u h => ?_)
  · obtain ⟨hz, ⟨le1, rl1, fs1, qu1, gr1, a0, a1, a2, g0⟩, fr⟩ := h
    exact ⟨hz, ⟨hr0.sq ⟨_, _, _, _, _, a2⟩ fr, g0⟩, fun j hj => fr j (by omega)⟩
  · obtain ⟨hz, ⟨le1, rl1, fs1, qu1, gr1, a0, a1, a2⟩, fr⟩ := h
    exact ⟨hz, hr0.sq ⟨_, _, _, _, _, a2⟩ fr, fun j hj => fr j (by omega)⟩

set_option maxHeartbeats 1000000 in
theorem q_pathLengthByRounds1 (l : Launch) (E : xE) (ST : xST) (hSF : SF ST) (htr : l.stackTraces = false) (σ : xW) (w : Int) (r : Int) (c0 : Int) (B : BT) (S : Option BT) (Y : lnQ) (hr0 : cw E σ B S Y) (hr9 : rg r) (hc9 : rg c0) (hw9 : rg w) (hok : 0 ≤ w ∧ w < (nwT B)) (hok2 : okC r c0) : XI l E ST yX6_pathLengthByRounds wsX6_pathLengthByRounds rm_X6_pathLengthByRounds1 [.ref (xad E 0), .int (iZ w), .int (iZ r), .int (iZ c0)] σ (fun (z : Int) (u : xW) => z = dz (Gw (opT B) (lkT B) (kpT B) w) ((wcT B) w) (r * 5 + c0) ∧ (cw E u B S Y ∧ (dz (Gw (opT B) (lkT B) (kpT B) w) ((wcT B) w) (r * 5 + c0) < 25)) ∧ ∀ j : Nat, (j < 0 ∨ 0 + 85 ≤ j) → u j = σ j) (fun (n : String) (u : xW) => ((n = "java/util/NoSuchElementException" ∧ 25 ≤ dz (Gw (opT B) (lkT B) (kpT B) w) ((wcT B) w) (r * 5 + c0))) ∧ (cw E u B S Y) ∧ ∀ j : Nat, (j < 0 ∨ 0 + 85 ≤ j) → u j = σ j) := by
  obtain ⟨hv, se, sf, nx, ct, SB, HB, tx, ln, hC, hBI, ⟨hnx, hct⟩, ⟨hll, hlq⟩, hS, hSB⟩ := id hr0
  obtain ⟨q0, q1, q2, ⟨X7, q3⟩, ⟨X13, q4⟩, q5, q6, ⟨le, rl, fs, qu, gr, q7⟩, q8, q9⟩ := id hC
  have hhb := hsl_rg hnx.1 hnx.2
  refine (c_X6_pathLengthByRounds1 l E ST hSF htr σ w r c0 hv se sf Y.2 (opT B) (lkT B) (kpT B) (wcT B) (pnT B) (nwT B) (shB B) (wkB B) le rl fs qu gr q0 q2 q7 hBI hr9 hc9 hw9 hok hok2).imp (fun z u h => ?_) (fun n u h => ?_)
  · obtain ⟨hz, ⟨le1, rl1, fs1, qu1, gr1, a0, a1, a2, g0⟩, fr⟩ := h
    exact ⟨hz, ⟨hr0.sq ⟨_, _, _, _, _, a2⟩ fr, g0⟩, fun j hj => fr j (by omega)⟩
  · obtain ⟨hz, ⟨le1, rl1, fs1, qu1, gr1, a0, a1, a2⟩, fr⟩ := h
    exact ⟨hz, hr0.sq ⟨_, _, _, _, _, a2⟩ fr, fun j hj => fr j (by omega)⟩

set_option maxHeartbeats 1000000 in
theorem q_firstStep1 (l : Launch) (E : xE) (ST : xST) (hSF : SF ST) (htr : l.stackTraces = false) (σ : xW) (w : Int) (r : Int) (c0 : Int) (B : BT) (S : Option BT) (Y : lnQ) (hr0 : cw E σ B S Y) (hr9 : rg r) (hc9 : rg c0) (hw9 : rg w) (hok : 0 ≤ w ∧ w < (nwT B)) (hok2 : okC r c0) : XI l E ST yX6_firstStep wsX6_firstStep rm_X6_firstStep1 [.ref (xad E 0), .int (iZ w), .int (iZ r), .int (iZ c0)] σ (fun (z : Int) (u : xW) => z = fz (Gw (opT B) (lkT B) (kpT B) w) ((wcT B) w) (r * 5 + c0) ∧ (cw E u B S Y ∧ (dz (Gw (opT B) (lkT B) (kpT B) w) ((wcT B) w) (r * 5 + c0) < 25) ∧ (¬ dz (Gw (opT B) (lkT B) (kpT B) w) ((wcT B) w) (r * 5 + c0) = 0)) ∧ ∀ j : Nat, (j < 0 ∨ 0 + 85 ≤ j) → u j = σ j) (fun (n : String) (u : xW) => ((n = "java/util/NoSuchElementException" ∧ (25 ≤ dz (Gw (opT B) (lkT B) (kpT B) w) ((wcT B) w) (r * 5 + c0) ∨ dz (Gw (opT B) (lkT B) (kpT B) w) ((wcT B) w) (r * 5 + c0) = 0))) ∧ (cw E u B S Y) ∧ ∀ j : Nat, (j < 0 ∨ 0 + 85 ≤ j) → u j = σ j) := by
  obtain ⟨hv, se, sf, nx, ct, SB, HB, tx, ln, hC, hBI, ⟨hnx, hct⟩, ⟨hll, hlq⟩, hS, hSB⟩ := id hr0
  obtain ⟨q0, q1, q2, ⟨X7, q3⟩, ⟨X13, q4⟩, q5, q6, ⟨le, rl, fs, qu, gr, q7⟩, q8, q9⟩ := id hC
  have hhb := hsl_rg hnx.1 hnx.2
  refine (c_X6_firstStep1 l E ST hSF htr σ w r c0 hv se sf Y.2 (opT B) (lkT B) (kpT B) (wcT B) (pnT B) (nwT B) (shB B) (wkB B) le rl fs qu gr q0 q2 q7 hBI hr9 hc9 hw9 hok hok2).imp (fun z u h => ?_) (fun n u h => ?_)
  · obtain ⟨hz, ⟨le1, rl1, fs1, qu1, gr1, a0, a1, a2, g0, g1⟩, fr⟩ := h
    exact ⟨hz, ⟨hr0.sq ⟨_, _, _, _, _, a2⟩ fr, g0, g1⟩, fun j hj => fr j (by omega)⟩
  · obtain ⟨hz, ⟨le1, rl1, fs1, qu1, gr1, a0, a1, a2⟩, fr⟩ := h
    exact ⟨hz, hr0.sq ⟨_, _, _, _, _, a2⟩ fr, fun j hj => fr j (by omega)⟩

set_option maxHeartbeats 1000000 in
theorem q_reachableCells0 (l : Launch) (E : xE) (ST : xST) (hSF : SF ST) (σ : xW) (w : Int) (B : BT) (S : Option BT) (Y : lnQ) (hr0 : cw E σ B S Y) (hw9 : rg w) (hok : 0 ≤ w ∧ w < (nwT B)) : CI l E ST yX6_reachableCells wsX6_reachableCells rm_X6_reachableCells0 [.ref (xad E 0), .int (iZ w)] σ (fun (z : Int) (u : xW) => z = cnbK (fun c => decide (dz (Gw (opT B) (lkT B) (kpT B) w) ((wcT B) w) c < 25)) 25 ∧ (cw E u B S Y) ∧ ∀ j : Nat, (j < 0 ∨ 0 + 85 ≤ j) → u j = σ j) := by
  obtain ⟨hv, se, sf, nx, ct, SB, HB, tx, ln, hC, hBI, ⟨hnx, hct⟩, ⟨hll, hlq⟩, hS, hSB⟩ := id hr0
  obtain ⟨q0, q1, q2, ⟨X7, q3⟩, ⟨X13, q4⟩, q5, q6, ⟨le, rl, fs, qu, gr, q7⟩, q8, q9⟩ := id hC
  have hhb := hsl_rg hnx.1 hnx.2
  refine (c_X6_reachableCells0 l E ST hSF σ w hv se sf Y.2 (opT B) (lkT B) (kpT B) (wcT B) (pnT B) (nwT B) (shB B) (wkB B) le rl fs qu gr q0 q2 q7 hBI hw9 hok).imp (fun z u h => ?_)
  · obtain ⟨hz, ⟨le1, rl1, fs1, qu1, gr1, a0, a1, a2⟩, fr⟩ := h
    exact ⟨hz, hr0.sq ⟨_, _, _, _, _, a2⟩ fr, fun j hj => fr j (by omega)⟩

set_option maxHeartbeats 1000000 in
theorem q_nearestKey1 (l : Launch) (E : xE) (ST : xST) (hSF : SF ST) (htr : l.stackTraces = false) (σ : xW) (w : Int) (B : BT) (S : Option BT) (Y : lnQ) (hr0 : cw E σ B S Y) (hw9 : rg w) (hok : 0 ≤ w ∧ w < (nwT B)) : XI l E ST yX6_nearestKey wsX6_nearestKey rm_X6_nearestKey1 [.ref (xad E 0), .int (iZ w)] σ (fun (z : Int) (u : xW) => z = 97 + (nkK (kpT B) (dz (Gw (opT B) (lkT B) (kpT B) w) ((wcT B) w)) 6).1 ∧ (cw E u B S Y ∧ (¬ (nkK (kpT B) (dz (Gw (opT B) (lkT B) (kpT B) w) ((wcT B) w)) 6).1 = -1)) ∧ ∀ j : Nat, (j < 0 ∨ 0 + 85 ≤ j) → u j = σ j) (fun (n : String) (u : xW) => ((n = "java/util/NoSuchElementException" ∧ (nkK (kpT B) (dz (Gw (opT B) (lkT B) (kpT B) w) ((wcT B) w)) 6).1 = -1)) ∧ (cw E u B S Y) ∧ ∀ j : Nat, (j < 0 ∨ 0 + 85 ≤ j) → u j = σ j) := by
  obtain ⟨hv, se, sf, nx, ct, SB, HB, tx, ln, hC, hBI, ⟨hnx, hct⟩, ⟨hll, hlq⟩, hS, hSB⟩ := id hr0
  obtain ⟨q0, q1, q2, ⟨X7, q3⟩, ⟨X13, q4⟩, q5, q6, ⟨le, rl, fs, qu, gr, q7⟩, q8, q9⟩ := id hC
  have hhb := hsl_rg hnx.1 hnx.2
  refine (c_X6_nearestKey1 l E ST hSF htr σ w hv se sf Y.2 (opT B) (lkT B) (kpT B) (wcT B) (pnT B) (nwT B) (shB B) (wkB B) le rl fs qu gr q0 q2 q7 hBI hw9 hok).imp (fun z u h => ?_) (fun n u h => ?_)
  · obtain ⟨hz, ⟨le1, rl1, fs1, qu1, gr1, a0, a1, a2, g0⟩, fr⟩ := h
    exact ⟨hz, ⟨hr0.sq ⟨_, _, _, _, _, a2⟩ fr, g0⟩, fun j hj => fr j (by omega)⟩
  · obtain ⟨hz, ⟨le1, rl1, fs1, qu1, gr1, a0, a1, a2⟩, fr⟩ := h
    exact ⟨hz, hr0.sq ⟨_, _, _, _, _, a2⟩ fr, fun j hj => fr j (by omega)⟩

set_option maxHeartbeats 1000000 in
theorem q_reachableShare0 (l : Launch) (E : xE) (ST : xST) (hSF : SF ST) (σ : xW) (w : Int) (B : BT) (S : Option BT) (Y : lnQ) (hr0 : cw E σ B S Y) (hw9 : rg w) (hok : 0 ≤ w ∧ w < (nwT B)) : CF l E ST yX6_reachableShare wsX6_reachableShare rm_X6_reachableShare0 [.ref (xad E 0), .int (iZ w)] σ (fun z (u : xW) => z = shF (cnbK (fun c => decide (dz (Gw (opT B) (lkT B) (kpT B) w) ((wcT B) w) c < 25)) 25) ∧ (cw E u B S Y) ∧ ∀ j : Nat, (j < 0 ∨ 0 + 85 ≤ j) → u j = σ j) := by
  obtain ⟨hv, se, sf, nx, ct, SB, HB, tx, ln, hC, hBI, ⟨hnx, hct⟩, ⟨hll, hlq⟩, hS, hSB⟩ := id hr0
  obtain ⟨q0, q1, q2, ⟨X7, q3⟩, ⟨X13, q4⟩, q5, q6, ⟨le, rl, fs, qu, gr, q7⟩, q8, q9⟩ := id hC
  have hhb := hsl_rg hnx.1 hnx.2
  refine (c_X6_reachableShare0 l E ST hSF σ w hv se sf Y.2 (opT B) (lkT B) (kpT B) (wcT B) (pnT B) (nwT B) (shB B) (wkB B) le rl fs qu gr q0 q2 q7 hBI hw9 hok).imp (fun z u h => ?_)
  · obtain ⟨hz, ⟨le1, rl1, fs1, qu1, gr1, a0, a1, a2⟩, fr⟩ := h
    exact ⟨hz, hr0.sq ⟨_, _, _, _, _, a2⟩ fr, fun j hj => fr j (by omega)⟩

set_option maxHeartbeats 1000000 in
theorem q_helpfulShifts (l : Launch) (E : xE) (ST : xST) (hSF : SF ST) (htr : l.stackTraces = false) (σ : xW) (w : Int) (r : Int) (c0 : Int) (B : BT) (S : Option BT) (Y : lnQ) (hr0 : cw E σ B S Y) (hw9 : rg w) (hr9 : rg r) (hc9 : rg c0) : XI l E ST yX6_helpfulShifts wsX6_helpfulShifts rm_X6_helpfulShifts [.ref (xad E 0), .int (iZ w), .int (iZ r), .int (iZ c0)] σ (fun (z : Int) (u : xW) => z = smK (fun i => hpF (opT B) (lkT B) (kpT B) (wcT B) (pnT B) (nwT B) w (r * 5 + c0) (i * 5) 1 + hpF (opT B) (lkT B) (kpT B) (wcT B) (pnT B) (nwT B) w (r * 5 + c0) i 5) 5 ∧ (cw E u B S Y ∧ (0 ≤ w ∧ w < (nwT B)) ∧ (okC r c0)) ∧ ∀ j : Nat, (j < 0 ∨ 0 + 85 ≤ j) → u j = σ j) (fun (n : String) (u : xW) => ((n = "java/lang/IndexOutOfBoundsException" ∧ ¬ ((0 ≤ w ∧ w < (nwT B)) ∧ okC r c0))) ∧ (cw E u B S Y) ∧ ∀ j : Nat, (j < 0 ∨ 0 + 85 ≤ j) → u j = σ j) := by
  obtain ⟨hv, se, sf, nx, ct, SB, HB, tx, ln, hC, hBI, ⟨hnx, hct⟩, ⟨hll, hlq⟩, hS, hSB⟩ := id hr0
  obtain ⟨q0, q1, q2, ⟨X7, q3⟩, ⟨X13, q4⟩, q5, q6, ⟨le, rl, fs, qu, gr, q7⟩, q8, q9⟩ := id hC
  have hhb := hsl_rg hnx.1 hnx.2
  refine (c_X6_helpfulShifts l E ST hSF htr σ w r c0 hv se sf Y.2 (opT B) (lkT B) (kpT B) (wcT B) (pnT B) (nwT B) (shB B) (wkB B) X13.1 X13.2.1 X13.2.2.1 X13.2.2.2.1 X13.2.2.2.2.1 X13.2.2.2.2.2.1 X13.2.2.2.2.2.2.1 X13.2.2.2.2.2.2.2 le rl fs qu gr q0 q2 q4 q7 hBI hw9 hr9 hc9).imp (fun z u h => ?_) (fun n u h => ?_)
  · obtain ⟨hz, ⟨o1, o2, o3, o4, o5, o6, o7, o8, le1, rl1, fs1, qu1, gr1, a0, a2, g0, g1⟩, fr⟩ := h
    exact ⟨hz, ⟨hr0.qry ⟨(o1, o2, o3, o4, o5, o6, o7, o8), a0⟩ ⟨_, _, _, _, _, a2⟩ fr, g0, g1⟩, fun j hj => fr j (by omega) (by omega)⟩
  · obtain ⟨hz, ⟨o1, o2, o3, o4, o5, o6, o7, o8, le1, rl1, fs1, qu1, gr1, a0, a2⟩, fr⟩ := h
    exact ⟨hz, hr0.qry ⟨(o1, o2, o3, o4, o5, o6, o7, o8), a0⟩ ⟨_, _, _, _, _, a2⟩ fr, fun j hj => fr j (by omega) (by omega)⟩

set_option maxHeartbeats 1000000 in
theorem q_helpfulShifts0 (l : Launch) (E : xE) (ST : xST) (hSF : SF ST) (σ : xW) (w : Int) (r : Int) (c0 : Int) (B : BT) (S : Option BT) (Y : lnQ) (hr0 : cw E σ B S Y) (hw9 : rg w) (hr9 : rg r) (hc9 : rg c0) (hok : 0 ≤ w ∧ w < (nwT B)) (hok2 : okC r c0) : CI l E ST yX6_helpfulShifts wsX6_helpfulShifts rm_X6_helpfulShifts0 [.ref (xad E 0), .int (iZ w), .int (iZ r), .int (iZ c0)] σ (fun (z : Int) (u : xW) => z = smK (fun i => hpF (opT B) (lkT B) (kpT B) (wcT B) (pnT B) (nwT B) w (r * 5 + c0) (i * 5) 1 + hpF (opT B) (lkT B) (kpT B) (wcT B) (pnT B) (nwT B) w (r * 5 + c0) i 5) 5 ∧ (cw E u B S Y) ∧ ∀ j : Nat, (j < 0 ∨ 0 + 85 ≤ j) → u j = σ j) := by
  obtain ⟨hv, se, sf, nx, ct, SB, HB, tx, ln, hC, hBI, ⟨hnx, hct⟩, ⟨hll, hlq⟩, hS, hSB⟩ := id hr0
  obtain ⟨q0, q1, q2, ⟨X7, q3⟩, ⟨X13, q4⟩, q5, q6, ⟨le, rl, fs, qu, gr, q7⟩, q8, q9⟩ := id hC
  have hhb := hsl_rg hnx.1 hnx.2
  refine (c_X6_helpfulShifts0 l E ST hSF σ w r c0 hv se sf Y.2 (opT B) (lkT B) (kpT B) (wcT B) (pnT B) (nwT B) (shB B) (wkB B) X13.1 X13.2.1 X13.2.2.1 X13.2.2.2.1 X13.2.2.2.2.1 X13.2.2.2.2.2.1 X13.2.2.2.2.2.2.1 X13.2.2.2.2.2.2.2 le rl fs qu gr q0 q2 q4 q7 hBI hw9 hr9 hc9 hok hok2).imp (fun z u h => ?_)
  · obtain ⟨hz, ⟨o1, o2, o3, o4, o5, o6, o7, o8, le1, rl1, fs1, qu1, gr1, a0, a2⟩, fr⟩ := h
    exact ⟨hz, hr0.qry ⟨(o1, o2, o3, o4, o5, o6, o7, o8), a0⟩ ⟨_, _, _, _, _, a2⟩ fr, fun j hj => fr j (by omega) (by omega)⟩

set_option maxHeartbeats 1000000 in
theorem q_setTile (l : Launch) (E : xE) (ST : xST) (hSF : SF ST) (htr : l.stackTraces = false) (σ : xW) (r : Int) (c0 : Int) (o : Int) (B : BT) (S : Option BT) (Y : lnQ) (hr0 : cw E σ B S Y) (hr9 : rg r) (hc9 : rg c0) (ho : rg o) : XI l E ST yX6_setTile wsX6_setTile rm_X6_setTile [.ref (xad E 0), .int (iZ r), .int (iZ c0), .int (iZ o)] σ (fun (z : Int) (u : xW) => z = (setF (opT B) (lkT B) (kpT B) (wcT B) (pnT B) (nwT B) (shB B) (wkB B) r c0 o).1 ∧ (cw E u ((setF (opT B) (lkT B) (kpT B) (wcT B) (pnT B) (nwT B) (shB B) (wkB B) r c0 o).2) S Y ∧ (-1 < (setF (opT B) (lkT B) (kpT B) (wcT B) (pnT B) (nwT B) (shB B) (wkB B) r c0 o).1)) ∧ ∀ j : Nat, (j < 0 ∨ 0 + 85 ≤ j) → u j = σ j) (fun (n : String) (u : xW) => ((n = "java/lang/IndexOutOfBoundsException" ∧ (setF (opT B) (lkT B) (kpT B) (wcT B) (pnT B) (nwT B) (shB B) (wkB B) r c0 o).1 = -1) ∨ (n = "java/lang/IllegalArgumentException" ∧ (setF (opT B) (lkT B) (kpT B) (wcT B) (pnT B) (nwT B) (shB B) (wkB B) r c0 o).1 = -2) ∨ (n = "java/lang/IllegalStateException" ∧ (setF (opT B) (lkT B) (kpT B) (wcT B) (pnT B) (nwT B) (shB B) (wkB B) r c0 o).1 = -3) ∨ (n = "java/lang/UnsupportedOperationException" ∧ (setF (opT B) (lkT B) (kpT B) (wcT B) (pnT B) (nwT B) (shB B) (wkB B) r c0 o).1 = -4) ∨ (n = "java/util/NoSuchElementException" ∧ (setF (opT B) (lkT B) (kpT B) (wcT B) (pnT B) (nwT B) (shB B) (wkB B) r c0 o).1 = -5)) ∧ (cw E u B S Y) ∧ ∀ j : Nat, (j < 0 ∨ 0 + 85 ≤ j) → u j = σ j) := by
  obtain ⟨hv, se, sf, nx, ct, SB, HB, tx, ln, hC, hBI, ⟨hnx, hct⟩, ⟨hll, hlq⟩, hS, hSB⟩ := id hr0
  obtain ⟨q0, q1, q2, ⟨X7, q3⟩, ⟨X13, q4⟩, q5, q6, ⟨le, rl, fs, qu, gr, q7⟩, q8, q9⟩ := id hC
  have hhb := hsl_rg hnx.1 hnx.2
  have hfok : FOK B (setF (opT B) (lkT B) (kpT B) (wcT B) (pnT B) (nwT B) (shB B) (wkB B) r c0 o) := FOK_set (op := opT B) (lk := lkT B) (kp := kpT B) (wc := wcT B) (pn := pnT B) (nw := nwT B) (sh := shB B) (wk := wkB B) hBI
  have hz9 := hfok.2.2.1
  refine (c_X6_setTile l E ST hSF htr σ r c0 o hv se sf Y.2 nx ct ((HB nx).1) ((HB nx).2.1) ((HB nx).2.2.1) ((HB nx).2.2.2.1) ((HB nx).2.2.2.2.1) ((HB nx).2.2.2.2.2.1) ((HB nx).2.2.2.2.2.2.1) ((HB nx).2.2.2.2.2.2.2) (opT B) (lkT B) (kpT B) (wcT B) (pnT B) (nwT B) (shB B) (wkB B) X7.1 X7.2.1 X7.2.2.1 X7.2.2.2.1 X7.2.2.2.2.1 X7.2.2.2.2.2.1 X7.2.2.2.2.2.2.1 X7.2.2.2.2.2.2.2 q0 q1 (q6 nx hnx.1 hnx.2) q2 q3 hnx hct hBI hr9 hc9 ho ⟨by omega, by omega⟩).imp (fun z u h => ?_) (fun n u h => ?_)
  · obtain ⟨hz, ⟨op1, lk1, kp1, wc1, pn1, nw1, sh1, wk1, a0, a1, a2, a3, a4, e, hz1⟩, fr⟩ := h
    refine ⟨hz, ⟨⟨hv, se, sf, (nx + 1) % 8, ctN ct, SB, hbS HB nx B, tx, ln, hC.done (B1 := (setF (opT B) (lkT B) (kpT B) (wcT B) (pnT B) (nwT B) (shB B) (wkB B) r c0 o).2) hnx a0 a1 a2 (by rw [← e]; exact a3) a4 (srX_fr ⟨_, _, _, _, _, q7⟩ (fun j g0 g1 => fr j (by omega) (by omega) (by omega))) (pgX_fr q8 (fun j g0 g1 => fr j (by omega) (by omega) (by omega) )) (fun j g0 g1 g2 _ _ => fr j g0 g1 g2), hfok.1, ⟨by omega, by unfold ctN; split <;> omega⟩, ⟨hll, hlq⟩, hS, hSB⟩, by omega⟩, fun j hj => fr j (by omega) (by omega) (by omega) ⟩
  · obtain ⟨hq, ⟨op1, lk1, kp1, wc1, pn1, nw1, sh1, wk1, a0, a1, a2, a3, a4, e⟩, fr⟩ := h
    have e2 : (op1, lk1, kp1, wc1, pn1, nw1, sh1, wk1) = B := e.trans (hfok.2.1 (by rcases hq with ⟨-, hq⟩ | ⟨-, hq⟩ | ⟨-, hq⟩ | ⟨-, hq⟩ | ⟨-, hq⟩ <;> omega))
    exact ⟨hq, ⟨hv, se, sf, nx, ct, SB, HB, tx, ln, hC.fail a0 (by rw [← e2]; exact a3) ⟨B, a4⟩ (srX_fr ⟨_, _, _, _, _, q7⟩ (fun j g0 g1 => fr j (by omega) )) (pgX_fr q8 (fun j g0 g1 => fr j (by omega) )) (fun j g0 g1 g2 g3 => fr j (by omega) ), hBI, ⟨hnx, hct⟩, ⟨hll, hlq⟩, hS, hSB⟩, fun j hj => fr j (by omega) ⟩

set_option maxHeartbeats 1000000 in
theorem q_turnTile (l : Launch) (E : xE) (ST : xST) (hSF : SF ST) (htr : l.stackTraces = false) (σ : xW) (r : Int) (c0 : Int) (q : Int) (B : BT) (S : Option BT) (Y : lnQ) (hr0 : cw E σ B S Y) (hr9 : rg r) (hc9 : rg c0) (ho : rg q) : XI l E ST yX6_turnTile wsX6_turnTile rm_X6_turnTile [.ref (xad E 0), .int (iZ r), .int (iZ c0), .int (iZ q)] σ (fun (z : Int) (u : xW) => z = (turnF (opT B) (lkT B) (kpT B) (wcT B) (pnT B) (nwT B) (shB B) (wkB B) r c0 q).1 ∧ (cw E u ((turnF (opT B) (lkT B) (kpT B) (wcT B) (pnT B) (nwT B) (shB B) (wkB B) r c0 q).2) S Y ∧ (-1 < (turnF (opT B) (lkT B) (kpT B) (wcT B) (pnT B) (nwT B) (shB B) (wkB B) r c0 q).1)) ∧ ∀ j : Nat, (j < 0 ∨ 0 + 85 ≤ j) → u j = σ j) (fun (n : String) (u : xW) => ((n = "java/lang/IndexOutOfBoundsException" ∧ (turnF (opT B) (lkT B) (kpT B) (wcT B) (pnT B) (nwT B) (shB B) (wkB B) r c0 q).1 = -1) ∨ (n = "java/lang/IllegalArgumentException" ∧ (turnF (opT B) (lkT B) (kpT B) (wcT B) (pnT B) (nwT B) (shB B) (wkB B) r c0 q).1 = -2) ∨ (n = "java/lang/IllegalStateException" ∧ (turnF (opT B) (lkT B) (kpT B) (wcT B) (pnT B) (nwT B) (shB B) (wkB B) r c0 q).1 = -3) ∨ (n = "java/lang/UnsupportedOperationException" ∧ (turnF (opT B) (lkT B) (kpT B) (wcT B) (pnT B) (nwT B) (shB B) (wkB B) r c0 q).1 = -4) ∨ (n = "java/util/NoSuchElementException" ∧ (turnF (opT B) (lkT B) (kpT B) (wcT B) (pnT B) (nwT B) (shB B) (wkB B) r c0 q).1 = -5)) ∧ (cw E u B S Y) ∧ ∀ j : Nat, (j < 0 ∨ 0 + 85 ≤ j) → u j = σ j) := by
  obtain ⟨hv, se, sf, nx, ct, SB, HB, tx, ln, hC, hBI, ⟨hnx, hct⟩, ⟨hll, hlq⟩, hS, hSB⟩ := id hr0
  obtain ⟨q0, q1, q2, ⟨X7, q3⟩, ⟨X13, q4⟩, q5, q6, ⟨le, rl, fs, qu, gr, q7⟩, q8, q9⟩ := id hC
  have hhb := hsl_rg hnx.1 hnx.2
  have hfok : FOK B (turnF (opT B) (lkT B) (kpT B) (wcT B) (pnT B) (nwT B) (shB B) (wkB B) r c0 q) := FOK_turn (op := opT B) (lk := lkT B) (kp := kpT B) (wc := wcT B) (pn := pnT B) (nw := nwT B) (sh := shB B) (wk := wkB B) hBI
  have hz9 := hfok.2.2.1
  refine (c_X6_turnTile l E ST hSF htr σ r c0 q hv se sf Y.2 nx ct ((HB nx).1) ((HB nx).2.1) ((HB nx).2.2.1) ((HB nx).2.2.2.1) ((HB nx).2.2.2.2.1) ((HB nx).2.2.2.2.2.1) ((HB nx).2.2.2.2.2.2.1) ((HB nx).2.2.2.2.2.2.2) (opT B) (lkT B) (kpT B) (wcT B) (pnT B) (nwT B) (shB B) (wkB B) X7.1 X7.2.1 X7.2.2.1 X7.2.2.2.1 X7.2.2.2.2.1 X7.2.2.2.2.2.1 X7.2.2.2.2.2.2.1 X7.2.2.2.2.2.2.2 q0 q1 (q6 nx hnx.1 hnx.2) q2 q3 hnx hct hBI hr9 hc9 ho ⟨by omega, by omega⟩).imp (fun z u h => ?_) (fun n u h => ?_)
  · obtain ⟨hz, ⟨op1, lk1, kp1, wc1, pn1, nw1, sh1, wk1, a0, a1, a2, a3, a4, e, hz1⟩, fr⟩ := h
    refine ⟨hz, ⟨⟨hv, se, sf, (nx + 1) % 8, ctN ct, SB, hbS HB nx B, tx, ln, hC.done (B1 := (turnF (opT B) (lkT B) (kpT B) (wcT B) (pnT B) (nwT B) (shB B) (wkB B) r c0 q).2) hnx a0 a1 a2 (by rw [← e]; exact a3) a4 (srX_fr ⟨_, _, _, _, _, q7⟩ (fun j g0 g1 => fr j (by omega) (by omega) (by omega))) (pgX_fr q8 (fun j g0 g1 => fr j (by omega) (by omega) (by omega) )) (fun j g0 g1 g2 _ _ => fr j g0 g1 g2), hfok.1, ⟨by omega, by unfold ctN; split <;> omega⟩, ⟨hll, hlq⟩, hS, hSB⟩, by omega⟩, fun j hj => fr j (by omega) (by omega) (by omega) ⟩
  · obtain ⟨hq, ⟨op1, lk1, kp1, wc1, pn1, nw1, sh1, wk1, a0, a1, a2, a3, a4, e⟩, fr⟩ := h
    have e2 : (op1, lk1, kp1, wc1, pn1, nw1, sh1, wk1) = B := e.trans (hfok.2.1 (by rcases hq with ⟨-, hq⟩ | ⟨-, hq⟩ | ⟨-, hq⟩ | ⟨-, hq⟩ | ⟨-, hq⟩ <;> omega))
    exact ⟨hq, ⟨hv, se, sf, nx, ct, SB, HB, tx, ln, hC.fail a0 (by rw [← e2]; exact a3) ⟨B, a4⟩ (srX_fr ⟨_, _, _, _, _, q7⟩ (fun j g0 g1 => fr j (by omega) )) (pgX_fr q8 (fun j g0 g1 => fr j (by omega) )) (fun j g0 g1 g2 g3 => fr j (by omega) ), hBI, ⟨hnx, hct⟩, ⟨hll, hlq⟩, hS, hSB⟩, fun j hj => fr j (by omega) ⟩

set_option maxHeartbeats 1000000 in
theorem q_pin (l : Launch) (E : xE) (ST : xST) (hSF : SF ST) (htr : l.stackTraces = false) (σ : xW) (r : Int) (c0 : Int) (B : BT) (S : Option BT) (Y : lnQ) (hr0 : cw E σ B S Y) (hr9 : rg r) (hc9 : rg c0) : XI l E ST yX6_pin wsX6_pin rm_X6_pin [.ref (xad E 0), .int (iZ r), .int (iZ c0)] σ (fun (z : Int) (u : xW) => z = (fixF (opT B) (lkT B) (kpT B) (wcT B) (pnT B) (nwT B) (shB B) (wkB B) r c0).1 ∧ (cw E u ((fixF (opT B) (lkT B) (kpT B) (wcT B) (pnT B) (nwT B) (shB B) (wkB B) r c0).2) S Y ∧ (-1 < (fixF (opT B) (lkT B) (kpT B) (wcT B) (pnT B) (nwT B) (shB B) (wkB B) r c0).1)) ∧ ∀ j : Nat, (j < 0 ∨ 0 + 85 ≤ j) → u j = σ j) (fun (n : String) (u : xW) => ((n = "java/lang/IndexOutOfBoundsException" ∧ (fixF (opT B) (lkT B) (kpT B) (wcT B) (pnT B) (nwT B) (shB B) (wkB B) r c0).1 = -1) ∨ (n = "java/lang/IllegalArgumentException" ∧ (fixF (opT B) (lkT B) (kpT B) (wcT B) (pnT B) (nwT B) (shB B) (wkB B) r c0).1 = -2) ∨ (n = "java/lang/IllegalStateException" ∧ (fixF (opT B) (lkT B) (kpT B) (wcT B) (pnT B) (nwT B) (shB B) (wkB B) r c0).1 = -3) ∨ (n = "java/lang/UnsupportedOperationException" ∧ (fixF (opT B) (lkT B) (kpT B) (wcT B) (pnT B) (nwT B) (shB B) (wkB B) r c0).1 = -4) ∨ (n = "java/util/NoSuchElementException" ∧ (fixF (opT B) (lkT B) (kpT B) (wcT B) (pnT B) (nwT B) (shB B) (wkB B) r c0).1 = -5)) ∧ (cw E u B S Y) ∧ ∀ j : Nat, (j < 0 ∨ 0 + 85 ≤ j) → u j = σ j) := by
  obtain ⟨hv, se, sf, nx, ct, SB, HB, tx, ln, hC, hBI, ⟨hnx, hct⟩, ⟨hll, hlq⟩, hS, hSB⟩ := id hr0
  obtain ⟨q0, q1, q2, ⟨X7, q3⟩, ⟨X13, q4⟩, q5, q6, ⟨le, rl, fs, qu, gr, q7⟩, q8, q9⟩ := id hC
  have hhb := hsl_rg hnx.1 hnx.2
  have hfok : FOK B (fixF (opT B) (lkT B) (kpT B) (wcT B) (pnT B) (nwT B) (shB B) (wkB B) r c0) := FOK_fix (op := opT B) (lk := lkT B) (kp := kpT B) (wc := wcT B) (pn := pnT B) (nw := nwT B) (sh := shB B) (wk := wkB B) hBI
  have hz9 := hfok.2.2.1
  refine (c_X6_pin l E ST hSF htr σ r c0 hv se sf Y.2 nx ct ((HB nx).1) ((HB nx).2.1) ((HB nx).2.2.1) ((HB nx).2.2.2.1) ((HB nx).2.2.2.2.1) ((HB nx).2.2.2.2.2.1) ((HB nx).2.2.2.2.2.2.1) ((HB nx).2.2.2.2.2.2.2) (opT B) (lkT B) (kpT B) (wcT B) (pnT B) (nwT B) (shB B) (wkB B) X7.1 X7.2.1 X7.2.2.1 X7.2.2.2.1 X7.2.2.2.2.1 X7.2.2.2.2.2.1 X7.2.2.2.2.2.2.1 X7.2.2.2.2.2.2.2 q0 q1 (q6 nx hnx.1 hnx.2) q2 q3 hnx hct hBI hr9 hc9 ⟨by omega, by omega⟩).imp (fun z u h => ?_) (fun n u h => ?_)
  · obtain ⟨hz, ⟨op1, lk1, kp1, wc1, pn1, nw1, sh1, wk1, a0, a1, a2, a3, a4, e, hz1⟩, fr⟩ := h
    refine ⟨hz, ⟨⟨hv, se, sf, (nx + 1) % 8, ctN ct, SB, hbS HB nx B, tx, ln, hC.done (B1 := (fixF (opT B) (lkT B) (kpT B) (wcT B) (pnT B) (nwT B) (shB B) (wkB B) r c0).2) hnx a0 a1 a2 (by rw [← e]; exact a3) a4 (srX_fr ⟨_, _, _, _, _, q7⟩ (fun j g0 g1 => fr j (by omega) (by omega) (by omega))) (pgX_fr q8 (fun j g0 g1 => fr j (by omega) (by omega) (by omega) )) (fun j g0 g1 g2 _ _ => fr j g0 g1 g2), hfok.1, ⟨by omega, by unfold ctN; split <;> omega⟩, ⟨hll, hlq⟩, hS, hSB⟩, by omega⟩, fun j hj => fr j (by omega) (by omega) (by omega) ⟩
  · obtain ⟨hq, ⟨op1, lk1, kp1, wc1, pn1, nw1, sh1, wk1, a0, a1, a2, a3, a4, e⟩, fr⟩ := h
    have e2 : (op1, lk1, kp1, wc1, pn1, nw1, sh1, wk1) = B := e.trans (hfok.2.1 (by rcases hq with ⟨-, hq⟩ | ⟨-, hq⟩ | ⟨-, hq⟩ | ⟨-, hq⟩ | ⟨-, hq⟩ <;> omega))
    exact ⟨hq, ⟨hv, se, sf, nx, ct, SB, HB, tx, ln, hC.fail a0 (by rw [← e2]; exact a3) ⟨B, a4⟩ (srX_fr ⟨_, _, _, _, _, q7⟩ (fun j g0 g1 => fr j (by omega) )) (pgX_fr q8 (fun j g0 g1 => fr j (by omega) )) (fun j g0 g1 g2 g3 => fr j (by omega) ), hBI, ⟨hnx, hct⟩, ⟨hll, hlq⟩, hS, hSB⟩, fun j hj => fr j (by omega) ⟩

set_option maxHeartbeats 1000000 in
theorem q_unpin (l : Launch) (E : xE) (ST : xST) (hSF : SF ST) (htr : l.stackTraces = false) (σ : xW) (r : Int) (c0 : Int) (B : BT) (S : Option BT) (Y : lnQ) (hr0 : cw E σ B S Y) (hr9 : rg r) (hc9 : rg c0) : XI l E ST yX6_unpin wsX6_unpin rm_X6_unpin [.ref (xad E 0), .int (iZ r), .int (iZ c0)] σ (fun (z : Int) (u : xW) => z = (freeF (opT B) (lkT B) (kpT B) (wcT B) (pnT B) (nwT B) (shB B) (wkB B) r c0).1 ∧ (cw E u ((freeF (opT B) (lkT B) (kpT B) (wcT B) (pnT B) (nwT B) (shB B) (wkB B) r c0).2) S Y ∧ (-1 < (freeF (opT B) (lkT B) (kpT B) (wcT B) (pnT B) (nwT B) (shB B) (wkB B) r c0).1)) ∧ ∀ j : Nat, (j < 0 ∨ 0 + 85 ≤ j) → u j = σ j) (fun (n : String) (u : xW) => ((n = "java/lang/IndexOutOfBoundsException" ∧ (freeF (opT B) (lkT B) (kpT B) (wcT B) (pnT B) (nwT B) (shB B) (wkB B) r c0).1 = -1) ∨ (n = "java/lang/IllegalArgumentException" ∧ (freeF (opT B) (lkT B) (kpT B) (wcT B) (pnT B) (nwT B) (shB B) (wkB B) r c0).1 = -2) ∨ (n = "java/lang/IllegalStateException" ∧ (freeF (opT B) (lkT B) (kpT B) (wcT B) (pnT B) (nwT B) (shB B) (wkB B) r c0).1 = -3) ∨ (n = "java/lang/UnsupportedOperationException" ∧ (freeF (opT B) (lkT B) (kpT B) (wcT B) (pnT B) (nwT B) (shB B) (wkB B) r c0).1 = -4) ∨ (n = "java/util/NoSuchElementException" ∧ (freeF (opT B) (lkT B) (kpT B) (wcT B) (pnT B) (nwT B) (shB B) (wkB B) r c0).1 = -5)) ∧ (cw E u B S Y) ∧ ∀ j : Nat, (j < 0 ∨ 0 + 85 ≤ j) → u j = σ j) := by
  obtain ⟨hv, se, sf, nx, ct, SB, HB, tx, ln, hC, hBI, ⟨hnx, hct⟩, ⟨hll, hlq⟩, hS, hSB⟩ := id hr0
  obtain ⟨q0, q1, q2, ⟨X7, q3⟩, ⟨X13, q4⟩, q5, q6, ⟨le, rl, fs, qu, gr, q7⟩, q8, q9⟩ := id hC
  have hhb := hsl_rg hnx.1 hnx.2
  have hfok : FOK B (freeF (opT B) (lkT B) (kpT B) (wcT B) (pnT B) (nwT B) (shB B) (wkB B) r c0) := FOK_free (op := opT B) (lk := lkT B) (kp := kpT B) (wc := wcT B) (pn := pnT B) (nw := nwT B) (sh := shB B) (wk := wkB B) hBI
  have hz9 := hfok.2.2.1
  refine (c_X6_unpin l E ST hSF htr σ r c0 hv se sf Y.2 nx ct ((HB nx).1) ((HB nx).2.1) ((HB nx).2.2.1) ((HB nx).2.2.2.1) ((HB nx).2.2.2.2.1) ((HB nx).2.2.2.2.2.1) ((HB nx).2.2.2.2.2.2.1) ((HB nx).2.2.2.2.2.2.2) (opT B) (lkT B) (kpT B) (wcT B) (pnT B) (nwT B) (shB B) (wkB B) X7.1 X7.2.1 X7.2.2.1 X7.2.2.2.1 X7.2.2.2.2.1 X7.2.2.2.2.2.1 X7.2.2.2.2.2.2.1 X7.2.2.2.2.2.2.2 q0 q1 (q6 nx hnx.1 hnx.2) q2 q3 hnx hct hBI hr9 hc9 ⟨by omega, by omega⟩).imp (fun z u h => ?_) (fun n u h => ?_)
  · obtain ⟨hz, ⟨op1, lk1, kp1, wc1, pn1, nw1, sh1, wk1, a0, a1, a2, a3, a4, e, hz1⟩, fr⟩ := h
    refine ⟨hz, ⟨⟨hv, se, sf, (nx + 1) % 8, ctN ct, SB, hbS HB nx B, tx, ln, hC.done (B1 := (freeF (opT B) (lkT B) (kpT B) (wcT B) (pnT B) (nwT B) (shB B) (wkB B) r c0).2) hnx a0 a1 a2 (by rw [← e]; exact a3) a4 (srX_fr ⟨_, _, _, _, _, q7⟩ (fun j g0 g1 => fr j (by omega) (by omega) (by omega))) (pgX_fr q8 (fun j g0 g1 => fr j (by omega) (by omega) (by omega) )) (fun j g0 g1 g2 _ _ => fr j g0 g1 g2), hfok.1, ⟨by omega, by unfold ctN; split <;> omega⟩, ⟨hll, hlq⟩, hS, hSB⟩, by omega⟩, fun j hj => fr j (by omega) (by omega) (by omega) ⟩
  · obtain ⟨hq, ⟨op1, lk1, kp1, wc1, pn1, nw1, sh1, wk1, a0, a1, a2, a3, a4, e⟩, fr⟩ := h
    have e2 : (op1, lk1, kp1, wc1, pn1, nw1, sh1, wk1) = B := e.trans (hfok.2.1 (by rcases hq with ⟨-, hq⟩ | ⟨-, hq⟩ | ⟨-, hq⟩ | ⟨-, hq⟩ | ⟨-, hq⟩ <;> omega))
    exact ⟨hq, ⟨hv, se, sf, nx, ct, SB, HB, tx, ln, hC.fail a0 (by rw [← e2]; exact a3) ⟨B, a4⟩ (srX_fr ⟨_, _, _, _, _, q7⟩ (fun j g0 g1 => fr j (by omega) )) (pgX_fr q8 (fun j g0 g1 => fr j (by omega) )) (fun j g0 g1 g2 g3 => fr j (by omega) ), hBI, ⟨hnx, hct⟩, ⟨hll, hlq⟩, hS, hSB⟩, fun j hj => fr j (by omega) ⟩

set_option maxHeartbeats 1000000 in
theorem q_shiftRow (l : Launch) (E : xE) (ST : xST) (hSF : SF ST) (htr : l.stackTraces = false) (σ : xW) (r : Int) (sp9 : Int) (B : BT) (S : Option BT) (Y : lnQ) (hr0 : cw E σ B S Y) (hr9 : rg r) (hst : rg sp9) : XI l E ST yX6_shiftRow wsX6_shiftRow rm_X6_shiftRow [.ref (xad E 0), .int (iZ r), .int (iZ sp9)] σ (fun (z : Int) (u : xW) => z = (rowF (opT B) (lkT B) (kpT B) (wcT B) (pnT B) (nwT B) (shB B) (wkB B) r sp9).1 ∧ (cw E u ((rowF (opT B) (lkT B) (kpT B) (wcT B) (pnT B) (nwT B) (shB B) (wkB B) r sp9).2) S Y ∧ (-1 < (rowF (opT B) (lkT B) (kpT B) (wcT B) (pnT B) (nwT B) (shB B) (wkB B) r sp9).1)) ∧ ∀ j : Nat, (j < 0 ∨ 0 + 85 ≤ j) → u j = σ j) (fun (n : String) (u : xW) => ((n = "java/lang/IndexOutOfBoundsException" ∧ (rowF (opT B) (lkT B) (kpT B) (wcT B) (pnT B) (nwT B) (shB B) (wkB B) r sp9).1 = -1) ∨ (n = "java/lang/IllegalArgumentException" ∧ (rowF (opT B) (lkT B) (kpT B) (wcT B) (pnT B) (nwT B) (shB B) (wkB B) r sp9).1 = -2) ∨ (n = "java/lang/IllegalStateException" ∧ (rowF (opT B) (lkT B) (kpT B) (wcT B) (pnT B) (nwT B) (shB B) (wkB B) r sp9).1 = -3) ∨ (n = "java/lang/UnsupportedOperationException" ∧ (rowF (opT B) (lkT B) (kpT B) (wcT B) (pnT B) (nwT B) (shB B) (wkB B) r sp9).1 = -4) ∨ (n = "java/util/NoSuchElementException" ∧ (rowF (opT B) (lkT B) (kpT B) (wcT B) (pnT B) (nwT B) (shB B) (wkB B) r sp9).1 = -5)) ∧ (cw E u B S Y) ∧ ∀ j : Nat, (j < 0 ∨ 0 + 85 ≤ j) → u j = σ j) := by
  obtain ⟨hv, se, sf, nx, ct, SB, HB, tx, ln, hC, hBI, ⟨hnx, hct⟩, ⟨hll, hlq⟩, hS, hSB⟩ := id hr0
  obtain ⟨q0, q1, q2, ⟨X7, q3⟩, ⟨X13, q4⟩, q5, q6, ⟨le, rl, fs, qu, gr, q7⟩, q8, q9⟩ := id hC
  have hhb := hsl_rg hnx.1 hnx.2
  have hfok : FOK B (rowF (opT B) (lkT B) (kpT B) (wcT B) (pnT B) (nwT B) (shB B) (wkB B) r sp9) := FOK_row (op := opT B) (lk := lkT B) (kp := kpT B) (wc := wcT B) (pn := pnT B) (nw := nwT B) (sh := shB B) (wk := wkB B) hBI
  have hz9 := hfok.2.2.1
  refine (c_X6_shiftRow l E ST hSF htr σ r sp9 hv se sf Y.2 nx ct ((HB nx).1) ((HB nx).2.1) ((HB nx).2.2.1) ((HB nx).2.2.2.1) ((HB nx).2.2.2.2.1) ((HB nx).2.2.2.2.2.1) ((HB nx).2.2.2.2.2.2.1) ((HB nx).2.2.2.2.2.2.2) (opT B) (lkT B) (kpT B) (wcT B) (pnT B) (nwT B) (shB B) (wkB B) X7.1 X7.2.1 X7.2.2.1 X7.2.2.2.1 X7.2.2.2.2.1 X7.2.2.2.2.2.1 X7.2.2.2.2.2.2.1 X7.2.2.2.2.2.2.2 q0 q1 (q6 nx hnx.1 hnx.2) q2 q3 hnx hct hBI hr9 hst ⟨by omega, by omega⟩).imp (fun z u h => ?_) (fun n u h => ?_)
  · obtain ⟨hz, ⟨op1, lk1, kp1, wc1, pn1, nw1, sh1, wk1, a0, a1, a2, a3, a4, e, hz1⟩, fr⟩ := h
    refine ⟨hz, ⟨⟨hv, se, sf, (nx + 1) % 8, ctN ct, SB, hbS HB nx B, tx, ln, hC.done (B1 := (rowF (opT B) (lkT B) (kpT B) (wcT B) (pnT B) (nwT B) (shB B) (wkB B) r sp9).2) hnx a0 a1 a2 (by rw [← e]; exact a3) a4 (srX_fr ⟨_, _, _, _, _, q7⟩ (fun j g0 g1 => fr j (by omega) (by omega) (by omega))) (pgX_fr q8 (fun j g0 g1 => fr j (by omega) (by omega) (by omega) )) (fun j g0 g1 g2 _ _ => fr j g0 g1 g2), hfok.1, ⟨by omega, by unfold ctN; split <;> omega⟩, ⟨hll, hlq⟩, hS, hSB⟩, by omega⟩, fun j hj => fr j (by omega) (by omega) (by omega) ⟩
  · obtain ⟨hq, ⟨op1, lk1, kp1, wc1, pn1, nw1, sh1, wk1, a0, a1, a2, a3, a4, e⟩, fr⟩ := h
    have e2 : (op1, lk1, kp1, wc1, pn1, nw1, sh1, wk1) = B := e.trans (hfok.2.1 (by rcases hq with ⟨-, hq⟩ | ⟨-, hq⟩ | ⟨-, hq⟩ | ⟨-, hq⟩ | ⟨-, hq⟩ <;> omega))
    exact ⟨hq, ⟨hv, se, sf, nx, ct, SB, HB, tx, ln, hC.fail a0 (by rw [← e2]; exact a3) ⟨B, a4⟩ (srX_fr ⟨_, _, _, _, _, q7⟩ (fun j g0 g1 => fr j (by omega) )) (pgX_fr q8 (fun j g0 g1 => fr j (by omega) )) (fun j g0 g1 g2 g3 => fr j (by omega) ), hBI, ⟨hnx, hct⟩, ⟨hll, hlq⟩, hS, hSB⟩, fun j hj => fr j (by omega) ⟩

set_option maxHeartbeats 1000000 in
theorem q_shiftColumn (l : Launch) (E : xE) (ST : xST) (hSF : SF ST) (htr : l.stackTraces = false) (σ : xW) (r : Int) (sp9 : Int) (B : BT) (S : Option BT) (Y : lnQ) (hr0 : cw E σ B S Y) (hr9 : rg r) (hst : rg sp9) : XI l E ST yX6_shiftColumn wsX6_shiftColumn rm_X6_shiftColumn [.ref (xad E 0), .int (iZ r), .int (iZ sp9)] σ (fun (z : Int) (u : xW) => z = (colF (opT B) (lkT B) (kpT B) (wcT B) (pnT B) (nwT B) (shB B) (wkB B) r sp9).1 ∧ (cw E u ((colF (opT B) (lkT B) (kpT B) (wcT B) (pnT B) (nwT B) (shB B) (wkB B) r sp9).2) S Y ∧ (-1 < (colF (opT B) (lkT B) (kpT B) (wcT B) (pnT B) (nwT B) (shB B) (wkB B) r sp9).1)) ∧ ∀ j : Nat, (j < 0 ∨ 0 + 85 ≤ j) → u j = σ j) (fun (n : String) (u : xW) => ((n = "java/lang/IndexOutOfBoundsException" ∧ (colF (opT B) (lkT B) (kpT B) (wcT B) (pnT B) (nwT B) (shB B) (wkB B) r sp9).1 = -1) ∨ (n = "java/lang/IllegalArgumentException" ∧ (colF (opT B) (lkT B) (kpT B) (wcT B) (pnT B) (nwT B) (shB B) (wkB B) r sp9).1 = -2) ∨ (n = "java/lang/IllegalStateException" ∧ (colF (opT B) (lkT B) (kpT B) (wcT B) (pnT B) (nwT B) (shB B) (wkB B) r sp9).1 = -3) ∨ (n = "java/lang/UnsupportedOperationException" ∧ (colF (opT B) (lkT B) (kpT B) (wcT B) (pnT B) (nwT B) (shB B) (wkB B) r sp9).1 = -4) ∨ (n = "java/util/NoSuchElementException" ∧ (colF (opT B) (lkT B) (kpT B) (wcT B) (pnT B) (nwT B) (shB B) (wkB B) r sp9).1 = -5)) ∧ (cw E u B S Y) ∧ ∀ j : Nat, (j < 0 ∨ 0 + 85 ≤ j) → u j = σ j) := by
  obtain ⟨hv, se, sf, nx, ct, SB, HB, tx, ln, hC, hBI, ⟨hnx, hct⟩, ⟨hll, hlq⟩, hS, hSB⟩ := id hr0
  obtain ⟨q0, q1, q2, ⟨X7, q3⟩, ⟨X13, q4⟩, q5, q6, ⟨le, rl, fs, qu, gr, q7⟩, q8, q9⟩ := id hC
  have hhb := hsl_rg hnx.1 hnx.2
  have hfok : FOK B (colF (opT B) (lkT B) (kpT B) (wcT B) (pnT B) (nwT B) (shB B) (wkB B) r sp9) := FOK_col (op := opT B) (lk := lkT B) (kp := kpT B) (wc := wcT B) (pn := pnT B) (nw := nwT B) (sh := shB B) (wk := wkB B) hBI
  have hz9 := hfok.2.2.1
  refine (c_X6_shiftColumn l E ST hSF htr σ r sp9 hv se sf Y.2 nx ct ((HB nx).1) ((HB nx).2.1) ((HB nx).2.2.1) ((HB nx).2.2.2.1) ((HB nx).2.2.2.2.1) ((HB nx).2.2.2.2.2.1) ((HB nx).2.2.2.2.2.2.1) ((HB nx).2.2.2.2.2.2.2) (opT B) (lkT B) (kpT B) (wcT B) (pnT B) (nwT B) (shB B) (wkB B) X7.1 X7.2.1 X7.2.2.1 X7.2.2.2.1 X7.2.2.2.2.1 X7.2.2.2.2.2.1 X7.2.2.2.2.2.2.1 X7.2.2.2.2.2.2.2 q0 q1 (q6 nx hnx.1 hnx.2) q2 q3 hnx hct hBI hr9 hst ⟨by omega, by omega⟩).imp (fun z u h => ?_) (fun n u h => ?_)
  · obtain ⟨hz, ⟨op1, lk1, kp1, wc1, pn1, nw1, sh1, wk1, a0, a1, a2, a3, a4, e, hz1⟩, fr⟩ := h
    refine ⟨hz, ⟨⟨hv, se, sf, (nx + 1) % 8, ctN ct, SB, hbS HB nx B, tx, ln, hC.done (B1 := (colF (opT B) (lkT B) (kpT B) (wcT B) (pnT B) (nwT B) (shB B) (wkB B) r sp9).2) hnx a0 a1 a2 (by rw [← e]; exact a3) a4 (srX_fr ⟨_, _, _, _, _, q7⟩ (fun j g0 g1 => fr j (by omega) (by omega) (by omega))) (pgX_fr q8 (fun j g0 g1 => fr j (by omega) (by omega) (by omega) )) (fun j g0 g1 g2 _ _ => fr j g0 g1 g2), hfok.1, ⟨by omega, by unfold ctN; split <;> omega⟩, ⟨hll, hlq⟩, hS, hSB⟩, by omega⟩, fun j hj => fr j (by omega) (by omega) (by omega) ⟩
  · obtain ⟨hq, ⟨op1, lk1, kp1, wc1, pn1, nw1, sh1, wk1, a0, a1, a2, a3, a4, e⟩, fr⟩ := h
    have e2 : (op1, lk1, kp1, wc1, pn1, nw1, sh1, wk1) = B := e.trans (hfok.2.1 (by rcases hq with ⟨-, hq⟩ | ⟨-, hq⟩ | ⟨-, hq⟩ | ⟨-, hq⟩ | ⟨-, hq⟩ <;> omega))
    exact ⟨hq, ⟨hv, se, sf, nx, ct, SB, HB, tx, ln, hC.fail a0 (by rw [← e2]; exact a3) ⟨B, a4⟩ (srX_fr ⟨_, _, _, _, _, q7⟩ (fun j g0 g1 => fr j (by omega) )) (pgX_fr q8 (fun j g0 g1 => fr j (by omega) )) (fun j g0 g1 g2 g3 => fr j (by omega) ), hBI, ⟨hnx, hct⟩, ⟨hll, hlq⟩, hS, hSB⟩, fun j hj => fr j (by omega) ⟩

set_option maxHeartbeats 1000000 in
theorem q_placeKey (l : Launch) (E : xE) (ST : xST) (hSF : SF ST) (htr : l.stackTraces = false) (σ : xW) (k : Int) (r : Int) (c0 : Int) (B : BT) (S : Option BT) (Y : lnQ) (hr0 : cw E σ B S Y) (hr9 : rg r) (hc9 : rg c0) (hk9 : rg k) : XI l E ST yX6_placeKey wsX6_placeKey rm_X6_placeKey [.ref (xad E 0), .int (iZ k), .int (iZ r), .int (iZ c0)] σ (fun (z : Int) (u : xW) => z = (layF (opT B) (lkT B) (kpT B) (wcT B) (pnT B) (nwT B) (shB B) (wkB B) k r c0).1 ∧ (cw E u ((layF (opT B) (lkT B) (kpT B) (wcT B) (pnT B) (nwT B) (shB B) (wkB B) k r c0).2) S Y ∧ (-1 < (layF (opT B) (lkT B) (kpT B) (wcT B) (pnT B) (nwT B) (shB B) (wkB B) k r c0).1)) ∧ ∀ j : Nat, (j < 0 ∨ 0 + 85 ≤ j) → u j = σ j) (fun (n : String) (u : xW) => ((n = "java/lang/IndexOutOfBoundsException" ∧ (layF (opT B) (lkT B) (kpT B) (wcT B) (pnT B) (nwT B) (shB B) (wkB B) k r c0).1 = -1) ∨ (n = "java/lang/IllegalArgumentException" ∧ (layF (opT B) (lkT B) (kpT B) (wcT B) (pnT B) (nwT B) (shB B) (wkB B) k r c0).1 = -2) ∨ (n = "java/lang/IllegalStateException" ∧ (layF (opT B) (lkT B) (kpT B) (wcT B) (pnT B) (nwT B) (shB B) (wkB B) k r c0).1 = -3) ∨ (n = "java/lang/UnsupportedOperationException" ∧ (layF (opT B) (lkT B) (kpT B) (wcT B) (pnT B) (nwT B) (shB B) (wkB B) k r c0).1 = -4) ∨ (n = "java/util/NoSuchElementException" ∧ (layF (opT B) (lkT B) (kpT B) (wcT B) (pnT B) (nwT B) (shB B) (wkB B) k r c0).1 = -5)) ∧ (cw E u B S Y) ∧ ∀ j : Nat, (j < 0 ∨ 0 + 85 ≤ j) → u j = σ j) := by
  obtain ⟨hv, se, sf, nx, ct, SB, HB, tx, ln, hC, hBI, ⟨hnx, hct⟩, ⟨hll, hlq⟩, hS, hSB⟩ := id hr0
  obtain ⟨q0, q1, q2, ⟨X7, q3⟩, ⟨X13, q4⟩, q5, q6, ⟨le, rl, fs, qu, gr, q7⟩, q8, q9⟩ := id hC
  have hhb := hsl_rg hnx.1 hnx.2
  have hfok : FOK B (layF (opT B) (lkT B) (kpT B) (wcT B) (pnT B) (nwT B) (shB B) (wkB B) k r c0) := FOK_lay (op := opT B) (lk := lkT B) (kp := kpT B) (wc := wcT B) (pn := pnT B) (nw := nwT B) (sh := shB B) (wk := wkB B) hBI
  have hz9 := hfok.2.2.1
  refine (c_X6_placeKey l E ST hSF htr σ k r c0 hv se sf Y.2 nx ct ((HB nx).1) ((HB nx).2.1) ((HB nx).2.2.1) ((HB nx).2.2.2.1) ((HB nx).2.2.2.2.1) ((HB nx).2.2.2.2.2.1) ((HB nx).2.2.2.2.2.2.1) ((HB nx).2.2.2.2.2.2.2) (opT B) (lkT B) (kpT B) (wcT B) (pnT B) (nwT B) (shB B) (wkB B) X7.1 X7.2.1 X7.2.2.1 X7.2.2.2.1 X7.2.2.2.2.1 X7.2.2.2.2.2.1 X7.2.2.2.2.2.2.1 X7.2.2.2.2.2.2.2 q0 q1 (q6 nx hnx.1 hnx.2) q2 q3 hnx hct hBI hr9 hc9 hk9 ⟨by omega, by omega⟩).imp (fun z u h => ?_) (fun n u h => ?_)
  · obtain ⟨hz, ⟨op1, lk1, kp1, wc1, pn1, nw1, sh1, wk1, a0, a1, a2, a3, a4, e, hz1⟩, fr⟩ := h
    refine ⟨hz, ⟨⟨hv, se, sf, (nx + 1) % 8, ctN ct, SB, hbS HB nx B, tx, ln, hC.done (B1 := (layF (opT B) (lkT B) (kpT B) (wcT B) (pnT B) (nwT B) (shB B) (wkB B) k r c0).2) hnx a0 a1 a2 (by rw [← e]; exact a3) a4 (srX_fr ⟨_, _, _, _, _, q7⟩ (fun j g0 g1 => fr j (by omega) (by omega) (by omega))) (pgX_fr q8 (fun j g0 g1 => fr j (by omega) (by omega) (by omega) )) (fun j g0 g1 g2 _ _ => fr j g0 g1 g2), hfok.1, ⟨by omega, by unfold ctN; split <;> omega⟩, ⟨hll, hlq⟩, hS, hSB⟩, by omega⟩, fun j hj => fr j (by omega) (by omega) (by omega) ⟩
  · obtain ⟨hq, ⟨op1, lk1, kp1, wc1, pn1, nw1, sh1, wk1, a0, a1, a2, a3, a4, e⟩, fr⟩ := h
    have e2 : (op1, lk1, kp1, wc1, pn1, nw1, sh1, wk1) = B := e.trans (hfok.2.1 (by rcases hq with ⟨-, hq⟩ | ⟨-, hq⟩ | ⟨-, hq⟩ | ⟨-, hq⟩ | ⟨-, hq⟩ <;> omega))
    exact ⟨hq, ⟨hv, se, sf, nx, ct, SB, HB, tx, ln, hC.fail a0 (by rw [← e2]; exact a3) ⟨B, a4⟩ (srX_fr ⟨_, _, _, _, _, q7⟩ (fun j g0 g1 => fr j (by omega) )) (pgX_fr q8 (fun j g0 g1 => fr j (by omega) )) (fun j g0 g1 g2 g3 => fr j (by omega) ), hBI, ⟨hnx, hct⟩, ⟨hll, hlq⟩, hS, hSB⟩, fun j hj => fr j (by omega) ⟩

set_option maxHeartbeats 1000000 in
theorem q_addLock (l : Launch) (E : xE) (ST : xST) (hSF : SF ST) (htr : l.stackTraces = false) (σ : xW) (r : Int) (c0 : Int) (k : Int) (B : BT) (S : Option BT) (Y : lnQ) (hr0 : cw E σ B S Y) (hr9 : rg r) (hc9 : rg c0) (hk9 : rg k) : XI l E ST yX6_addLock wsX6_addLock rm_X6_addLock [.ref (xad E 0), .int (iZ r), .int (iZ c0), .int (iZ k)] σ (fun (z : Int) (u : xW) => z = (hangF (opT B) (lkT B) (kpT B) (wcT B) (pnT B) (nwT B) (shB B) (wkB B) r c0 k).1 ∧ (cw E u ((hangF (opT B) (lkT B) (kpT B) (wcT B) (pnT B) (nwT B) (shB B) (wkB B) r c0 k).2) S Y ∧ (-1 < (hangF (opT B) (lkT B) (kpT B) (wcT B) (pnT B) (nwT B) (shB B) (wkB B) r c0 k).1)) ∧ ∀ j : Nat, (j < 0 ∨ 0 + 85 ≤ j) → u j = σ j) (fun (n : String) (u : xW) => ((n = "java/lang/IndexOutOfBoundsException" ∧ (hangF (opT B) (lkT B) (kpT B) (wcT B) (pnT B) (nwT B) (shB B) (wkB B) r c0 k).1 = -1) ∨ (n = "java/lang/IllegalArgumentException" ∧ (hangF (opT B) (lkT B) (kpT B) (wcT B) (pnT B) (nwT B) (shB B) (wkB B) r c0 k).1 = -2) ∨ (n = "java/lang/IllegalStateException" ∧ (hangF (opT B) (lkT B) (kpT B) (wcT B) (pnT B) (nwT B) (shB B) (wkB B) r c0 k).1 = -3) ∨ (n = "java/lang/UnsupportedOperationException" ∧ (hangF (opT B) (lkT B) (kpT B) (wcT B) (pnT B) (nwT B) (shB B) (wkB B) r c0 k).1 = -4) ∨ (n = "java/util/NoSuchElementException" ∧ (hangF (opT B) (lkT B) (kpT B) (wcT B) (pnT B) (nwT B) (shB B) (wkB B) r c0 k).1 = -5)) ∧ (cw E u B S Y) ∧ ∀ j : Nat, (j < 0 ∨ 0 + 85 ≤ j) → u j = σ j) := by
  obtain ⟨hv, se, sf, nx, ct, SB, HB, tx, ln, hC, hBI, ⟨hnx, hct⟩, ⟨hll, hlq⟩, hS, hSB⟩ := id hr0
  obtain ⟨q0, q1, q2, ⟨X7, q3⟩, ⟨X13, q4⟩, q5, q6, ⟨le, rl, fs, qu, gr, q7⟩, q8, q9⟩ := id hC
  have hhb := hsl_rg hnx.1 hnx.2
  have hfok : FOK B (hangF (opT B) (lkT B) (kpT B) (wcT B) (pnT B) (nwT B) (shB B) (wkB B) r c0 k) := FOK_hang (op := opT B) (lk := lkT B) (kp := kpT B) (wc := wcT B) (pn := pnT B) (nw := nwT B) (sh := shB B) (wk := wkB B) hBI
  have hz9 := hfok.2.2.1
  refine (c_X6_addLock l E ST hSF htr σ r c0 k hv se sf Y.2 nx ct ((HB nx).1) ((HB nx).2.1) ((HB nx).2.2.1) ((HB nx).2.2.2.1) ((HB nx).2.2.2.2.1) ((HB nx).2.2.2.2.2.1) ((HB nx).2.2.2.2.2.2.1) ((HB nx).2.2.2.2.2.2.2) (opT B) (lkT B) (kpT B) (wcT B) (pnT B) (nwT B) (shB B) (wkB B) X7.1 X7.2.1 X7.2.2.1 X7.2.2.2.1 X7.2.2.2.2.1 X7.2.2.2.2.2.1 X7.2.2.2.2.2.2.1 X7.2.2.2.2.2.2.2 q0 q1 (q6 nx hnx.1 hnx.2) q2 q3 hnx hct hBI hr9 hc9 hk9 ⟨by omega, by omega⟩).imp (fun z u h => ?_) (fun n u h => ?_)
  · obtain ⟨hz, ⟨op1, lk1, kp1, wc1, pn1, nw1, sh1, wk1, a0, a1, a2, a3, a4, e, hz1⟩, fr⟩ := h
    refine ⟨hz, ⟨⟨hv, se, sf, (nx + 1) % 8, ctN ct, SB, hbS HB nx B, tx, ln, hC.done (B1 := (hangF (opT B) (lkT B) (kpT B) (wcT B) (pnT B) (nwT B) (shB B) (wkB B) r c0 k).2) hnx a0 a1 a2 (by rw [← e]; exact a3) a4 (srX_fr ⟨_, _, _, _, _, q7⟩ (fun j g0 g1 => fr j (by omega) (by omega) (by omega))) (pgX_fr q8 (fun j g0 g1 => fr j (by omega) (by omega) (by omega) )) (fun j g0 g1 g2 _ _ => fr j g0 g1 g2), hfok.1, ⟨by omega, by unfold ctN; split <;> omega⟩, ⟨hll, hlq⟩, hS, hSB⟩, by omega⟩, fun j hj => fr j (by omega) (by omega) (by omega) ⟩
  · obtain ⟨hq, ⟨op1, lk1, kp1, wc1, pn1, nw1, sh1, wk1, a0, a1, a2, a3, a4, e⟩, fr⟩ := h
    have e2 : (op1, lk1, kp1, wc1, pn1, nw1, sh1, wk1) = B := e.trans (hfok.2.1 (by rcases hq with ⟨-, hq⟩ | ⟨-, hq⟩ | ⟨-, hq⟩ | ⟨-, hq⟩ | ⟨-, hq⟩ <;> omega))
    exact ⟨hq, ⟨hv, se, sf, nx, ct, SB, HB, tx, ln, hC.fail a0 (by rw [← e2]; exact a3) ⟨B, a4⟩ (srX_fr ⟨_, _, _, _, _, q7⟩ (fun j g0 g1 => fr j (by omega) )) (pgX_fr q8 (fun j g0 g1 => fr j (by omega) )) (fun j g0 g1 g2 g3 => fr j (by omega) ), hBI, ⟨hnx, hct⟩, ⟨hll, hlq⟩, hS, hSB⟩, fun j hj => fr j (by omega) ⟩

set_option maxHeartbeats 1000000 in
theorem q_removeLock (l : Launch) (E : xE) (ST : xST) (hSF : SF ST) (htr : l.stackTraces = false) (σ : xW) (r : Int) (c0 : Int) (B : BT) (S : Option BT) (Y : lnQ) (hr0 : cw E σ B S Y) (hr9 : rg r) (hc9 : rg c0) : XI l E ST yX6_removeLock wsX6_removeLock rm_X6_removeLock [.ref (xad E 0), .int (iZ r), .int (iZ c0)] σ (fun (z : Int) (u : xW) => z = i2cZ (takeF (opT B) (lkT B) (kpT B) (wcT B) (pnT B) (nwT B) (shB B) (wkB B) r c0).1 ∧ (cw E u ((takeF (opT B) (lkT B) (kpT B) (wcT B) (pnT B) (nwT B) (shB B) (wkB B) r c0).2) S Y ∧ (-1 < (takeF (opT B) (lkT B) (kpT B) (wcT B) (pnT B) (nwT B) (shB B) (wkB B) r c0).1)) ∧ ∀ j : Nat, (j < 0 ∨ 0 + 85 ≤ j) → u j = σ j) (fun (n : String) (u : xW) => ((n = "java/lang/IndexOutOfBoundsException" ∧ (takeF (opT B) (lkT B) (kpT B) (wcT B) (pnT B) (nwT B) (shB B) (wkB B) r c0).1 = -1) ∨ (n = "java/lang/IllegalArgumentException" ∧ (takeF (opT B) (lkT B) (kpT B) (wcT B) (pnT B) (nwT B) (shB B) (wkB B) r c0).1 = -2) ∨ (n = "java/lang/IllegalStateException" ∧ (takeF (opT B) (lkT B) (kpT B) (wcT B) (pnT B) (nwT B) (shB B) (wkB B) r c0).1 = -3) ∨ (n = "java/lang/UnsupportedOperationException" ∧ (takeF (opT B) (lkT B) (kpT B) (wcT B) (pnT B) (nwT B) (shB B) (wkB B) r c0).1 = -4) ∨ (n = "java/util/NoSuchElementException" ∧ (takeF (opT B) (lkT B) (kpT B) (wcT B) (pnT B) (nwT B) (shB B) (wkB B) r c0).1 = -5)) ∧ (cw E u B S Y) ∧ ∀ j : Nat, (j < 0 ∨ 0 + 85 ≤ j) → u j = σ j) := by
  obtain ⟨hv, se, sf, nx, ct, SB, HB, tx, ln, hC, hBI, ⟨hnx, hct⟩, ⟨hll, hlq⟩, hS, hSB⟩ := id hr0
  obtain ⟨q0, q1, q2, ⟨X7, q3⟩, ⟨X13, q4⟩, q5, q6, ⟨le, rl, fs, qu, gr, q7⟩, q8, q9⟩ := id hC
  have hhb := hsl_rg hnx.1 hnx.2
  have hfok : FOK B (takeF (opT B) (lkT B) (kpT B) (wcT B) (pnT B) (nwT B) (shB B) (wkB B) r c0) := FOK_take (op := opT B) (lk := lkT B) (kp := kpT B) (wc := wcT B) (pn := pnT B) (nw := nwT B) (sh := shB B) (wk := wkB B) hBI
  have hz9 := hfok.2.2.1
  refine (c_X6_removeLock l E ST hSF htr σ r c0 hv se sf Y.2 nx ct ((HB nx).1) ((HB nx).2.1) ((HB nx).2.2.1) ((HB nx).2.2.2.1) ((HB nx).2.2.2.2.1) ((HB nx).2.2.2.2.2.1) ((HB nx).2.2.2.2.2.2.1) ((HB nx).2.2.2.2.2.2.2) (opT B) (lkT B) (kpT B) (wcT B) (pnT B) (nwT B) (shB B) (wkB B) X7.1 X7.2.1 X7.2.2.1 X7.2.2.2.1 X7.2.2.2.2.1 X7.2.2.2.2.2.1 X7.2.2.2.2.2.2.1 X7.2.2.2.2.2.2.2 q0 q1 (q6 nx hnx.1 hnx.2) q2 q3 hnx hct hBI hr9 hc9 ⟨by omega, by omega⟩).imp (fun z u h => ?_) (fun n u h => ?_)
  · obtain ⟨hz, ⟨op1, lk1, kp1, wc1, pn1, nw1, sh1, wk1, a0, a1, a2, a3, a4, e, hz1⟩, fr⟩ := h
    refine ⟨hz, ⟨⟨hv, se, sf, (nx + 1) % 8, ctN ct, SB, hbS HB nx B, tx, ln, hC.done (B1 := (takeF (opT B) (lkT B) (kpT B) (wcT B) (pnT B) (nwT B) (shB B) (wkB B) r c0).2) hnx a0 a1 a2 (by rw [← e]; exact a3) a4 (srX_fr ⟨_, _, _, _, _, q7⟩ (fun j g0 g1 => fr j (by omega) (by omega) (by omega))) (pgX_fr q8 (fun j g0 g1 => fr j (by omega) (by omega) (by omega) )) (fun j g0 g1 g2 _ _ => fr j g0 g1 g2), hfok.1, ⟨by omega, by unfold ctN; split <;> omega⟩, ⟨hll, hlq⟩, hS, hSB⟩, by omega⟩, fun j hj => fr j (by omega) (by omega) (by omega) ⟩
  · obtain ⟨hq, ⟨op1, lk1, kp1, wc1, pn1, nw1, sh1, wk1, a0, a1, a2, a3, a4, e⟩, fr⟩ := h
    have e2 : (op1, lk1, kp1, wc1, pn1, nw1, sh1, wk1) = B := e.trans (hfok.2.1 (by rcases hq with ⟨-, hq⟩ | ⟨-, hq⟩ | ⟨-, hq⟩ | ⟨-, hq⟩ | ⟨-, hq⟩ <;> omega))
    exact ⟨hq, ⟨hv, se, sf, nx, ct, SB, HB, tx, ln, hC.fail a0 (by rw [← e2]; exact a3) ⟨B, a4⟩ (srX_fr ⟨_, _, _, _, _, q7⟩ (fun j g0 g1 => fr j (by omega) )) (pgX_fr q8 (fun j g0 g1 => fr j (by omega) )) (fun j g0 g1 g2 g3 => fr j (by omega) ), hBI, ⟨hnx, hct⟩, ⟨hll, hlq⟩, hS, hSB⟩, fun j hj => fr j (by omega) ⟩

set_option maxHeartbeats 1000000 in
theorem q_addWalker (l : Launch) (E : xE) (ST : xST) (hSF : SF ST) (htr : l.stackTraces = false) (σ : xW) (r : Int) (c0 : Int) (B : BT) (S : Option BT) (Y : lnQ) (hr0 : cw E σ B S Y) (hr9 : rg r) (hc9 : rg c0) : XI l E ST yX6_addWalker wsX6_addWalker rm_X6_addWalker [.ref (xad E 0), .int (iZ r), .int (iZ c0)] σ (fun (z : Int) (u : xW) => z = (enterF (opT B) (lkT B) (kpT B) (wcT B) (pnT B) (nwT B) (shB B) (wkB B) r c0).1 ∧ (cw E u ((enterF (opT B) (lkT B) (kpT B) (wcT B) (pnT B) (nwT B) (shB B) (wkB B) r c0).2) S Y ∧ (-1 < (enterF (opT B) (lkT B) (kpT B) (wcT B) (pnT B) (nwT B) (shB B) (wkB B) r c0).1)) ∧ ∀ j : Nat, (j < 0 ∨ 0 + 85 ≤ j) → u j = σ j) (fun (n : String) (u : xW) => ((n = "java/lang/IndexOutOfBoundsException" ∧ (enterF (opT B) (lkT B) (kpT B) (wcT B) (pnT B) (nwT B) (shB B) (wkB B) r c0).1 = -1) ∨ (n = "java/lang/IllegalArgumentException" ∧ (enterF (opT B) (lkT B) (kpT B) (wcT B) (pnT B) (nwT B) (shB B) (wkB B) r c0).1 = -2) ∨ (n = "java/lang/IllegalStateException" ∧ (enterF (opT B) (lkT B) (kpT B) (wcT B) (pnT B) (nwT B) (shB B) (wkB B) r c0).1 = -3) ∨ (n = "java/lang/UnsupportedOperationException" ∧ (enterF (opT B) (lkT B) (kpT B) (wcT B) (pnT B) (nwT B) (shB B) (wkB B) r c0).1 = -4) ∨ (n = "java/util/NoSuchElementException" ∧ (enterF (opT B) (lkT B) (kpT B) (wcT B) (pnT B) (nwT B) (shB B) (wkB B) r c0).1 = -5)) ∧ (cw E u B S Y) ∧ ∀ j : Nat, (j < 0 ∨ 0 + 85 ≤ j) → u j = σ j) := by
  obtain ⟨hv, se, sf, nx, ct, SB, HB, tx, ln, hC, hBI, ⟨hnx, hct⟩, ⟨hll, hlq⟩, hS, hSB⟩ := id hr0
  obtain ⟨q0, q1, q2, ⟨X7, q3⟩, ⟨X13, q4⟩, q5, q6, ⟨le, rl, fs, qu, gr, q7⟩, q8, q9⟩ := id hC
  have hhb := hsl_rg hnx.1 hnx.2
  have hfok : FOK B (enterF (opT B) (lkT B) (kpT B) (wcT B) (pnT B) (nwT B) (shB B) (wkB B) r c0) := FOK_enter (op := opT B) (lk := lkT B) (kp := kpT B) (wc := wcT B) (pn := pnT B) (nw := nwT B) (sh := shB B) (wk := wkB B) hBI
  have hz9 := hfok.2.2.1
  refine (c_X6_addWalker l E ST hSF htr σ r c0 hv se sf Y.2 nx ct ((HB nx).1) ((HB nx).2.1) ((HB nx).2.2.1) ((HB nx).2.2.2.1) ((HB nx).2.2.2.2.1) ((HB nx).2.2.2.2.2.1) ((HB nx).2.2.2.2.2.2.1) ((HB nx).2.2.2.2.2.2.2) (opT B) (lkT B) (kpT B) (wcT B) (pnT B) (nwT B) (shB B) (wkB B) X7.1 X7.2.1 X7.2.2.1 X7.2.2.2.1 X7.2.2.2.2.1 X7.2.2.2.2.2.1 X7.2.2.2.2.2.2.1 X7.2.2.2.2.2.2.2 q0 q1 (q6 nx hnx.1 hnx.2) q2 q3 hnx hct hBI hr9 hc9 ⟨by omega, by omega⟩).imp (fun z u h => ?_) (fun n u h => ?_)
  · obtain ⟨hz, ⟨op1, lk1, kp1, wc1, pn1, nw1, sh1, wk1, a0, a1, a2, a3, a4, e, hz1⟩, fr⟩ := h
    refine ⟨hz, ⟨⟨hv, se, sf, (nx + 1) % 8, ctN ct, SB, hbS HB nx B, tx, ln, hC.done (B1 := (enterF (opT B) (lkT B) (kpT B) (wcT B) (pnT B) (nwT B) (shB B) (wkB B) r c0).2) hnx a0 a1 a2 (by rw [← e]; exact a3) a4 (srX_fr ⟨_, _, _, _, _, q7⟩ (fun j g0 g1 => fr j (by omega) (by omega) (by omega))) (pgX_fr q8 (fun j g0 g1 => fr j (by omega) (by omega) (by omega) )) (fun j g0 g1 g2 _ _ => fr j g0 g1 g2), hfok.1, ⟨by omega, by unfold ctN; split <;> omega⟩, ⟨hll, hlq⟩, hS, hSB⟩, by omega⟩, fun j hj => fr j (by omega) (by omega) (by omega) ⟩
  · obtain ⟨hq, ⟨op1, lk1, kp1, wc1, pn1, nw1, sh1, wk1, a0, a1, a2, a3, a4, e⟩, fr⟩ := h
    have e2 : (op1, lk1, kp1, wc1, pn1, nw1, sh1, wk1) = B := e.trans (hfok.2.1 (by rcases hq with ⟨-, hq⟩ | ⟨-, hq⟩ | ⟨-, hq⟩ | ⟨-, hq⟩ | ⟨-, hq⟩ <;> omega))
    exact ⟨hq, ⟨hv, se, sf, nx, ct, SB, HB, tx, ln, hC.fail a0 (by rw [← e2]; exact a3) ⟨B, a4⟩ (srX_fr ⟨_, _, _, _, _, q7⟩ (fun j g0 g1 => fr j (by omega) )) (pgX_fr q8 (fun j g0 g1 => fr j (by omega) )) (fun j g0 g1 g2 g3 => fr j (by omega) ), hBI, ⟨hnx, hct⟩, ⟨hll, hlq⟩, hS, hSB⟩, fun j hj => fr j (by omega) ⟩

set_option maxHeartbeats 1000000 in
theorem q_walk (l : Launch) (E : xE) (ST : xST) (hSF : SF ST) (htr : l.stackTraces = false) (σ : xW) (w : Int) (r : Int) (c0 : Int) (B : BT) (S : Option BT) (Y : lnQ) (hr0 : cw E σ B S Y) (hr9 : rg r) (hc9 : rg c0) (hw9 : rg w) : XI l E ST yX6_walk wsX6_walk rm_X6_walk [.ref (xad E 0), .int (iZ w), .int (iZ r), .int (iZ c0)] σ (fun (z : Int) (u : xW) => z = (walkF (opT B) (lkT B) (kpT B) (wcT B) (pnT B) (nwT B) (shB B) (wkB B) w r c0).1 ∧ (cw E u ((walkF (opT B) (lkT B) (kpT B) (wcT B) (pnT B) (nwT B) (shB B) (wkB B) w r c0).2) S Y ∧ (-1 < (walkF (opT B) (lkT B) (kpT B) (wcT B) (pnT B) (nwT B) (shB B) (wkB B) w r c0).1)) ∧ ∀ j : Nat, (j < 0 ∨ 0 + 85 ≤ j) → u j = σ j) (fun (n : String) (u : xW) => ((n = "java/lang/IndexOutOfBoundsException" ∧ (walkF (opT B) (lkT B) (kpT B) (wcT B) (pnT B) (nwT B) (shB B) (wkB B) w r c0).1 = -1) ∨ (n = "java/lang/IllegalArgumentException" ∧ (walkF (opT B) (lkT B) (kpT B) (wcT B) (pnT B) (nwT B) (shB B) (wkB B) w r c0).1 = -2) ∨ (n = "java/lang/IllegalStateException" ∧ (walkF (opT B) (lkT B) (kpT B) (wcT B) (pnT B) (nwT B) (shB B) (wkB B) w r c0).1 = -3) ∨ (n = "java/lang/UnsupportedOperationException" ∧ (walkF (opT B) (lkT B) (kpT B) (wcT B) (pnT B) (nwT B) (shB B) (wkB B) w r c0).1 = -4) ∨ (n = "java/util/NoSuchElementException" ∧ (walkF (opT B) (lkT B) (kpT B) (wcT B) (pnT B) (nwT B) (shB B) (wkB B) w r c0).1 = -5)) ∧ (cw E u B S Y) ∧ ∀ j : Nat, (j < 0 ∨ 0 + 85 ≤ j) → u j = σ j) := by
  obtain ⟨hv, se, sf, nx, ct, SB, HB, tx, ln, hC, hBI, ⟨hnx, hct⟩, ⟨hll, hlq⟩, hS, hSB⟩ := id hr0
  obtain ⟨q0, q1, q2, ⟨X7, q3⟩, ⟨X13, q4⟩, q5, q6, ⟨le, rl, fs, qu, gr, q7⟩, q8, q9⟩ := id hC
  have hhb := hsl_rg hnx.1 hnx.2
  have hfok : FOK B (walkF (opT B) (lkT B) (kpT B) (wcT B) (pnT B) (nwT B) (shB B) (wkB B) w r c0) := FOK_walk (op := opT B) (lk := lkT B) (kp := kpT B) (wc := wcT B) (pn := pnT B) (nw := nwT B) (sh := shB B) (wk := wkB B) hBI
  have hz9 := hfok.2.2.1
  refine (c_X6_walk l E ST hSF htr σ w r c0 hv se sf Y.2 nx ct ((HB nx).1) ((HB nx).2.1) ((HB nx).2.2.1) ((HB nx).2.2.2.1) ((HB nx).2.2.2.2.1) ((HB nx).2.2.2.2.2.1) ((HB nx).2.2.2.2.2.2.1) ((HB nx).2.2.2.2.2.2.2) (opT B) (lkT B) (kpT B) (wcT B) (pnT B) (nwT B) (shB B) (wkB B) X7.1 X7.2.1 X7.2.2.1 X7.2.2.2.1 X7.2.2.2.2.1 X7.2.2.2.2.2.1 X7.2.2.2.2.2.2.1 X7.2.2.2.2.2.2.2 le rl fs qu gr q0 q1 (q6 nx hnx.1 hnx.2) q2 q3 q7 hnx hct hBI hr9 hc9 hw9 ⟨by omega, by omega⟩).imp (fun z u h => ?_) (fun n u h => ?_)
  · obtain ⟨hz, ⟨op1, lk1, kp1, wc1, pn1, nw1, sh1, wk1, le1, rl1, fs1, qu1, gr1, a0, a1, a2, a3, a4, a5, e, hz1⟩, fr⟩ := h
    refine ⟨hz, ⟨⟨hv, se, sf, (nx + 1) % 8, ctN ct, SB, hbS HB nx B, tx, ln, hC.done (B1 := (walkF (opT B) (lkT B) (kpT B) (wcT B) (pnT B) (nwT B) (shB B) (wkB B) w r c0).2) hnx a0 a1 a2 (by rw [← e]; exact a3) a4 ⟨_, _, _, _, _, a5⟩ (pgX_fr q8 (fun j g0 g1 => fr j (by omega) (by omega) (by omega) (by omega) )) (fun j g0 g1 g2 g3 _ => fr j g0 g1 g2 g3), hfok.1, ⟨by omega, by unfold ctN; split <;> omega⟩, ⟨hll, hlq⟩, hS, hSB⟩, by omega⟩, fun j hj => fr j (by omega) (by omega) (by omega) (by omega) ⟩
  · obtain ⟨hq, ⟨op1, lk1, kp1, wc1, pn1, nw1, sh1, wk1, le1, rl1, fs1, qu1, gr1, a0, a1, a2, a3, a4, a5, e⟩, fr⟩ := h
    have e2 : (op1, lk1, kp1, wc1, pn1, nw1, sh1, wk1) = B := e.trans (hfok.2.1 (by rcases hq with ⟨-, hq⟩ | ⟨-, hq⟩ | ⟨-, hq⟩ | ⟨-, hq⟩ | ⟨-, hq⟩ <;> omega))
    exact ⟨hq, ⟨hv, se, sf, nx, ct, SB, HB, tx, ln, hC.fail a0 (by rw [← e2]; exact a3) ⟨B, a4⟩ ⟨_, _, _, _, _, a5⟩ (pgX_fr q8 (fun j g0 g1 => fr j (by omega) (by omega) )) (fun j g0 g1 g2 g3 => fr j (by omega) (by omega) ), hBI, ⟨hnx, hct⟩, ⟨hll, hlq⟩, hS, hSB⟩, fun j hj => fr j (by omega) (by omega) ⟩
