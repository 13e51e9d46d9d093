/-! ===== the law's loop ===== -/
theorem INV.up {n : Int} {E : xE} {σ : xW} (h : INV n E σ) : INV (n + 1) E σ := by
  obtain ⟨th, hth, hv, se, sf, ll, nx, ct, B, S, HB, tx, ln, lq, sv, re, ea, fa, ty, li, v, vs, hF, lf, h1, h2, h3, h4⟩ := h
  exact ⟨th, hth, hv, se, sf, ll, nx, ct, B, S, HB, tx, ln, lq, sv, re, ea, fa, ty, li, v, vs, hF, lf, h1, h2, h3, h4.up⟩
set_option maxRecDepth 100000 in
set_option maxHeartbeats 8000000 in
theorem law_loop {p : Program} {l : Launch} {e : Env} {s : State} {m : MethodId} {below : List Frame} {meth : Method} {c : Code} {E : xE} {ST : xST} {Z : zE} {b L : Nat} {xs : Nat → Int32} (G : LX l E ST Z p s m meth c b L xs) : ∀ (nK n : Nat) (σ : xW) (H : Heap) (locs : List Loc) (ls : Array Slot), L - 4 * n < nK → 4 * n ≤ L → INV (n : Int) E σ → Hx E (fun q => s.heap.size ≤ q) s.heap σ H locs → lv_has ls 10 [(5, .int (iZ (4 * (n : Int)))), (0, .ref b), (1, .ref (xad E 0)), (2, .ref (xad E 85)), (3, .ref (xad E 96)), (4, .ref (xad E 97))] →
    W p l e room_1 s m #[Value.ref b] below meth c H locs (100 + 10 * n) (3000 + 100 * n) (lw_Z below #[Value.ref b] s) (F0 m 28 ls []) := by
  have G2 := G
  obtain ⟨hx, hb, hml, hown, hts, hK, hST, hSF, hSX, hSQ, htr, hX, hbl, hlocks, hr, hL⟩ := G2
  intro nK
  induction nK with
  | zero =>
    intro n σ H locs ls hm
    exact absurd hm (Nat.not_lt_zero _)
  | succ nK ih =>
    intro n σ H locs ls hm hn hI hH hl
    refine lv_iload hx hb dL_law_28 (lv_at hl 0 rfl) ?_
    refine lv_aload_n hx hb dL_law_30 rfl (lv_at hl 1 rfl) ?_
    refine va_slen hx hb hX hbl (Nat.not_le.mpr hbl) hH.2.2.1 dL_law_31 ?_
    rw [show Int32.ofNat L = iZ (L : Int) from iZ_nI L]
    refine x_iconst (n := 4) hx hb dL_law_32 ?_
    refine x_isub hx hb dL_law_33 ?_
    refine x_icmp_gt (tgt := 2990) hx hb dL_law_34 (by decide) ⟨by omega, by omega⟩ ⟨by omega, by omega⟩ (fun c1 => ?_) (fun c1 => ?_)
    · refine x_iconst (n := 1) hx hb dL_law_2990 ?_
      refine W.widen (k := 601024) (n := 7293034) (by omega) (by omega) ?_
      refine va_forget (fun q h => hH.2.2.1.2.2 q h) ?_
      exact lw_ret (s := s) (d0 := s.drawn) (Drawn.sameBut.refl s.drawn lw_cs) hx hb hr hlocks dL_law_2991
    · have hn4 : 4 * n + 4 ≤ L := by omega
      have KK : ∀ (σ1 : xW) (H1 : Heap) (locs1 : List Loc) (ls1 : Array Slot), INV ((n : Int) + 1) E σ1 → Hx E (fun q => s.heap.size ≤ q) s.heap σ1 H1 locs1 → lv_has ls1 10 [(5, .int (iZ (4 * (n : Int)))), (0, .ref b), (1, .ref (xad E 0)), (2, .ref (xad E 85)), (3, .ref (xad E 96)), (4, .ref (xad E 97))] → W p l e room_1 s m #[Value.ref b] below meth c H1 locs1 (100 + 10 * (n + 1)) (3000 + 100 * (n + 1)) (lw_Z below #[Value.ref b] s) (F0 m 2984 ls1 []) := by
        intro σ1 H1 locs1 ls1 hI1 hH1 hl1
        refine x_iinc (lv' := [(5, .int (iZ (4 * (n : Int) + 4))), (0, .ref b), (1, .ref (xad E 0)), (2, .ref (xad E 85)), (3, .ref (xad E 96)), (4, .ref (xad E 97))]) hx hb dL_law_2984 hl1 (k := 0) rfl (by decide) rfl (fun ls2 hl2 => ?_)
        refine lv_goto (tgt := 28) hx hb dL_law_2987 (by decide) ?_
        rw [show 4 * (n : Int) + 4 = 4 * ((n + 1 : Nat) : Int) by omega] at hl2
        exact ih (n + 1) σ1 H1 locs1 ls2 (by omega) (by omega) hI1 hH1 hl2
      obtain ⟨w, ew⟩ : ∃ y : Int, y = (xs (4 * (n : Int)).toNat).toInt := ⟨_, rfl⟩
      refine lv_aload_n hx hb dL_law_37 rfl (lv_at hl 1 rfl) ?_
      refine lv_iload hx hb dL_law_38 (lv_at hl 0 rfl) ?_
      refine x_scr hx hb hX hbl hH (by omega) (by omega) hL ew dL_law_40 ?_
      refine x_bipush (n := 63) hx hb dL_law_41 (by decide) ?_
      refine x_iand hx hb dL_law_43 ?_
      have hz := iand63 w
      generalize iandZ w 63 = z at hz ⊢
      rcases (show z = 0 ∨ z = 1 ∨ z = 2 ∨ z = 3 ∨ z = 4 ∨ z = 5 ∨ z = 6 ∨ z = 7 ∨ z = 8 ∨ z = 9 ∨ z = 10 ∨ z = 11 ∨ z = 12 ∨ z = 13 ∨ z = 14 ∨ z = 15 ∨ z = 16 ∨ z = 17 ∨ z = 18 ∨ z = 19 ∨ z = 20 ∨ z = 21 ∨ z = 22 ∨ z = 23 ∨ z = 24 ∨ z = 25 ∨ z = 26 ∨ z = 27 ∨ z = 28 ∨ z = 29 ∨ z = 30 ∨ z = 31 ∨ z = 32 ∨ z = 33 ∨ z = 34 ∨ z = 35 ∨ z = 36 ∨ z = 37 ∨ z = 38 ∨ z = 39 ∨ z = 40 ∨ z = 41 ∨ z = 42 ∨ z = 43 ∨ z = 44 ∨ z = 45 ∨ z = 46 ∨ z = 47 ∨ 47 < z by omega) with cz | cz | cz | cz | cz | cz | cz | cz | cz | cz | cz | cz | cz | cz | cz | cz | cz | cz | cz | cz | cz | cz | cz | cz | cz | cz | cz | cz | cz | cz | cz | cz | cz | cz | cz | cz | cz | cz | cz | cz | cz | cz | cz | cz | cz | cz | cz | cz | cz
      · exact x_tableIn (tgt := 252) hx hb 0 cz ⟨by omega, by omega⟩ dL_law_44 (by decide) (by decide) rfl (by decide) (lc_0 G hn4 hI hH hl KK)
      · exact x_tableIn (tgt := 332) hx hb 1 cz ⟨by omega, by omega⟩ dL_law_44 (by decide) (by decide) rfl (by decide) (lc_1 G hn4 hI hH hl KK)
      · exact x_tableIn (tgt := 412) hx hb 2 cz ⟨by omega, by omega⟩ dL_law_44 (by decide) (by decide) rfl (by decide) (lc_2 G hn4 hI hH hl KK)
      · exact x_tableIn (tgt := 480) hx hb 3 cz ⟨by omega, by omega⟩ dL_law_44 (by decide) (by decide) rfl (by decide) (lc_3 G hn4 hI hH hl KK)
      · exact x_tableIn (tgt := 548) hx hb 4 cz ⟨by omega, by omega⟩ dL_law_44 (by decide) (by decide) rfl (by decide) (lc_4 G hn4 hI hH hl KK)
      · exact x_tableIn (tgt := 616) hx hb 5 cz ⟨by omega, by omega⟩ dL_law_44 (by decide) (by decide) rfl (by decide) (lc_5 G hn4 hI hH hl KK)
      · exact x_tableIn (tgt := 684) hx hb 6 cz ⟨by omega, by omega⟩ dL_law_44 (by decide) (by decide) rfl (by decide) (lc_6 G hn4 hI hH hl KK)
      · exact x_tableIn (tgt := 766) hx hb 7 cz ⟨by omega, by omega⟩ dL_law_44 (by decide) (by decide) rfl (by decide) (lc_7 G hn4 hI hH hl KK)
      · exact x_tableIn (tgt := 848) hx hb 8 cz ⟨by omega, by omega⟩ dL_law_44 (by decide) (by decide) rfl (by decide) (lc_8 G hn4 hI hH hl KK)
      · exact x_tableIn (tgt := 916) hx hb 9 cz ⟨by omega, by omega⟩ dL_law_44 (by decide) (by decide) rfl (by decide) (lc_9 G hn4 hI hH hl KK)
      · exact x_tableIn (tgt := 984) hx hb 10 cz ⟨by omega, by omega⟩ dL_law_44 (by decide) (by decide) rfl (by decide) (lc_10 G hn4 hI hH hl KK)
      · exact x_tableIn (tgt := 1064) hx hb 11 cz ⟨by omega, by omega⟩ dL_law_44 (by decide) (by decide) rfl (by decide) (lc_11 G hn4 hI hH hl KK)
      · exact x_tableIn (tgt := 1132) hx hb 12 cz ⟨by omega, by omega⟩ dL_law_44 (by decide) (by decide) rfl (by decide) (lc_12 G hn4 hI hH hl KK)
      · exact x_tableIn (tgt := 1207) hx hb 13 cz ⟨by omega, by omega⟩ dL_law_44 (by decide) (by decide) rfl (by decide) (lc_13 G hn4 hI hH hl KK)
      · exact x_tableIn (tgt := 1270) hx hb 14 cz ⟨by omega, by omega⟩ dL_law_44 (by decide) (by decide) rfl (by decide) (lc_14 G hn4 hI hH hl KK)
      · exact x_tableIn (tgt := 1333) hx hb 15 cz ⟨by omega, by omega⟩ dL_law_44 (by decide) (by decide) rfl (by decide) (lc_15 G hn4 hI hH hl KK)
      · exact x_tableIn (tgt := 1408) hx hb 16 cz ⟨by omega, by omega⟩ dL_law_44 (by decide) (by decide) rfl (by decide) (lc_16 G hn4 hI hH hl KK)
      · exact x_tableIn (tgt := 1476) hx hb 17 cz ⟨by omega, by omega⟩ dL_law_44 (by decide) (by decide) rfl (by decide) (lc_17 G hn4 hI hH hl KK)
      · exact x_tableIn (tgt := 1544) hx hb 18 cz ⟨by omega, by omega⟩ dL_law_44 (by decide) (by decide) rfl (by decide) (lc_18 G hn4 hI hH hl KK)
      · exact x_tableIn (tgt := 1631) hx hb 19 cz ⟨by omega, by omega⟩ dL_law_44 (by decide) (by decide) rfl (by decide) (lc_19 G hn4 hI hH hl KK)
      · exact x_tableIn (tgt := 1644) hx hb 20 cz ⟨by omega, by omega⟩ dL_law_44 (by decide) (by decide) rfl (by decide) (lc_20 G hn4 hI hH hl KK)
      · exact x_tableIn (tgt := 1657) hx hb 21 cz ⟨by omega, by omega⟩ dL_law_44 (by decide) (by decide) rfl (by decide) (lc_21 G hn4 hI hH hl KK)
      · exact x_tableIn (tgt := 1715) hx hb 22 cz ⟨by omega, by omega⟩ dL_law_44 (by decide) (by decide) rfl (by decide) (lc_22 G hn4 hI hH hl KK)
      · exact x_tableIn (tgt := 1773) hx hb 23 cz ⟨by omega, by omega⟩ dL_law_44 (by decide) (by decide) rfl (by decide) (lc_23 G hn4 hI hH hl KK)
      · exact x_tableIn (tgt := 1831) hx hb 24 cz ⟨by omega, by omega⟩ dL_law_44 (by decide) (by decide) rfl (by decide) (lc_24 G hn4 hI hH hl KK)
      · exact x_tableIn (tgt := 1844) hx hb 25 cz ⟨by omega, by omega⟩ dL_law_44 (by decide) (by decide) rfl (by decide) (lc_25 G hn4 hI hH hl KK)
      · exact x_tableIn (tgt := 1900) hx hb 26 cz ⟨by omega, by omega⟩ dL_law_44 (by decide) (by decide) rfl (by decide) (lc_26 G hn4 hI hH hl KK)
      · exact x_tableIn (tgt := 1956) hx hb 27 cz ⟨by omega, by omega⟩ dL_law_44 (by decide) (by decide) rfl (by decide) (lc_27 G hn4 hI hH hl KK)
      · exact x_tableIn (tgt := 2012) hx hb 28 cz ⟨by omega, by omega⟩ dL_law_44 (by decide) (by decide) rfl (by decide) (lc_28 G hn4 hI hH hl KK)
      · exact x_tableIn (tgt := 2092) hx hb 29 cz ⟨by omega, by omega⟩ dL_law_44 (by decide) (by decide) rfl (by decide) (lc_29 G hn4 hI hH hl KK)
      · exact x_tableIn (tgt := 2172) hx hb 30 cz ⟨by omega, by omega⟩ dL_law_44 (by decide) (by decide) rfl (by decide) (lc_30 G hn4 hI hH hl KK)
      · exact x_tableIn (tgt := 2252) hx hb 31 cz ⟨by omega, by omega⟩ dL_law_44 (by decide) (by decide) rfl (by decide) (lc_31 G hn4 hI hH hl KK)
      · exact x_tableIn (tgt := 2308) hx hb 32 cz ⟨by omega, by omega⟩ dL_law_44 (by decide) (by decide) rfl (by decide) (lc_32 G hn4 hI hH hl KK)
      · exact x_tableIn (tgt := 2364) hx hb 33 cz ⟨by omega, by omega⟩ dL_law_44 (by decide) (by decide) rfl (by decide) (lc_33 G hn4 hI hH hl KK)
      · exact x_tableIn (tgt := 2444) hx hb 34 cz ⟨by omega, by omega⟩ dL_law_44 (by decide) (by decide) rfl (by decide) (lc_34 G hn4 hI hH hl KK)
      · exact x_tableIn (tgt := 2457) hx hb 35 cz ⟨by omega, by omega⟩ dL_law_44 (by decide) (by decide) rfl (by decide) (lc_35 G hn4 hI hH hl KK)
      · exact x_tableIn (tgt := 2471) hx hb 36 cz ⟨by omega, by omega⟩ dL_law_44 (by decide) (by decide) rfl (by decide) (lc_36 G hn4 hI hH hl KK)
      · exact x_tableIn (tgt := 2512) hx hb 37 cz ⟨by omega, by omega⟩ dL_law_44 (by decide) (by decide) rfl (by decide) (lc_37 G hn4 hI hH hl KK)
      · exact x_tableIn (tgt := 2590) hx hb 38 cz ⟨by omega, by omega⟩ dL_law_44 (by decide) (by decide) rfl (by decide) (lc_38 G hn4 hI hH hl KK)
      · exact x_tableIn (tgt := 2603) hx hb 39 cz ⟨by omega, by omega⟩ dL_law_44 (by decide) (by decide) rfl (by decide) (lc_39 G hn4 hI hH hl KK)
      · exact x_tableIn (tgt := 2661) hx hb 40 cz ⟨by omega, by omega⟩ dL_law_44 (by decide) (by decide) rfl (by decide) (lc_40 G hn4 hI hH hl KK)
      · exact x_tableIn (tgt := 2705) hx hb 41 cz ⟨by omega, by omega⟩ dL_law_44 (by decide) (by decide) rfl (by decide) (lc_41 G hn4 hI hH hl KK)
      · exact x_tableIn (tgt := 2749) hx hb 42 cz ⟨by omega, by omega⟩ dL_law_44 (by decide) (by decide) rfl (by decide) (lc_42 G hn4 hI hH hl KK)
      · exact x_tableIn (tgt := 2793) hx hb 43 cz ⟨by omega, by omega⟩ dL_law_44 (by decide) (by decide) rfl (by decide) (lc_43 G hn4 hI hH hl KK)
      · exact x_tableIn (tgt := 2849) hx hb 44 cz ⟨by omega, by omega⟩ dL_law_44 (by decide) (by decide) rfl (by decide) (lc_44 G hn4 hI hH hl KK)
      · exact x_tableIn (tgt := 2905) hx hb 45 cz ⟨by omega, by omega⟩ dL_law_44 (by decide) (by decide) rfl (by decide) (lc_45 G hn4 hI hH hl KK)
      · exact x_tableIn (tgt := 2949) hx hb 46 cz ⟨by omega, by omega⟩ dL_law_44 (by decide) (by decide) rfl (by decide) (lc_46 G hn4 hI hH hl KK)
      · exact x_tableIn (tgt := 2960) hx hb 47 cz ⟨by omega, by omega⟩ dL_law_44 (by decide) (by decide) rfl (by decide) (lc_47 G hn4 hI hH hl KK)
      · refine x_tableOut (tgt := 2984) hx hb ⟨by omega, by omega⟩ dL_law_44 (Or.inr cz) (by decide) ?_
        exact W.widen (by omega) (by omega) (KK σ H locs ls hI.up hH hl)
