/-! ===== the law's texts: lists of letters in builders and texts over the world ===== -/
def xEx (E E1 : xE) (d : Nat) : Prop := E1.1 = E.1 ∧ E1.2.2.1 = E.2.2.1 ∧ xx E1 = xx E + d ∧ ∀ i : Nat, i < 85 + xx E → xad E1 i = xad E i
def isL (f : Int → Int) (L : List Int) : Prop := ∀ j : Nat, j < L.length → f (j : Int) = L.getD j 0
def sL (i : Int) : List Int := sStr.getD i.toNat []
def BW (E E1 : xE) (u : xW) (L : List Int) : Prop := xEx E E1 2 ∧ ∃ (N : Nat) (G : Int → Int), u (85 + xx E) = oSb E1 (86 + xx E) (L.length : Int) ∧ u (86 + xx E) = aY E1 N G ∧ L.length ≤ N ∧ N ≤ 130 ∧ lt7 N G ∧ isL G L
def TW (E E1 : xE) (u : xW) (L : List Int) : Prop := xEx E E1 2 ∧ ∃ (F : Int → Int), u (85 + xx E) = oSt E1 (86 + xx E) ∧ u (86 + xx E) = aY E1 L.length F ∧ lt7 L.length F ∧ isL F L
/-- the text so far: the empty one of the start, or one of the law's own -/
def TX9 (Z : zE) (E E1 : xE) (u : xW) (v : Value) (L : List Int) : Prop := (E1 = E ∧ v = .ref (zK Z 0) ∧ L = []) ∨ (TW E E1 u L ∧ v = .ref (xad E1 (85 + xx E)))
theorem sL_len {i : Int} (h0 : 0 ≤ i) (h1 : i < 6) : slZ i = ((sL i).length : Int) := by
  unfold slZ sL
  rw [(slZ_tab i.toNat (by omega)).2.1]
theorem sL_at {i : Int} {j : Nat} : scZ i (j : Int) = (sL i).getD j 0 := by
  unfold scZ sL
  rw [Int.toNat_natCast]
theorem isL_app {f : Int → Int} {L M : List Int} (h1 : ∀ j : Nat, j < L.length → f (j : Int) = L.getD j 0) (h2 : ∀ j : Nat, j < M.length → f ((L.length : Int) + (j : Int)) = M.getD j 0) : isL f (L ++ M) := by
  intro j hj
  rw [List.length_append] at hj
  rw [List.getD_eq_getElem?_getD]
  by_cases e : j < L.length
  · rw [List.getElem?_append_left e, ← List.getD_eq_getElem?_getD]
    exact h1 j e
  · rw [List.getElem?_append_right (by omega), ← List.getD_eq_getElem?_getD, ← h2 _ (by omega)]
    congr 1
    omega
theorem isL_cat {G L9 F : Int → Int} {L M : List Int} (hL : isL L9 L) (hF : ∀ j : Nat, j < M.length → F (j : Int) = M.getD j 0) (hG : ∀ j : Int, 0 ≤ j → j < (L.length : Int) + (M.length : Int) → G j = catZ (L.length : Int) L9 F j) : isL G (L ++ M) := by
  refine isL_app (fun j hj => ?_) (fun j hj => ?_)
  · rw [hG _ (by omega) (by omega)]
    unfold catZ
    rw [if_pos (by omega)]
    exact hL j hj
  · rw [hG _ (by omega) (by omega)]
    unfold catZ
    rw [if_neg (by omega), show (L.length : Int) + (j : Int) - (L.length : Int) = (j : Int) by omega]
    exact hF j hj
section BWS
variable {E0 E E1 E2 : xE} {u v : xW} {L M : List Int} {B : BT} {S : Option BT} {Y : lnQ} {A : Nat → Prop} {H0 H : Heap} {locs : List Loc} {Z : zE}
theorem oSb_c {r r9 : Nat} {n : Int} (h : xad E r = xad E1 r9) : oSb E r n = oSb E1 r9 n := congrArg (fun q => (oB 6 [.ref q, .int (iZ 0), .int (iZ 0), .int (iZ n)] : va_E)) h
theorem oSt_c {r r9 : Nat} (h : xad E r = xad E1 r9) : oSt E r = oSt E1 r9 := congrArg (fun q => (oB 5 [.ref q, .int (iZ 0), .int (iZ 0), .int (iZ 0)] : va_E)) h
theorem xEx.rf : xEx E E 0 := ⟨rfl, rfl, rfl, fun _ _ => rfl⟩
theorem xEx.tr {d e : Nat} (h : xEx E E1 d) (k : xEx E1 E2 e) : xEx E E2 (d + e) := ⟨k.1.trans h.1, k.2.1.trans h.2.1, by rw [k.2.2.1, h.2.2.1]; omega, fun i hi => (k.2.2.2 i (by rw [h.2.2.1]; omega)).trans (h.2.2.2 i hi)⟩
theorem xEx.aY {d : Nat} (h : xEx E E1 d) {n : Nat} {f : Int → Int} : aY E1 n f = aY E n f := by
  show (Sum.inl (xY E1, n, Sum.inl (ar f)) : va_E) = Sum.inl (xY E, n, Sum.inl (ar f))
  rw [show xY E1 = xY E from congrArg (fun q => q.2.2.2) h.2.1]
theorem BW.mv (h : BW E E1 u L) (f : ∀ j : Nat, 85 ≤ j → v j = u j) : BW E E1 v L := by
  obtain ⟨hx, N, G, h1, h2, h3⟩ := h
  exact ⟨hx, N, G, (f _ (by omega)).trans h1, (f _ (by omega)).trans h2, h3⟩
theorem TW.mv (h : TW E E1 u L) (f : ∀ j : Nat, 85 ≤ j → v j = u j) : TW E E1 v L := by
  obtain ⟨hx, F, h1, h2, h3⟩ := h
  exact ⟨hx, F, (f _ (by omega)).trans h1, (f _ (by omega)).trans h2, h3⟩
theorem TX9.mv {w : Value} (h : TX9 Z E E1 u w L) (f : ∀ j : Nat, 85 ≤ j → v j = u j) : TX9 Z E E1 v w L := by
  rcases h with h | ⟨h, h2⟩
  · exact Or.inl h
  · exact Or.inr ⟨h.mv f, h2⟩
theorem TX9.ex {w : Value} (h : TX9 Z E E1 u w L) : ∃ d : Nat, xEx E E1 d := by
  rcases h with ⟨rfl, -⟩ | ⟨h, -⟩
  · exact ⟨0, xEx.rf⟩
  · exact ⟨2, h.1⟩
/-- the builder over a text: the text is forgotten -/
theorem BW.drop (hT : TW E0 E1 u M) (hB : BW E1 E2 u L) (hc : cw E2 u B S Y) (hH : Hx E2 A H0 u H locs) : ∃ (E3 : xE) (w : xW), BW E0 E3 w L ∧ xad E3 (85 + xx E0) = xad E2 (85 + xx E1) ∧ cw E3 w B S Y ∧ (∀ j : Nat, 85 ≤ j → j < 85 + xx E0 → w j = u j) ∧ Hx E3 A H0 w H locs := by
  obtain ⟨hx, -⟩ := hT
  obtain ⟨hy, N, G, h1, h2, h3, h4, h5, h6⟩ := hB
  have e1 := hx.2.2.1
  have e2 := hy.2.2.1
  obtain ⟨E3, w, a1, a2, a3, a4, a5, hH3, hc3, b1, b2⟩ := Hx.cut (85 + xx E0) 2 (by omega) hc hH
  have c1 : xad E3 (85 + xx E0) = xad E2 (85 + xx E1) := by rw [a5 _ (Nat.le_refl _), e1]; rfl
  have c2 : xad E3 (86 + xx E0) = xad E2 (86 + xx E1) := by rw [a5 _ (by omega), e1]; rfl
  refine ⟨E3, w, ⟨⟨a1.trans (hy.1.trans hx.1), a2.trans (hy.2.1.trans hx.2.1), by omega, fun i hi => (a4 i hi).trans ((hy.2.2.2 i (by omega)).trans (hx.2.2.2 i hi))⟩, N, G, ?_, ?_, h3, h4, h5, h6⟩, c1, hc3, fun j j0 j1 => b1 j j0 j1, hH3⟩
  · rw [b2 _ (Nat.le_refl _), show 85 + xx E0 + 2 = 85 + xx E1 by omega, h1]
    exact oSb_c c2.symm
  · rw [b2 _ (by omega), show 86 + xx E0 + 2 = 86 + xx E1 by omega, h2]
    show (Sum.inl (xY E2, N, Sum.inl (ar G)) : va_E) = Sum.inl (xY E3, N, Sum.inl (ar G))
    rw [show xY E3 = xY E2 from congrArg (fun q => q.2.2.2) a2]
/-- .. the text over a builder that is forgotten -/
theorem TW.drop (hB : BW E0 E1 u M) (hT : TW E1 E2 u L) (hc : cw E2 u B S Y) (hH : Hx E2 A H0 u H locs) : ∃ (E3 : xE) (w : xW), TW E0 E3 w L ∧ xad E3 (85 + xx E0) = xad E2 (85 + xx E1) ∧ cw E3 w B S Y ∧ (∀ j : Nat, 85 ≤ j → j < 85 + xx E0 → w j = u j) ∧ Hx E3 A H0 w H locs := by
  obtain ⟨hx, -⟩ := hB
  obtain ⟨hy, F, h1, h2, h3, h4⟩ := hT
  have e1 := hx.2.2.1
  have e2 := hy.2.2.1
  obtain ⟨E3, w, a1, a2, a3, a4, a5, hH3, hc3, b1, b2⟩ := Hx.cut (85 + xx E0) 2 (by omega) hc hH
  have c1 : xad E3 (85 + xx E0) = xad E2 (85 + xx E1) := by rw [a5 _ (Nat.le_refl _), e1]; rfl
  have c2 : xad E3 (86 + xx E0) = xad E2 (86 + xx E1) := by rw [a5 _ (by omega), e1]; rfl
  refine ⟨E3, w, ⟨⟨a1.trans (hy.1.trans hx.1), a2.trans (hy.2.1.trans hx.2.1), by omega, fun i hi => (a4 i hi).trans ((hy.2.2.2 i (by omega)).trans (hx.2.2.2 i hi))⟩, F, ?_, ?_, h3, h4⟩, c1, hc3, fun j j0 j1 => b1 j j0 j1, hH3⟩
  · rw [b2 _ (Nat.le_refl _), show 85 + xx E0 + 2 = 85 + xx E1 by omega, h1]
    exact oSt_c c2.symm
  · rw [b2 _ (by omega), show 86 + xx E0 + 2 = 86 + xx E1 by omega, h2]
    show (Sum.inl (xY E2, L.length, Sum.inl (ar F)) : va_E) = Sum.inl (xY E3, L.length, Sum.inl (ar F))
    rw [show xY E3 = xY E2 from congrArg (fun q => q.2.2.2) a2]
/-- the topmost two cells are forgotten -/
theorem Hx.top (hx : xEx E0 E1 2) (hc : cw E1 u B S Y) (hH : Hx E1 A H0 u H locs) : ∃ w : xW, cw E0 w B S Y ∧ (∀ j : Nat, 85 ≤ j → j < 85 + xx E0 → w j = u j) ∧ Hx E0 A H0 w H locs := by
  have e1 := hx.2.2.1
  have q1 : xEq E1 E0 := ⟨hx.2.1.symm, fun i hi => (hx.2.2.2 i (by omega)).symm⟩
  have h1 := x_cell (E := E1) (cA := xBd E1) 74 (by omega) hc.r74 (hRow_cell q1) hH
  have hg : ∀ (k : Nat), k < 85 + xx E0 → (wl E1 (wu u 74 (.inl (xBd E1, 8, .inr (.inr (.inr (.inr (fun j => some (xad E0 (25 + 6 * j))))))))))[k]? = some (xad E0 k, (fun j => if j = 74 then hRow E0 else u j) k) := by
    intro k hk
    rw [wl_get (by omega) rfl, hx.2.2.2 k hk]
    by_cases h9 : k = 74
    · subst h9
      rw [wu_s]
      show some (_, _) = some (_, if 74 = 74 then hRow E0 else _)
      rw [if_pos rfl]
      show some (_, Sum.inl (xBd E1, _)) = some (_, Sum.inl (xBd E0, _))
      rw [show xBd E0 = xBd E1 from q1.Bd]
    · rw [wu_n h9]
      show some (_, _) = some (_, if k = 74 then _ else _)
      rw [if_neg h9]
  obtain ⟨hP, hD, hS, hA⟩ := h1
  refine ⟨fun j => if j = 74 then hRow E0 else u j, cw_mv q1 hc (fun j h0 h3 => if_neg h3) (if_pos rfl), fun j j0 j1 => if_neg (by omega), ⟨fun k x hx9 => ?_, ⟨fun i j p q hp hq hpq => ?_, fun k x hx9 => ?_⟩, hS, hA⟩⟩
  · have hk := wl_lt hx9
    rw [wl_get hk rfl] at hx9
    cases hx9
    have h2 := hP _ _ (hg k hk)
    rw [hx.1] at h2
    exact h2
  · have hi := wl_lt hp
    have hj := wl_lt hq
    rw [wl_get hi rfl] at hp
    rw [wl_get hj rfl] at hq
    cases hp
    cases hq
    exact hD.1 _ _ _ _ (hg i hi) (hg j hj) hpq
  · have hk := wl_lt hx9
    rw [wl_get hk rfl] at hx9
    cases hx9
    exact hD.2 _ _ (hg k hk)
end BWS
section BWR
variable {p : Program} {l : Launch} {e : Env} {R : Room} {s : State} {m : MethodId} {args : Array Value} {below : List Frame} {meth : Method} {c : Code} {H : Heap} {locs : List Loc} {cells slots : Nat} {Q : State → Prop}
variable {cc : ByteArray} {pc : Nat} {ls : Array Slot} {rest : List Value} {E0 E1 E2 : xE} {ST : xST} {A : Nat → Prop} {u : xW} {Ts : List Cond} {own : String} {nL : Nat} {Z : zE} {B : BT} {S : Option BT} {Y : lnQ} {L M : List Int} {index maxL : Nat} {bytes : ByteArray} {ret : Option FieldType}
theorem r_apl (F : xCf p E1 ST A s m args c cc nL Ts own) (hSF : SF ST) (hSQ : SQ Z ST) (hls : ls.size = nL) {i : Int} (h0 : 0 ≤ i) (h1 : i < 6) (hB : BW E0 E1 u L) (hc : cw E1 u B S Y) (hH : Hx E1 A s.heap u H locs) (hm : L.length + (sL i).length ≤ 64) (cw9 : CallW R s args own RJ4 index yJ4_append_15ec4 bytes maxL ret wsJ4_append_15ec4 rm_J4_append_15ec4 rm_J4_append_15ec4.cells rm_J4_append_15ec4.slots 1) (hroom : (rest.map fun v => v.category).sum ≤ 8) (hdg : decode cc pc = .ok (.invokevirtual index, 3)) (hf : cells + rm_J4_append_15ec4.cells ≤ R.cells ∧ slots + rm_J4_append_15ec4.slots ≤ R.slots)
    (kk : ∀ (E2 : xE) (w : xW) (H1 : Heap) (locs1 : List Loc), BW E0 E2 w (L ++ sL i) → cw E2 w B S Y → (∀ j : Nat, 85 ≤ j → j < 85 + xx E0 → w j = u j) → Hx E2 A s.heap w H1 locs1 → W p l e R s m args below meth c H1 locs1 (cells + rm_J4_append_15ec4.cells) (slots + rm_J4_append_15ec4.slots) Q (F0 m (pc + 3) ls (.ref (xad E2 (85 + xx E0)) :: rest))) : W p l e R s m args below meth c H locs cells slots Q (F0 m pc ls (.ref (zK Z i) :: .ref (xad E1 (85 + xx E0)) :: rest)) := by
  obtain ⟨hx, N, G, a1, a2, a3, a4, a5, a6⟩ := hB
  have e1 := hx.2.2.1
  have hsl := sL_len h0 h1
  have hc9 := F.2.2.2.2
  refine x_aftR (c_J4_append_15ec4 l E1 ST hSF Z hSQ u (85 + xx E0) (86 + xx E0) N (L.length : Int) i G B S Y hc (by omega) a1 a2 (by omega) a5 h0 h1 (by omega)) (va_runV (As := [.ref (zK Z i)]) (rest := rest) F.fx (c_J4_append_15ec4 l E1 ST hSF Z hSQ u (85 + xx E0) (86 + xx E0) N (L.length : Int) i G B S Y hc (by omega) a1 a2 (by omega) a5 h0 h1 (by omega) H.size) cw9 (F.prv hH (F.rcv hH (k0 := 85 + xx E0) (by omega) a1 rfl) [.ref (zK Z i)]) rfl rfl hls rfl (lv_room hroom) hdg hf) hH (fun E2 g w H1 locs1 hp hH1 => ?_)
  obtain ⟨eg, hR, hc2, b1, ⟨N2, G2, b2, b3, b4, b5, b6⟩, b7⟩ := hp
  subst eg
  refine kk E2 w H1 locs1 ⟨⟨hR.1.trans hx.1, hR.2.1.trans hx.2.1, by rw [hR.2.2.1]; exact e1, fun k hk => (hR.2.2.2 k (by omega) (by omega)).trans (hx.2.2.2 k hk)⟩, N2, G2, ?_, b2, ?_, b4, b5, ?_⟩ hc2 (fun j j0 j1 => b7 j j0 (by omega) (by omega) (by omega)) hH1
  · rw [b1, List.length_append, hsl, Int.natCast_add]
  · rw [List.length_append]; omega
  · rw [hsl] at b6
    exact isL_cat a6 (fun j hj => sL_at) b6
theorem r_apc (F : xCf p E1 ST A s m args c cc nL Ts own) (hSF : SF ST) (hSQ : SQ Z ST) (hls : ls.size = nL) {i : Int} (h0 : 0 ≤ i ∧ i ≤ 127) (hB : BW E0 E1 u L) (hc : cw E1 u B S Y) (hH : Hx E1 A s.heap u H locs) (hm : L.length + 1 ≤ 64) (cw9 : CallW R s args own RJ4 index yJ4_append_cf468 bytes maxL ret wsJ4_append_cf468 rm_J4_append_cf468 rm_J4_append_cf468.cells rm_J4_append_cf468.slots 1) (hroom : (rest.map fun v => v.category).sum ≤ 8) (hdg : decode cc pc = .ok (.invokevirtual index, 3)) (hf : cells + rm_J4_append_cf468.cells ≤ R.cells ∧ slots + rm_J4_append_cf468.slots ≤ R.slots)
    (kk : ∀ (E2 : xE) (w : xW) (H1 : Heap) (locs1 : List Loc), BW E0 E2 w (L ++ [i]) → cw E2 w B S Y → (∀ j : Nat, 85 ≤ j → j < 85 + xx E0 → w j = u j) → Hx E2 A s.heap w H1 locs1 → W p l e R s m args below meth c H1 locs1 (cells + rm_J4_append_cf468.cells) (slots + rm_J4_append_cf468.slots) Q (F0 m (pc + 3) ls (.ref (xad E2 (85 + xx E0)) :: rest))) : W p l e R s m args below meth c H locs cells slots Q (F0 m pc ls (.int (iZ i) :: .ref (xad E1 (85 + xx E0)) :: rest)) := by
  obtain ⟨hx, N, G, a1, a2, a3, a4, a5, a6⟩ := hB
  have e1 := hx.2.2.1
  refine x_aftR (c_J4_append_cf468 l E1 ST hSF Z hSQ u (85 + xx E0) (86 + xx E0) N (L.length : Int) i G B S Y hc (by omega) a1 a2 (by omega) a5 h0 (by omega)) (va_runV (As := [.int (iZ i)]) (rest := rest) F.fx (c_J4_append_cf468 l E1 ST hSF Z hSQ u (85 + xx E0) (86 + xx E0) N (L.length : Int) i G B S Y hc (by omega) a1 a2 (by omega) a5 h0 (by omega) H.size) cw9 (F.prv hH (F.rcv hH (k0 := 85 + xx E0) (by omega) a1 rfl) [.int (iZ i)]) rfl rfl hls rfl (lv_room hroom) hdg hf) hH (fun E2 g w H1 locs1 hp hH1 => ?_)
  obtain ⟨eg, hR, hc2, b1, ⟨N2, G2, b2, b3, b4, b5, b6⟩, b7⟩ := hp
  subst eg
  refine kk E2 w H1 locs1 ⟨⟨hR.1.trans hx.1, hR.2.1.trans hx.2.1, by rw [hR.2.2.1]; exact e1, fun k hk => (hR.2.2.2 k (by omega) (by omega)).trans (hx.2.2.2 k hk)⟩, N2, G2, ?_, b2, ?_, b4, b5, ?_⟩ hc2 (fun j j0 j1 => b7 j j0 (by omega) (by omega) (by omega)) hH1
  · rw [b1, List.length_append, Int.natCast_add]
    rfl
  · rw [List.length_append]; show L.length + 1 ≤ N2; omega
  · exact isL_cat a6 (fun j hj => by have e : j = 0 := by (have h9 : j < 1 := hj); omega
                                     subst e
                                     rfl) b6
/-- a text over the builder is written, and forgotten -/
theorem r_apd (F : xCf p E2 ST A s m args c cc nL Ts own) (hSF : SF ST) (hSQ : SQ Z ST) (hls : ls.size = nL) (hB : BW E0 E1 u L) (hT : TW E1 E2 u M) (hc : cw E2 u B S Y) (hH : Hx E2 A s.heap u H locs) (hm : L.length + M.length ≤ 64) (cw9 : CallW R s args own RJ4 index yJ4_append_15ec4 bytes maxL ret wsJ4_append_15ec4 rm_J4_append_d rm_J4_append_d.cells rm_J4_append_d.slots 1) (hroom : (rest.map fun v => v.category).sum ≤ 8) (hdg : decode cc pc = .ok (.invokevirtual index, 3)) (hf : cells + rm_J4_append_d.cells ≤ R.cells ∧ slots + rm_J4_append_d.slots ≤ R.slots)
    (kk : ∀ (E3 : xE) (w : xW) (H1 : Heap) (locs1 : List Loc), BW E0 E3 w (L ++ M) → cw E3 w B S Y → (∀ j : Nat, 85 ≤ j → j < 85 + xx E0 → w j = u j) → Hx E3 A s.heap w H1 locs1 → W p l e R s m args below meth c H1 locs1 (cells + rm_J4_append_d.cells) (slots + rm_J4_append_d.slots) Q (F0 m (pc + 3) ls (.ref (xad E3 (85 + xx E0)) :: rest))) : W p l e R s m args below meth c H locs cells slots Q (F0 m pc ls (.ref (xad E2 (85 + xx E1)) :: .ref (xad E2 (85 + xx E0)) :: rest)) := by
  obtain ⟨hx, N, G, a1, a2, a3, a4, a5, a6⟩ := hB
  obtain ⟨hy, FF, c1, c2, c3, c4⟩ := hT
  have e1 := hx.2.2.1
  have e2 := hy.2.2.1
  have a1' : u (85 + xx E0) = oSb E2 (86 + xx E0) (L.length : Int) := a1.trans (oSb_c (hy.2.2.2 _ (by omega)).symm)
  have a2' : u (86 + xx E0) = aY E2 N G := by rw [a2, hy.aY]
  refine x_aftR (c_J4_append_d l E2 ST hSF Z hSQ u (85 + xx E0) (86 + xx E0) N (85 + xx E1) (86 + xx E1) M.length (L.length : Int) G FF B S Y hc (by omega) a1' a2' (by omega) a5 (by omega) c1 (by omega) c2 (by omega) c3 (by omega)) (va_runV (As := [.ref (xad E2 (85 + xx E1))]) (rest := rest) F.fx (c_J4_append_d l E2 ST hSF Z hSQ u (85 + xx E0) (86 + xx E0) N (85 + xx E1) (86 + xx E1) M.length (L.length : Int) G FF B S Y hc (by omega) a1' a2' (by omega) a5 (by omega) c1 (by omega) c2 (by omega) c3 (by omega) H.size) cw9 (F.prv hH (F.rcv hH (k0 := 85 + xx E0) (by omega) a1' rfl) [.ref (xad E2 (85 + xx E1))]) rfl rfl hls rfl (lv_room hroom) hdg hf) hH (fun E3 g w H1 locs1 hp hH1 => ?_)
  obtain ⟨eg, hR, hc2, b1, ⟨N2, G2, b2, b3, b4, b5, b6⟩, b7⟩ := hp
  subst eg
  have e3 := hR.2.2.1
  obtain ⟨E4, w4, d1, d2, d3, d4, d5, hH4, hc4, f1, f2⟩ := Hx.cut (85 + xx E1) 2 (by omega) hc2 hH1
  have g1 : xad E4 (85 + xx E0) = xad E3 (85 + xx E0) := d4 _ (by omega)
  rw [← g1]
  refine kk E4 w4 H1 locs1 ⟨⟨d1.trans (hR.1.trans (hy.1.trans hx.1)), d2.trans (hR.2.1.trans (hy.2.1.trans hx.2.1)), by omega, fun k hk => (d4 k (by omega)).trans ((hR.2.2.2 k (by omega) (by omega)).trans ((hy.2.2.2 k (by omega)).trans (hx.2.2.2 k hk)))⟩, N2, G2, ?_, ?_, ?_, b4, b5, ?_⟩ hc4 (fun j j0 j1 => (f1 j j0 (by omega)).trans (b7 j j0 (by omega) (by omega) (by omega))) hH4
  · rw [f1 _ (by omega) (by omega), b1, List.length_append, Int.natCast_add]
    exact oSb_c (d4 _ (by omega)).symm
  · rw [f1 _ (by omega) (by omega), b2]
    show (Sum.inl (xY E3, N2, Sum.inl (ar G2)) : va_E) = Sum.inl (xY E4, N2, Sum.inl (ar G2))
    rw [show xY E4 = xY E3 from congrArg (fun q => q.2.2.2) d2]
  · rw [List.length_append]; omega
  · exact isL_cat a6 c4 b6
/-- the text so far is written into a new builder, and forgotten -/
theorem r_apt (F : xCf p E2 ST A s m args c cc nL Ts own) (hSF : SF ST) (hSQ : SQ Z ST) (hls : ls.size = nL) {v : Value} (hT : TX9 Z E0 E1 u v M) (hB : BW E1 E2 u []) (hc : cw E2 u B S Y) (hH : Hx E2 A s.heap u H locs) (hm : M.length ≤ 64) (cw9 : CallW R s args own RJ4 index yJ4_append_15ec4 bytes maxL ret wsJ4_append_15ec4 rm_J4_append_15ec4 rm_J4_append_15ec4.cells rm_J4_append_15ec4.slots 1) (cw8 : CallW R s args own RJ4 index yJ4_append_15ec4 bytes maxL ret wsJ4_append_15ec4 rm_J4_append_d rm_J4_append_15ec4.cells rm_J4_append_15ec4.slots 1) (hroom : (rest.map fun v => v.category).sum ≤ 8) (hdg : decode cc pc = .ok (.invokevirtual index, 3)) (hf : cells + rm_J4_append_15ec4.cells ≤ R.cells ∧ slots + rm_J4_append_15ec4.slots ≤ R.slots)
    (kk : ∀ (E3 : xE) (w : xW) (H1 : Heap) (locs1 : List Loc), BW E0 E3 w M → cw E3 w B S Y → (∀ j : Nat, 85 ≤ j → j < 85 + xx E0 → w j = u j) → Hx E3 A s.heap w H1 locs1 → W p l e R s m args below meth c H1 locs1 (cells + rm_J4_append_15ec4.cells) (slots + rm_J4_append_15ec4.slots) Q (F0 m (pc + 3) ls (.ref (xad E3 (85 + xx E0)) :: rest))) : W p l e R s m args below meth c H locs cells slots Q (F0 m pc ls (v :: .ref (xad E2 (85 + xx E1)) :: rest)) := by
  rcases hT with ⟨rfl, rfl, rfl⟩ | ⟨hT, rfl⟩
  · exact r_apl F hSF hSQ hls (i := 0) (by decide) (by decide) hB hc hH (by decide) cw9 hroom hdg hf kk
  · obtain ⟨hy, N, G, a1, a2, a3, a4, a5, a6⟩ := hB
    have hT0 := hT
    obtain ⟨hx, FF, c1, c2, c3, c4⟩ := hT
    have e1 := hx.2.2.1
    have e2 := hy.2.2.1
    have c1' : u (85 + xx E0) = oSt E2 (86 + xx E0) := c1.trans (oSt_c (hy.2.2.2 _ (by omega)).symm)
    have c2' : u (86 + xx E0) = aY E2 M.length FF := by rw [c2, hy.aY]
    have hv : xad E1 (85 + xx E0) = xad E2 (85 + xx E0) := (hy.2.2.2 _ (by omega)).symm
    rw [hv]
    refine x_aftR (c_J4_append_d l E2 ST hSF Z hSQ u (85 + xx E1) (86 + xx E1) N (85 + xx E0) (86 + xx E0) M.length ((([] : List Int).length : Nat) : Int) G FF B S Y hc (by omega) a1 a2 (by omega) a5 (by omega) c1' (by omega) c2' (by show ((0 : Nat) : Int) + _ ≤ 64; omega) c3 (by omega)) (va_runV (As := [.ref (xad E2 (85 + xx E0))]) (rest := rest) F.fx (c_J4_append_d l E2 ST hSF Z hSQ u (85 + xx E1) (86 + xx E1) N (85 + xx E0) (86 + xx E0) M.length ((([] : List Int).length : Nat) : Int) G FF B S Y hc (by omega) a1 a2 (by omega) a5 (by omega) c1' (by omega) c2' (by show ((0 : Nat) : Int) + _ ≤ 64; omega) c3 (by omega) H.size) cw8 (F.prv hH (F.rcv hH (k0 := 85 + xx E1) (by omega) a1 rfl) [.ref (xad E2 (85 + xx E0))]) rfl rfl hls rfl (lv_room hroom) hdg hf) hH (fun E3 g w H1 locs1 hp hH1 => ?_)
    obtain ⟨eg, hR, hc2, b1, ⟨N2, G2, b2, b3, b4, b5, b6⟩, b7⟩ := hp
    subst eg
    have e3 := hR.2.2.1
    have hB3 : BW E1 E3 w M := ⟨⟨hR.1.trans hy.1, hR.2.1.trans hy.2.1, by omega, fun k hk => (hR.2.2.2 k (by omega) (by omega)).trans (hy.2.2.2 k hk)⟩, N2, G2, (by rw [b1]; show oB 6 _ = oB 6 _; rw [show (((([] : List Int).length : Nat) : Int) + ((M.length : Nat) : Int)) = (M.length : Int) by show ((0 : Nat) : Int) + _ = _; omega]), b2, (by have h9 : ((0 : Nat) : Int) + ((M.length : Nat) : Int) ≤ (N2 : Int) := b3; omega), b4, b5, (isL_cat (L := []) (M := M) a6 c4 b6)⟩
    have hT3 : TW E0 E1 w M := ⟨hx, FF, (b7 _ (by omega) (by omega) (by omega) (by omega)).trans c1, (b7 _ (by omega) (by omega) (by omega) (by omega)).trans c2, c3, c4⟩
    obtain ⟨E4, w4, h1, h2, h3, h4, h5⟩ := BW.drop hT3 hB3 hc2 hH1
    rw [← h2]
    exact kk E4 w4 H1 locs1 h1 h3 (fun j j0 j1 => (h4 j j0 j1).trans (b7 j j0 (by omega) (by omega) (by omega))) h5
/-- new, dup, invokespecial -/
theorem r_new (F : xCf p E1 ST A s m args c cc nL Ts own) (hSF : SF ST) (hSQ : SQ Z ST) (hls : ls.size = nL) (hc : cw E1 u B S Y) (hH : Hx E1 A s.heap u H locs) {ik : Nat} (hin : ∀ w ∈ u_ws RJ4 TJ4 4, w ∈ Ts) (hcl : Cond.classLink own ik RJ4 ∈ Ts) (hinst : Cond.instantiable RJ4 4 ∈ Ts) (hini : Cond.initialized RJ4 ∈ Ts) (cw9 : CallB R s args own index yJ4_init_da8c8 bytes maxL none wsJ4_init_da8c8 rm_J4_init_da8c8 rm_J4_init_da8c8.cells rm_J4_init_da8c8.slots 0 ∧ yJ4_init_da8c8.name = "<init>" ∧ (Cond.instanceMethod yJ4_init_da8c8).before args s = true) (hroom : (rest.map fun v => v.category).sum ≤ 7) (d0 : decode cc pc = .ok (.new ik, 3)) (d3 : decode cc (pc + 3) = .ok (.dup, 1)) (d4 : decode cc (pc + 4) = .ok (.invokespecial index, 3)) (hf : cells + 1 + rm_J4_init_da8c8.cells ≤ R.cells ∧ slots + 4 + rm_J4_init_da8c8.slots ≤ R.slots)
    (kk : ∀ (E2 : xE) (w : xW) (H1 : Heap) (locs1 : List Loc), BW E1 E2 w [] → cw E2 w B S Y → (∀ j : Nat, 85 ≤ j → j < 85 + xx E1 → w j = u j) → Hx E2 A s.heap w H1 locs1 → W p l e R s m args below meth c H1 locs1 (cells + 1 + rm_J4_init_da8c8.cells) (slots + 4 + rm_J4_init_da8c8.slots) Q (F0 m (pc + 7) ls (.ref (xad E2 (85 + xx E1)) :: rest))) : W p l e R s m args below meth c H locs cells slots Q (F0 m pc ls rest) := by
  obtain ⟨hx, hb, hml, hown, hts, hK, hST, hOK⟩ := F
  have F : xCf p E1 ST A s m args c cc nL Ts own := ⟨hx, hb, hml, hown, hts, hK, hST, hOK⟩
  refine x_newO (fs := [.null, .int (iZ 0), .int (iZ 0), .int (iZ 0)]) hx hb hts hown hK hH hc hin tyJ4 tyJ4_ok hcl hinst hini (ci := 6) rfl (fun j hj => by rcases (show j = 0 ∨ j = 1 ∨ j = 2 ∨ j = 3 by omega) with rfl | rfl | rfl | rfl <;> rfl) (by omega) (by omega) d0 (fun E2 g w H1 hE hK2 hH2 hc2 hg hfr => ?_)
  have hgl := hE.lt
  have F2 := F.mv hE.1 hE.2.1
  refine lv_dup hx hb d3 rfl ?_
  refine x_aftG (c_J4_init_da8c8 l E2 ST hSF Z hSQ w g B S Y hc2 (by omega) hg) (va_runI (As := []) (rest := .ref (xad E2 g) :: rest) F2.fx (c_J4_init_da8c8 l E2 ST hSF Z hSQ w g B S Y hc2 (by omega) hg H1.size) cw9 (F2.pre hH2 [.ref (xad E2 g)]) rfl rfl hls rfl (lv_room (by rw [List.map_cons, List.sum_cons]; show 1 + _ ≤ 8; omega)) d4 hf) hH2 (fun E3 w3 H3 locs3 hp hH3 => ?_)
  obtain ⟨g3, hE3, hc3, b1, b2, b3⟩ := hp
  have hgl3 := hE3.lt
  obtain ⟨-, -, hgl2, hge⟩ := hgl
  subst hge
  obtain ⟨-, -, hgl4, hge3⟩ := hgl3
  rw [show xad E2 (85 + xx E1) = xad E3 (85 + xx E1) from (hE3.ad (by omega)).symm]
  refine kk E3 w3 H3 locs3 ⟨⟨hE3.1.trans hE.1, hE3.2.1.trans hE.2.1, by omega, fun i hi => (hE3.ad (by omega)).trans (hE.ad hi)⟩, 16, fun _ => 0, ?_, ?_, by decide, by decide, lt7_0, fun j hj => absurd hj (by simp)⟩ hc3 (fun j j0 j1 => (b3 j j0 (by omega) (by omega)).trans (hfr j j0 (by omega))) hH3
  · rw [b1, hge3, show 85 + xx E2 = 86 + xx E1 by omega]
    rfl
  · rw [← b2, hge3, show 85 + xx E2 = 86 + xx E1 by omega]
/-- toString; the builder is forgotten -/
theorem r_ts (F : xCf p E1 ST A s m args c cc nL Ts own) (hSF : SF ST) (hSQ : SQ Z ST) (hls : ls.size = nL) (hB : BW E0 E1 u L) (hc : cw E1 u B S Y) (hH : Hx E1 A s.heap u H locs) (cw9 : CallW R s args own RJ4 index yJ4_toString_0e30d bytes maxL ret wsJ4_toString_0e30d rm_J4_toString_0e30d rm_J4_toString_0e30d.cells rm_J4_toString_0e30d.slots 0) (hroom : (rest.map fun v => v.category).sum ≤ 8) (hdg : decode cc pc = .ok (.invokevirtual index, 3)) (hf : cells + rm_J4_toString_0e30d.cells ≤ R.cells ∧ slots + rm_J4_toString_0e30d.slots ≤ R.slots)
    (kk : ∀ (E2 : xE) (w : xW) (H1 : Heap) (locs1 : List Loc), TW E0 E2 w L → cw E2 w B S Y → (∀ j : Nat, 85 ≤ j → j < 85 + xx E0 → w j = u j) → Hx E2 A s.heap w H1 locs1 → W p l e R s m args below meth c H1 locs1 (cells + rm_J4_toString_0e30d.cells) (slots + rm_J4_toString_0e30d.slots) Q (F0 m (pc + 3) ls (.ref (xad E2 (85 + xx E0)) :: rest))) : W p l e R s m args below meth c H locs cells slots Q (F0 m pc ls (.ref (xad E1 (85 + xx E0)) :: rest)) := by
  have hB0 := hB
  obtain ⟨hx, N, G, a1, a2, a3, a4, a5, a6⟩ := hB
  have e1 := hx.2.2.1
  refine x_aftR (c_J4_toString_0e30d l E1 ST hSF Z hSQ u (85 + xx E0) (86 + xx E0) N L.length G B S Y hc (by omega) a1 a2 (by omega) a5) (va_runV (As := []) (rest := rest) F.fx (c_J4_toString_0e30d l E1 ST hSF Z hSQ u (85 + xx E0) (86 + xx E0) N L.length G B S Y hc (by omega) a1 a2 (by omega) a5 H.size) cw9 (F.prv hH (F.rcv hH (k0 := 85 + xx E0) (by omega) a1 rfl) []) rfl rfl hls rfl (lv_room hroom) hdg hf) hH (fun E3 g w H1 locs1 hp hH1 => ?_)
  obtain ⟨E2, g2, hE, hE2, hc3, b1, ⟨FF, b2, b3, b4⟩, b5⟩ := hp
  obtain ⟨-, -, k2, k3⟩ := hE.lt
  obtain ⟨-, -, k4, k5⟩ := hE2.lt
  subst k3
  have hT : TW E1 E3 w L := ⟨⟨hE2.1.trans hE.1, hE2.2.1.trans hE.2.1, by omega, fun i hi => (hE2.ad (by omega)).trans (hE.ad hi)⟩, FF, (by rw [b1, k5, show 85 + xx E2 = 86 + xx E1 by omega]), (by rw [← b2, k5, show 85 + xx E2 = 86 + xx E1 by omega]), b3, fun j hj => (b4 j (by omega) (by omega)).trans (a6 j hj)⟩
  have hB3 : BW E0 E1 w L := ⟨hx, N, G, (b5 _ (by omega) (by omega)).trans a1, (b5 _ (by omega) (by omega)).trans a2, a3, a4, a5, a6⟩
  obtain ⟨E4, w4, h1, h2, h3, h4, h5⟩ := TW.drop hB3 hT hc3 hH1
  rw [← h2]
  exact kk E4 w4 H1 locs1 h1 h3 (fun j j0 j1 => (h4 j j0 j1).trans (b5 j j0 (by omega))) h5
end BWR
/-! ===== a method that answers a text of the start ===== -/
def CZ (l : Launch) (E : xE) (ST : xST) (Z : zE) (y : MethodName) (ws : List Cond) (rm : Room) (av : List Value) (σ : xW) (post : Int → xW → Prop) : Prop := ∀ sz : Nat, Met l y ws rm (va_Pc av (xPre E ST σ sz)) (va_Qr (S := Int × xW) (fun u => post u.1 u.2) (fun u a t => a = zK Z u.1 ∧ xB E sz u.2 t) (xA E sz)) rm.cells rm.slots (xA E sz)
theorem CZ_of {l : Launch} {E : xE} {ST : xST} {Z : zE} {y : MethodName} {ws : List Cond} {ws' : List Cond} {rm : Room} {av : List Value} {σ : xW} {cc : ByteArray} {maxL : Nat} {ret : Option FieldType} {post : Int → xW → Prop} (hy : plainName y.cls = true) (hw : ws = Cond.code y cc maxL ret :: ws') (hn : (lg_sl av).length ≤ maxL)
    (body : ∀ (p : Program) (e : Env) (s : State) (m : MethodId) (args : Array Value) (below : List Frame) (meth : Method) (c : Code) (Q : State → Prop) (ls : Array Slot), Gx E ST y.cls ws cc maxL ret p s m args meth c → Hx E (xA E s.heap.size) s.heap σ s.heap [] → lv_has ls maxL (lv_args 0 av) → Q = MQ below (va_Qr (S := Int × xW) (fun u => post u.1 u.2) (fun u a t => a = zK Z u.1 ∧ xB E s.heap.size u.2 t) (xA E s.heap.size)) args s rm.cells rm.slots (xA E s.heap.size) →
      W p l e rm s m args below meth c s.heap [] 0 0 Q (F0 m 0 ls [])) : CZ l E ST Z y ws rm av σ post := by
  intro sz
  refine Met.ofW hy hw ?_
  intro p e s m args below meth c s₁ B hml hv
  obtain ⟨rfl, rfl, G, hH⟩ := Gx_of hw B hml hv
  rw [lg_entry_eq]
  exact body p e s m _ below meth c _ _ G hH (lv_entry av hn) rfl
section CZR
variable {p : Program} {l : Launch} {e : Env} {R : Room} {s : State} {m : MethodId} {args : Array Value} {below : List Frame} {meth : Method} {c : Code} {H : Heap} {locs : List Loc} {cells slots : Nat} {Q : State → Prop}
variable {cc : ByteArray} {pc : Nat} {ls : Array Slot} {rest st0 : List Value} {E : xE} {ST : xST} {A : Nat → Prop} {σ u : xW} {Z : zE}
theorem x_zoret (hx : p.tables.exec = Jvm.exec) (hb : c.code = cc) {C : String} (hr : meth.sig.returnType = some (.object C)) (hlocks : meth.locks = false) (hH : Hx E (xA E s.heap.size) s.heap u H locs) {mc ms : Nat} (hc : cells ≤ mc) (hs : slots ≤ ms) {post : Int → xW → Prop} (i : Int) (hp : post i u) (hdg : decode cc pc = .ok (.areturn, 1)) : W p l e R s m args below meth c H locs cells slots (MQ below (va_Qr (S := Int × xW) (fun u => post u.1 u.2) (fun u a t => a = zK Z u.1 ∧ xB E s.heap.size u.2 t) (xA E s.heap.size)) args s mc ms (xA E s.heap.size)) (F0 m pc ls [.ref (zK Z i)]) :=
  W.widen hc hs (W.aret hx hb hr (Or.inl ⟨C, rfl⟩) (Or.inr ⟨_, rfl⟩) (fun t ht hW => ⟨⟨(i, u), _, rfl, hp, rfl, ht ▸ hH.1, hH.2.1⟩, hH.2.2.1.F ht⟩) hH.2.2.1.2.2 hdg hlocks)
theorem x_aftZ {post : Int → xW → Prop} {y : MethodName} {ws : List Cond} {rm : Room} {av : List Value} (_hM : CZ l E ST Z y ws rm av σ post) {mc ms : Nat} {a : Array Value} (hr : va_Run p l e R s m args below meth c H locs cells slots mc ms (F0 m pc ls st0) rest (va_Qr (S := Int × xW) (fun u => post u.1 u.2) (fun u a t => a = zK Z u.1 ∧ xB E H.size u.2 t) (xA E H.size) a) (xA E H.size)) (hH : Hx E A s.heap σ H locs)
    (kk : ∀ (i : Int) (u : xW) (H1 : Heap) (locs1 : List Loc), post i u → Hx E A s.heap u H1 locs1 → W p l e R s m args below meth c H1 locs1 (cells + mc) (slots + ms) Q (F0 m (pc + 3) ls (.ref (zK Z i) :: rest))) : W p l e R s m args below meth c H locs cells slots Q (F0 m pc ls st0) :=
  va_callr hr hH.2.2.1 (fun q _ h => hH.A q h) hH.A (fun w ra t H1 locs1 ht hvm hp hB hz hk1 hS => by
    obtain ⟨i, u⟩ := w
    obtain ⟨rfl, hB⟩ := hB
    exact kk i u H1 locs1 hp ⟨ht ▸ hB.1, hB.2.weaken (fun k q hk hq => hH.A q.1 hq), hS, hH.2.2.2⟩)
end CZR
/-! standing: whether a walker stands there -/
def wkI (wc : Int → Int) (nw ce : Int) : Int := if 0 < cntK wc ce nw then 5 else 0
theorem sd_t {f : Int → Int} {x n : Int} {b9 : Bool} (hb : b9 = decide (0 < cntK f x n)) (h : b9 = true) (hn : 0 ≤ n) : true = decide (0 < cntK f x (n + 1)) := by
  rw [h] at hb
  exact (decide_eq_true ((cntK_p hn).mpr (Or.inl (of_decide_eq_true hb.symm)))).symm
theorem sd_y {f : Int → Int} {x n : Int} (h : f n = x) (hn : 0 ≤ n) : true = decide (0 < cntK f x (n + 1)) := (decide_eq_true ((cntK_p hn).mpr (Or.inr h))).symm
theorem sd_n {f : Int → Int} {x n : Int} {b9 : Bool} (hb : b9 = decide (0 < cntK f x n)) (h : b9 = false) (h2 : ¬ f n = x) (hn : 0 ≤ n) : false = decide (0 < cntK f x (n + 1)) := by
  rw [h] at hb
  exact (decide_eq_false (fun q => ((cntK_p hn).mp q).elim (fun q2 => of_decide_eq_false hb.symm q2) h2)).symm
theorem wkI_t {f : Int → Int} {x n : Int} {b9 : Bool} (hb : b9 = decide (0 < cntK f x n)) (h : b9 = true) : 5 = wkI f n x := by
  rw [h] at hb
  unfold wkI
  rw [if_pos (of_decide_eq_true hb.symm)]
theorem wkI_f {f : Int → Int} {x n : Int} {b9 : Bool} (hb : b9 = decide (0 < cntK f x n)) (h : b9 = false) : 0 = wkI f n x := by
  rw [h] at hb
  unfold wkI
  rw [if_neg (of_decide_eq_false hb.symm)]
