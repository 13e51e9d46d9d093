/-! ===== all of it ===== -/
def zLs : List Nat := [133, 1525, 1526, 1527, 1528, 1529, 1530, 1531, 1532, 1533, 1534]
def zEx : List Nat := [4, 44, 48, 53, 59, 66, 74, 83, 93, 104, 116]
def zOd : List Nat := [5, 45, 49, 54, 60, 67, 75, 84, 94, 105, 117]
def zPt : List Nat := [6, 46, 50, 55, 61, 68, 76, 85, 95, 106, 118]
def zCe : List Nat := [14, 15, 16, 17, 18, 19, 20, 21, 22, 23, 24]
def zSe : List Nat := [33, 34, 35, 36, 37, 38, 39, 40, 41, 42, 43]
abbrev zCm (i : Nat) : Term := .static RX2 (cNm.getD i "") "LBrambleShift$Command;"
abbrev zCt : Term := .static RX6 "COMMANDS" "[LBrambleShift$Command;"
abbrev zSm : Term := .static "BrambleShift$1" "$SwitchMap$BrambleShift$Command" "[I"
set_option maxRecDepth 100000 in
theorem zC_ls : ∀ i : Nat, i < 11 → tables_1[zLs.getD i 0]? = some (Cond.laysStatic RX2 (cNm.getD i "") "LBrambleShift$Command;") := by decide +kernel
set_option maxRecDepth 100000 in
theorem zC_ex : ∀ i : Nat, i < 11 → zF[zEx.getD i 0]? = some (Cond.exactly (zCm i) RX2) := by decide +kernel
set_option maxRecDepth 100000 in
theorem zC_od : ∀ i : Nat, i < 11 → zF[zOd.getD i 0]? = some (Cond.eq (.field (zCm i) "java/lang/Enum" "ordinal" "I") (.int (([0, 1, 2, 3, 4, 5, 6, 7, 8, 9, 10] : List Int32).getD i 0))) := by decide +kernel
set_option maxRecDepth 100000 in
theorem zC_pt : ∀ i : Nat, i < 11 → zF[zPt.getD i 0]? = some (Cond.eq (.field (zCm i) RX2 "pattern" "Ljava/lang/String;") (zTi i)) := by decide +kernel
set_option maxRecDepth 100000 in
theorem zC_ce : ∀ i : Nat, i < 11 → zF[zCe.getD i 0]? = some (Cond.eq (.elem zCt (.int (Int32.ofNat i))) (zCm i)) := by decide +kernel
set_option maxRecDepth 100000 in
theorem zC_se : ∀ i : Nat, i < 11 → zF[zSe.getD i 0]? = some (Cond.eq (.elem zSm (.int (Int32.ofNat i))) (.int (iZ (smZ (i : Int))))) := by decide +kernel
set_option maxRecDepth 100000 in
theorem zC_ne : ∀ i : Nat, i < 11 → ∀ j : Nat, j < i → Cond.not (.eq (zCm j) (zCm i)) ∈ zF := by decide +kernel
set_option maxRecDepth 100000 in
theorem zX_nc : ∀ a ∈ xcN, ∀ b ∈ xcN, a ≠ b → Cond.not (.castable a b) ∈ zF := by decide +kernel
set_option maxRecDepth 100000 in
theorem zX_ca : ∀ a ∈ xcN, Cond.castable a a ∈ tables_1 := by decide +kernel
set_option maxRecDepth 100000 in
theorem zX_st : ∀ q ∈ xStr, Cond.stringRef RX6 q.1 q.2 ∈ tables_1 := by decide +kernel
set_option maxRecDepth 100000 in
theorem zX_se : ∀ q ∈ xStr, Cond.exactly (.string RX6 q.1) "java/lang/String" ∈ zF := by decide +kernel
set_option maxRecDepth 100000 in
theorem zX_nw : ∀ w ∈ xNest ++ xThW, w ∈ tables_1 ∧ w.onTables = true := by decide +kernel
set_option maxRecDepth 100000 in
set_option maxHeartbeats 4000000 in
theorem zST_start {s : State} {b : Nat} (hts : ∀ w ∈ lw_tbl, w.before #[Value.ref b] s = true) (hgv : (Jvm.Cond.and given_1 narrow_1).before #[Value.ref b] s = true) : ∃ Z : zE, zST Z (fun q => s.heap.size ≤ q) s s.heap := by
  have hs : ∀ c ∈ zF, c.before #[Value.ref b] s = true := flat_of_before _ hgv
  have ht1 : ∀ w ∈ tables_1, w.before #[Value.ref b] s = true := fun w h => hts w (List.mem_append_right _ h)
  have hA : ∀ a : Nat, a < s.heap.size → ¬ (fun q => s.heap.size ≤ q) a := fun a h => Nat.not_le.mpr h
  obtain ⟨adK, adV, hS, hSe⟩ := zS_of (args := #[Value.ref b]) hs hA
  have hi2 : (Cond.initialized RX2).before #[Value.ref b] s = true := (hts _ (List.mem_append_right _ (List.mem_of_getElem? (l := tables_1) (i := 8) (a := Cond.initialized RX2) (by decide +kernel))))
  have hi6 : (Cond.initialized RX6).before #[Value.ref b] s = true := (hts _ (List.mem_append_right _ (List.mem_of_getElem? (l := tables_1) (i := 1) (a := Cond.initialized RX6) (by decide +kernel))))
  have hi1 : (Cond.initialized "BrambleShift$1").before #[Value.ref b] s = true := (hts _ (List.mem_append_right _ (List.mem_of_getElem? (l := tables_1) (i := 25) (a := Cond.initialized "BrambleShift$1") (by decide +kernel))))
  have hij : (Cond.initialized "java/lang/String").before #[Value.ref b] s = true := (hts _ (List.mem_append_right _ (List.mem_of_getElem? (l := tables_1) (i := 21) (a := Cond.initialized "java/lang/String") (by decide +kernel))))
  have hip : (Cond.initialized "jdk/internal/util/Preconditions").before #[Value.ref b] s = true := (hts _ (List.mem_append_right _ (List.mem_of_getElem? (l := tables_1) (i := 23) (a := Cond.initialized "jdk/internal/util/Preconditions") (by decide +kernel))))
  have hit : (Cond.initialized Bundle.tN).before #[Value.ref b] s = true := (hts _ (List.mem_append_right _ (List.mem_of_getElem? (l := tables_1) (i := 11) (a := Cond.initialized Bundle.tN) (by decide +kernel))))
  obtain ⟨adC, hC, hCe⟩ := va_Enof2 (args := #[Value.ref b]) (s := s) (E := RX2) (d := "LBrambleShift$Command;") (nm := cNm) (F := cFl) (fun i hi => ht1 _ (List.mem_of_getElem? (zC_ls i hi))) hi2 (fun i hi => hs _ (List.mem_of_getElem? (zC_ex i hi)))
    (fun q hq i hi => by rw [List.mem_singleton.mp hq]; exact hs _ (List.mem_of_getElem? (zC_od i hi)))
    (fun i j hi hj hij => by
      rcases Nat.lt_or_gt_of_ne hij with h | h
      · exact Or.inl (hs _ (zC_ne j hj i h))
      · exact Or.inr (hs _ (zC_ne i hi j h))) hA
  obtain ⟨tC, htC, hTC⟩ := va_Tof (args := #[Value.ref b]) (s := s) (tm := zCt) (ty := .object RX2) (N := 11) (f := fun j => .ref (adC j)) (by decide) (hs _ (List.mem_of_getElem? (l := zF) (i := 11) (a := Cond.arrayOf zCt (.object RX2)) (by decide +kernel))) (va_eqt (hs _ (List.mem_of_getElem? (l := zF) (i := 12) (a := Cond.eq (.length zCt) (.int (Int32.ofNat 11))) (by decide +kernel)))) (fun j hj => va_eqv (hs _ (List.mem_of_getElem? (zC_ce j hj))) (hCe j hj)) hA
  obtain ⟨tM, htM, hTM⟩ := va_Tof (args := #[Value.ref b]) (s := s) (tm := zSm) (ty := .int) (N := 11) (f := fun j => .int (iZ (smZ (j : Int)))) (by decide) (hs _ (List.mem_of_getElem? (l := zF) (i := 31) (a := Cond.arrayOf zSm .int) (by decide +kernel))) (va_eqt (hs _ (List.mem_of_getElem? (l := zF) (i := 32) (a := Cond.eq (.length zSm) (.int (Int32.ofNat 11))) (by decide +kernel)))) (fun j hj => va_eqt (hs _ (List.mem_of_getElem? (zC_se j hj)))) hA
  refine ⟨(adK, adV, adC, tC, tM), fun w hw => va_Nw.of (zX_nw w hw).2 (ht1 w (zX_nw w hw).1), ⟨?_, ?_⟩, fun q hq => ?_, ⟨hS, hC, ?_, ?_, hTC, ?_, hTM, ?_, ?_, ?_, ?_⟩, ⟨?_, ?_, ?_⟩, fun a ha => va_Nw.of rfl (ht1 _ (zX_ca a ha)), fun a ha c hc hac => va_Nc.of (hs _ (zX_nc a ha c hc hac))⟩
  · exact vx_Zqof (hts _ (List.mem_append_right _ (List.mem_of_getElem? (l := tables_1) (i := 340) (a := Cond.laysStatic Bundle.tN "UNASSIGNED_STACK" Bundle.steD) (by decide +kernel)))) hit (hs _ (List.mem_of_getElem? (l := zF) (i := 7) (a := Cond.isRef (.static Bundle.tN "UNASSIGNED_STACK" Bundle.steD)) (by decide +kernel))) hA
  · exact vx_Zqof (hts _ (List.mem_append_right _ (List.mem_of_getElem? (l := tables_1) (i := 342) (a := Cond.laysStatic Bundle.tN "SUPPRESSED_SENTINEL" Bundle.listD) (by decide +kernel)))) hit (hs _ (List.mem_of_getElem? (l := zF) (i := 8) (a := Cond.isRef (.static Bundle.tN "SUPPRESSED_SENTINEL" Bundle.listD)) (by decide +kernel))) hA
  · obtain ⟨a, c, cell, k, q1, -⟩ := Cond.exactly_spec (hs _ (zX_se q hq))
    exact ⟨a, vk_R.of (ht1 _ (zX_st q hq)) q1⟩
  · exact va_Efof (args := #[Value.ref b]) (E := RX2) (d0 := "LBrambleShift$Command;") (nm := cNm) (tm := zTi) (fun i hi => hCe i hi) (fun i hi => hs _ (List.mem_of_getElem? (zC_pt i hi))) (fun i hi => hSe i (by omega)) hA
  · exact va_Zref (hts _ (List.mem_append_right _ (List.mem_of_getElem? (l := tables_1) (i := 844) (a := Cond.laysStatic RX6 "COMMANDS" "[LBrambleShift$Command;") (by decide +kernel)))) hi6 htC hA
  · exact va_Zref (hts _ (List.mem_append_right _ (List.mem_of_getElem? (l := tables_1) (i := 925) (a := Cond.laysStatic "BrambleShift$1" "$SwitchMap$BrambleShift$Command" "[I") (by decide +kernel)))) hi1 htM hA
  · exact va_Zof (hts _ (List.mem_append_right _ (List.mem_of_getElem? (l := tables_1) (i := 858) (a := Cond.laysStatic "java/lang/String" "COMPACT_STRINGS" "Z") (by decide +kernel)))) hij (va_eqi (hs _ (List.mem_of_getElem? (l := zF) (i := 25) (a := Cond.eq (.static "java/lang/String" "COMPACT_STRINGS" "Z") (.int 1)) (by decide +kernel)))) hA
  · exact va_Zqof (hts _ (List.mem_append_right _ (List.mem_of_getElem? (l := tables_1) (i := 874) (a := Cond.laysStatic "jdk/internal/util/Preconditions" "SIOOBE_FORMATTER" "Ljava/util/function/BiFunction;") (by decide +kernel)))) hip (hs _ (List.mem_of_getElem? (l := zF) (i := 26) (a := Cond.isRef (.static "jdk/internal/util/Preconditions" "SIOOBE_FORMATTER" "Ljava/util/function/BiFunction;")) (by decide +kernel))) hA
  · exact vk_R.of (hts _ (List.mem_append_right _ (List.mem_of_getElem? (l := tables_1) (i := 1456) (a := Cond.stringRef RX7 259 sNames) (by decide +kernel)))) (hSe 11 (by decide))
  · exact va_Nw.of rfl (hts _ (List.mem_append_right _ (List.mem_of_getElem? (l := tables_1) (i := 843) (a := Cond.fieldLinkNest RX4 39 RX6 "COMMANDS" "[LBrambleShift$Command;" "BrambleShift") (by decide +kernel))))
  · exact va_AO.of (hts _ (List.mem_append_right _ (List.mem_of_getElem? (l := tables_1) (i := 87) (a := Cond.arrayOver (.object RX1)) (by decide +kernel))))
  · exact va_Nw.of rfl (hts _ (List.mem_append_right _ (List.mem_of_getElem? (l := tables_1) (i := 102) (a := Cond.methodLinkNest RX6 38 yX5_init "BrambleShift") (by decide +kernel))))
  · exact va_Nw.of rfl (hts _ (List.mem_append_right _ (List.mem_of_getElem? (l := tables_1) (i := 128) (a := Cond.methodLinkNest RX6 45 yX4_init "BrambleShift") (by decide +kernel))))
