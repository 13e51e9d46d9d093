/-! ===== all of it ===== -/
abbrev zCm : Term := .static RX2 "TILE" "LBrambleShift$Command;"
set_option maxRecDepth 100000 in
theorem zX_nc : ∀ a ∈ xcN, ∀ b ∈ xcN, a ≠ b → Cond.not (.castable a b) ∈ zF := by decide +kernel
set_option maxRecDepth 100000 in
theorem zX_ca : ∀ a ∈ xcN, Cond.castable a a ∈ tables_1 := by decide +kernel
set_option maxRecDepth 100000 in
theorem zX_st : ∀ q ∈ xStr, Cond.stringRef RX6 q.1 q.2 ∈ tables_1 := by decide +kernel
set_option maxRecDepth 100000 in
theorem zX_se : ∀ q ∈ xStr, Cond.exactly (.string RX6 q.1) "java/lang/String" ∈ zF := by decide +kernel
set_option maxRecDepth 100000 in
theorem zX_nw : ∀ w ∈ xNest ++ xThW, w ∈ tables_1 ∧ w.onTables = true := by decide +kernel
set_option maxRecDepth 100000 in
theorem zX_tx : ∀ q ∈ sTx, Cond.stringRef RL q.1 q.2 ∈ tables_1 := by decide +kernel
theorem zX_ti : ∀ i : Nat, i < 6 → zTi i = .string RL (sTx.getD i (0, "")).1 := by decide +kernel
set_option maxRecDepth 100000 in
set_option maxHeartbeats 4000000 in
theorem zST_start {s : State} {b L : Nat} {xs : Nat → Int32} (hts : ∀ w ∈ lw_tbl, w.before #[Value.ref b] s = true) (hgv : (Jvm.Cond.and given_1 narrow_1).before #[Value.ref b] s = true) (hX : va_X b L xs s s.heap) (hbl : b < s.heap.size) : ∃ (Z : zE) (zx : Int → Int) (zt : Nat), zST (Z, b, L, zx, zt) (fun q => s.heap.size ≤ q) s s.heap := by
  have hs : ∀ c ∈ zF, c.before #[Value.ref b] s = true := flat_of_before _ hgv
  have ht1 : ∀ w ∈ tables_1, w.before #[Value.ref b] s = true := fun w h => hts w (List.mem_append_right _ h)
  have hA : ∀ a : Nat, a < s.heap.size → ¬ (fun q => s.heap.size ≤ q) a := fun a h => Nat.not_le.mpr h
  obtain ⟨adK, adV, hS, hSe⟩ := zS_of (args := #[Value.ref b]) hs hA
  have hi2 : (Cond.initialized RX2).before #[Value.ref b] s = true := (hts _ (List.mem_append_right _ (List.mem_of_getElem? (l := tables_1) (i := 8) (a := Cond.initialized RX2) (by decide +kernel))))
  have hij : (Cond.initialized "java/lang/String").before #[Value.ref b] s = true := (hts _ (List.mem_append_right _ (List.mem_of_getElem? (l := tables_1) (i := 21) (a := Cond.initialized "java/lang/String") (by decide +kernel))))
  have hip : (Cond.initialized "jdk/internal/util/Preconditions").before #[Value.ref b] s = true := (hts _ (List.mem_append_right _ (List.mem_of_getElem? (l := tables_1) (i := 23) (a := Cond.initialized "jdk/internal/util/Preconditions") (by decide +kernel))))
  have hit : (Cond.initialized Bundle.tN).before #[Value.ref b] s = true := (hts _ (List.mem_append_right _ (List.mem_of_getElem? (l := tables_1) (i := 10) (a := Cond.initialized Bundle.tN) (by decide +kernel))))
  obtain ⟨zt, zc, zcell, zk, zq1, -⟩ := Cond.exactly_spec (hs _ (List.mem_of_getElem? (l := zF) (i := 4) (a := Cond.exactly zCm RX2) (by decide +kernel)))
  refine ⟨(adK, adV), fun j => (xs j.toNat).toInt, zt, fun w hw => va_Nw.of (zX_nw w hw).2 (ht1 w (zX_nw w hw).1), ⟨?_, ?_⟩, fun q hq => ?_, ⟨hS, ?_, ?_, fun i q hq => ?_, ?_⟩, ⟨?_, ?_, ?_⟩, ⟨fun a ha => va_Nw.of rfl (ht1 _ (zX_ca a ha)), fun a ha c hc hac => va_Nc.of (hs _ (zX_nc a ha c hc hac))⟩, ?_, ?_⟩
  · exact vx_Zqof (hts _ (List.mem_append_right _ (List.mem_of_getElem? (l := tables_1) (i := 267) (a := Cond.laysStatic Bundle.tN "UNASSIGNED_STACK" Bundle.steD) (by decide +kernel)))) hit (hs _ (List.mem_of_getElem? (l := zF) (i := 7) (a := Cond.isRef (.static Bundle.tN "UNASSIGNED_STACK" Bundle.steD)) (by decide +kernel))) hA
  · exact vx_Zqof (hts _ (List.mem_append_right _ (List.mem_of_getElem? (l := tables_1) (i := 269) (a := Cond.laysStatic Bundle.tN "SUPPRESSED_SENTINEL" Bundle.listD) (by decide +kernel)))) hit (hs _ (List.mem_of_getElem? (l := zF) (i := 8) (a := Cond.isRef (.static Bundle.tN "SUPPRESSED_SENTINEL" Bundle.listD)) (by decide +kernel))) hA
  · obtain ⟨a, c, cell, k, q1, -⟩ := Cond.exactly_spec (hs _ (zX_se q hq))
    exact ⟨a, vk_R.of (ht1 _ (zX_st q hq)) q1⟩
  · exact va_Zof (hts _ (List.mem_append_right _ (List.mem_of_getElem? (l := tables_1) (i := 563) (a := Cond.laysStatic "java/lang/String" "COMPACT_STRINGS" "Z") (by decide +kernel)))) hij (va_eqi (hs _ (List.mem_of_getElem? (l := zF) (i := 25) (a := Cond.eq (.static "java/lang/String" "COMPACT_STRINGS" "Z") (.int 1)) (by decide +kernel)))) hA
  · exact va_Zqof (hts _ (List.mem_append_right _ (List.mem_of_getElem? (l := tables_1) (i := 579) (a := Cond.laysStatic "jdk/internal/util/Preconditions" "SIOOBE_FORMATTER" "Ljava/util/function/BiFunction;") (by decide +kernel)))) hip (hs _ (List.mem_of_getElem? (l := zF) (i := 26) (a := Cond.isRef (.static "jdk/internal/util/Preconditions" "SIOOBE_FORMATTER" "Ljava/util/function/BiFunction;")) (by decide +kernel))) hA
  · have hi6 : i < 6 := (List.getElem?_eq_some_iff.mp hq).1
    have e := hSe i hi6
    rw [zX_ti i hi6, List.getD_eq_getElem?_getD, hq] at e
    exact vk_R.of (ht1 _ (zX_tx q (List.mem_of_getElem? hq))) e
  · exact va_Nw.of rfl (hts _ (List.mem_append_right _ (List.mem_of_getElem? (l := tables_1) (i := 916) (a := Cond.castable "[B" "java/lang/Cloneable") (by decide +kernel))))
  · exact va_AO.of (hts _ (List.mem_append_right _ (List.mem_of_getElem? (l := tables_1) (i := 90) (a := Cond.arrayOver (.object RX1)) (by decide +kernel))))
  · exact va_Nw.of rfl (hts _ (List.mem_append_right _ (List.mem_of_getElem? (l := tables_1) (i := 104) (a := Cond.methodLinkNest RX6 38 yX5_init "BrambleShift") (by decide +kernel))))
  · exact va_Nw.of rfl (hts _ (List.mem_append_right _ (List.mem_of_getElem? (l := tables_1) (i := 130) (a := Cond.methodLinkNest RX6 45 yX4_init "BrambleShift") (by decide +kernel))))
  · obtain ⟨scr, hcb, hof, hkn, hsz, hval⟩ := hX
    refine ⟨scr, hcb, hof, hkn, by rw [hsz]; exact Nat.le_refl _, by rw [hsz], fun j hj => ?_, hA b hbl⟩
    rw [hval j hj]
    show some (Value.int (xs j)) = some (Value.int (iZ (xs (j : Int).toNat).toInt))
    rw [iZ_self, Int.toNat_natCast]
  · exact va_Zref (hts _ (List.mem_append_right _ (List.mem_of_getElem? (l := tables_1) (i := 135) (a := Cond.laysStatic RX2 "TILE" "LBrambleShift$Command;") (by decide +kernel)))) hi2 zq1 hA
