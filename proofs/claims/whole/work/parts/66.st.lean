/-! ===== the statics of the start, and how they last ===== -/
def sqP (Z : zE) (A : Nat → Prop) (U : State) (H : Heap) : Prop :=
  vk_S 12 sLen sByt Z.1 Z.2.1 A U H ∧ va_En RX2 "LBrambleShift$Command;" cNm cFl Z.2.2.1 A U H ∧ va_Ef 11 RX2 "pattern" "Ljava/lang/String;" (fun k => .ref (Z.1 k)) Z.2.2.1 A U H ∧
  va_Z RX6 "COMMANDS" "[LBrambleShift$Command;" (.ref (zT Z)) A U H ∧ va_T (.object RX2) (zT Z) 11 (fun j => .ref (Z.2.2.1 j)) A U H ∧
  va_Z "BrambleShift$1" "$SwitchMap$BrambleShift$Command" "[I" (.ref (zM Z)) A U H ∧ va_T .int (zM Z) 11 (fun j => .int (iZ (smZ (j : Int)))) A U H ∧
  va_Z "java/lang/String" "COMPACT_STRINGS" "Z" (.int 1) A U H ∧ va_Zq "jdk/internal/util/Preconditions" "SIOOBE_FORMATTER" "Ljava/util/function/BiFunction;" A U H ∧
  vk_R RX7 259 sNames (Z.1 11) U ∧ va_Nw (.fieldLinkNest RX4 39 RX6 "COMMANDS" "[LBrambleShift$Command;" "BrambleShift") U
def soP (U : State) : Prop := va_AO RX1 U ∧ va_Nw (.methodLinkNest RX6 38 yX5_init "BrambleShift") U ∧ va_Nw (.methodLinkNest RX6 45 yX4_init "BrambleShift") U
def sxP (U : State) : Prop := (∀ a ∈ xcN, va_Nw (.castable a a) U) ∧ ∀ a ∈ xcN, ∀ b ∈ xcN, a ≠ b → va_Nc a b U
def zST (Z : zE) : xST := fun A U H => (∀ w ∈ xNest ++ xThW, va_Nw w U) ∧ (vx_Zq Bundle.tN "UNASSIGNED_STACK" Bundle.steD A U H ∧ vx_Zq Bundle.tN "SUPPRESSED_SENTINEL" Bundle.listD A U H) ∧ (∀ q ∈ xStr, ∃ a : Nat, vk_R RX6 q.1 q.2 a U) ∧ sqP Z A U H ∧ soP U ∧ sxP U
def wOK : Cond → Bool
  | .methodLinkNest _ _ _ _ => true
  | .declares _ => true
  | .castable _ _ => true
  | _ => false
theorem wOK_warm {w : Cond} {s U : State} (h : wOK w = true) (hW : s.WarmedH U.vm) (hZ : va_Nw w s) : va_Nw w U := by
  cases w <;> first | exact va_Nw.warmM hW hZ | exact va_Nw.warmD hW hZ | exact va_Nw.warmC hW hZ | exact absurd h Bool.false_ne_true
theorem xw_ok : ∀ w ∈ xNest ++ xThW, wOK w = true := by decide +kernel
theorem zST_warm {Z : zE} (A : Nat → Prop) (u U : State) (H : Heap) (hW : u.WarmedH U.vm) (h : zST Z A u H) : zST Z A U H := by
  obtain ⟨h1, ⟨h2, h3⟩, h4, ⟨a1, a2, a3, a4, a5, a6, a7, a8, a9, a10, a11⟩, ⟨b1, b2, b3⟩, c1, c2⟩ := h
  refine ⟨fun w hw => wOK_warm (xw_ok w hw) hW (h1 w hw), ⟨vx_Zq.moved hW.alike h2, vx_Zq.moved hW.alike h3⟩, fun q hq => ?_, ⟨vk_S.moved hW.alike a1, va_En.moved hW.alike a2, va_Ef.moved hW.alike a3, va_Z.moved hW.alike a4, va_T.moved hW.alike a5, va_Z.moved hW.alike a6, va_T.moved hW.alike a7, va_Z.moved hW.alike a8, va_Zq.moved hW.alike a9, vk_R.warm hW a10, va_Nw.warmF hW a11⟩, ⟨va_AO.moved hW.alike b1, va_Nw.warmM hW b2, va_Nw.warmM hW b3⟩, fun a ha => va_Nw.warmC hW (c1 a ha), fun a ha b hb hab => va_Nc.moved hW.alike (c2 a ha b hb hab)⟩
  obtain ⟨a, ha⟩ := h4 q hq
  exact ⟨a, vk_R.warm hW ha⟩
theorem zST_ok (Z : zE) : xOK (zST Z) := by
  refine ⟨zST_warm, fun A u U H e h => zST_warm A u U H (by rw [e]; exact State.WarmedH.refl u) h, fun A U H H1 hk h => ?_, fun A B U H hAB h => ?_⟩
  · obtain ⟨h1, ⟨h2, h3⟩, h4, ⟨a1, a2, a3, a4, a5, a6, a7, a8, a9, a10, a11⟩, hb, hc⟩ := h
    exact ⟨h1, ⟨h2.kept hk, h3.kept hk⟩, h4, ⟨a1.kept hk, a2.kept hk, a3.kept hk, a4.kept hk, a5.kept hk, a6.kept hk, a7.kept hk, a8.kept hk, a9.kept hk, a10, a11⟩, hb, hc⟩
  · obtain ⟨h1, ⟨h2, h3⟩, h4, ⟨a1, a2, a3, a4, a5, a6, a7, a8, a9, a10, a11⟩, hb, hc⟩ := h
    exact ⟨h1, ⟨h2.narrow hAB, h3.narrow hAB⟩, h4, ⟨a1.narrow hAB, a2.narrow hAB, a3.narrow hAB, a4.narrow hAB, a5.narrow hAB, a6.narrow hAB, a7.narrow hAB, a8.narrow hAB, a9.narrow hAB, a10, a11⟩, hb, hc⟩
theorem zST_SF (Z : zE) : SF (zST Z) := ⟨zST_ok Z, fun _ _ _ h => h.1, fun _ _ _ h => h.2.1, fun _ _ _ h => h.2.2.1⟩
theorem zST_SQ (Z : zE) : SQ Z (zST Z) := fun _ _ _ h => h.2.2.2.1
theorem zST_SO (Z : zE) : SO (zST Z) := fun _ _ _ h => h.2.2.2.2.1
theorem zST_SX (Z : zE) : SX (zST Z) := fun _ _ _ h => h.2.2.2.2.2
