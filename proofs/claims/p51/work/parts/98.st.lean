/-! ===== the statics of the start, and how they last ===== -/
def sqP (Z : zE) (A : Nat → Prop) (U : State) (H : Heap) : Prop :=
  vk_S 6 sLen sByt Z.1 Z.2 A U H ∧ va_Z "java/lang/String" "COMPACT_STRINGS" "Z" (.int 1) A U H ∧ va_Zq "jdk/internal/util/Preconditions" "SIOOBE_FORMATTER" "Ljava/util/function/BiFunction;" A U H ∧
  (∀ (i : Nat) (q : Nat × String), sTx[i]? = some q → vk_R RL q.1 q.2 (Z.1 i) U) ∧ va_Nw (.castable "[B" "java/lang/Cloneable") U
def soP (U : State) : Prop := va_AO RX1 U ∧ va_Nw (.methodLinkNest RX6 38 yX5_init "BrambleShift") U ∧ va_Nw (.methodLinkNest RX6 45 yX4_init "BrambleShift") U
def sxP (U : State) : Prop := (∀ a ∈ xcN, va_Nw (.castable a a) U) ∧ ∀ a ∈ xcN, ∀ b ∈ xcN, a ≠ b → va_Nc a b U
/-- the texts' places; the script; the command TILE -/
abbrev zQ : Type := zE × Nat × Nat × (Int → Int) × Nat
def zST (Q : zQ) : xST := fun A U H => (∀ w ∈ xNest ++ xThW, va_Nw w U) ∧ (vx_Zq Bundle.tN "UNASSIGNED_STACK" Bundle.steD A U H ∧ vx_Zq Bundle.tN "SUPPRESSED_SENTINEL" Bundle.listD A U H) ∧ (∀ q ∈ xStr, ∃ a : Nat, vk_R RX6 q.1 q.2 a U) ∧ sqP Q.1 A U H ∧ soP U ∧ sxP U ∧ va_T .int Q.2.1 Q.2.2.1 (fun j => .int (iZ (Q.2.2.2.1 (j : Int)))) A U H ∧ va_Z RX2 "TILE" "LBrambleShift$Command;" (.ref Q.2.2.2.2) A U H
def wOK : Cond → Bool
  | .methodLinkNest _ _ _ _ => true
  | .declares _ => true
  | .castable _ _ => true
  | _ => false
theorem wOK_warm {w : Cond} {s U : State} (h : wOK w = true) (hW : s.WarmedH U.vm) (hZ : va_Nw w s) : va_Nw w U := by
  cases w <;> first | exact va_Nw.warmM hW hZ | exact va_Nw.warmD hW hZ | exact va_Nw.warmC hW hZ | exact absurd h Bool.false_ne_true
theorem xw_ok : ∀ w ∈ xNest ++ xThW, wOK w = true := by decide +kernel
theorem zST_warm {Q : zQ} (A : Nat → Prop) (u U : State) (H : Heap) (hW : u.WarmedH U.vm) (h : zST Q A u H) : zST Q A U H := by
  obtain ⟨h1, ⟨h2, h3⟩, h4, ⟨a1, a2, a3, a4, a5⟩, ⟨b1, b2, b3⟩, ⟨c1, c2⟩, d1, d2⟩ := h
  refine ⟨fun w hw => wOK_warm (xw_ok w hw) hW (h1 w hw), ⟨vx_Zq.moved hW.alike h2, vx_Zq.moved hW.alike h3⟩, fun q hq => ?_, ⟨vk_S.moved hW.alike a1, va_Z.moved hW.alike a2, va_Zq.moved hW.alike a3, fun i q hq => vk_R.warm hW (a4 i q hq), va_Nw.warmC hW a5⟩, ⟨va_AO.moved hW.alike b1, va_Nw.warmM hW b2, va_Nw.warmM hW b3⟩, ⟨fun a ha => va_Nw.warmC hW (c1 a ha), fun a ha b hb hab => va_Nc.moved hW.alike (c2 a ha b hb hab)⟩, va_T.moved hW.alike d1, va_Z.moved hW.alike d2⟩
  obtain ⟨a, ha⟩ := h4 q hq
  exact ⟨a, vk_R.warm hW ha⟩
theorem zST_ok (Q : zQ) : xOK (zST Q) := by
  refine ⟨zST_warm, fun A u U H e h => zST_warm A u U H (by rw [e]; exact State.WarmedH.refl u) h, fun A U H H1 hk h => ?_, fun A B U H hAB h => ?_⟩
  · obtain ⟨h1, ⟨h2, h3⟩, h4, ⟨a1, a2, a3, a4, a5⟩, hb, hc, d1, d2⟩ := h
    exact ⟨h1, ⟨h2.kept hk, h3.kept hk⟩, h4, ⟨a1.kept hk, a2.kept hk, a3.kept hk, a4, a5⟩, hb, hc, d1.kept hk, d2.kept hk⟩
  · obtain ⟨h1, ⟨h2, h3⟩, h4, ⟨a1, a2, a3, a4, a5⟩, hb, hc, d1, d2⟩ := h
    exact ⟨h1, ⟨h2.narrow hAB, h3.narrow hAB⟩, h4, ⟨a1.narrow hAB, a2.narrow hAB, a3.narrow hAB, a4, a5⟩, hb, hc, d1.narrow hAB, d2.narrow hAB⟩
theorem zST_SF (Q : zQ) : SF (zST Q) := ⟨zST_ok Q, fun _ _ _ h => h.1, fun _ _ _ h => h.2.1, fun _ _ _ h => h.2.2.1⟩
theorem zST_SQ (Q : zQ) : SQ Q.1 (zST Q) := fun _ _ _ h => h.2.2.2.1
theorem zST_SO (Q : zQ) : SO (zST Q) := fun _ _ _ h => h.2.2.2.2.1
theorem zST_SX (Q : zQ) : SX (zST Q) := fun _ _ _ h => h.2.2.2.2.2.1
theorem zST_SC (Q : zQ) : SC Q.2.1 Q.2.2.1 Q.2.2.2.1 (zST Q) := fun _ _ _ h => h.2.2.2.2.2.2.1
theorem zST_S4 (Q : zQ) : S4 Q.2.2.2.2 (zST Q) := fun _ _ _ h => h.2.2.2.2.2.2.2
