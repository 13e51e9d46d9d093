/-! ===== texts that stand from the start, and texts and builders of the law's own ===== -/
abbrev zE : Type := (Nat → Nat) × (Nat → Nat)
abbrev zK (Z : zE) (i : Int) : Nat := Z.1 i.toNat
abbrev zV (Z : zE) (i : Int) : Nat := Z.2 i.toNat
/-- the texts of the law: "", " ", the digits, "*", "#", "@" -/
def sStr : List (List Int) := [[], [32], [48, 49, 50, 51, 52, 53, 54, 55, 56, 57, 65, 66, 67, 68, 69, 70], [42], [35], [64]]
def sTx : List (Nat × String) := [(209, ""), (218, " "), (220, "0123456789ABCDEF"), (230, "*"), (232, "#"), (251, "@")]
def sLen : List Nat := sStr.map List.length
def sByt : List (List Int32) := sStr.map (fun q => q.map iZ)
def slZ (i : Int) : Int := ((sLen.getD i.toNat 0 : Nat) : Int)
def scZ (i k : Int) : Int := (sStr.getD i.toNat []).getD k.toNat 0
def SQ (Z : zE) (ST : xST) : Prop := ∀ (A : Nat → Prop) (U : State) (H : Heap), ST A U H →
  vk_S 6 sLen sByt Z.1 Z.2 A U H ∧ va_Z "java/lang/String" "COMPACT_STRINGS" "Z" (.int 1) A U H ∧ va_Zq "jdk/internal/util/Preconditions" "SIOOBE_FORMATTER" "Ljava/util/function/BiFunction;" A U H ∧
  (∀ (i : Nat) (q : Nat × String), sTx[i]? = some q → vk_R RL q.1 q.2 (Z.1 i) U) ∧ va_Nw (.castable "[B" "java/lang/Cloneable") U
theorem slZ_tab : ∀ i : Nat, i < 6 → sLen.getD i 0 < 100 ∧ (sStr.getD i []).length = sLen.getD i 0 ∧ (∀ c ∈ sStr.getD i [], 32 ≤ c ∧ c ≤ 122) := by decide +kernel
theorem slZ_b {i : Int} (h0 : 0 ≤ i) (h1 : i < 6) : 0 ≤ slZ i ∧ slZ i < 100 := by
  have h := (slZ_tab i.toNat (by omega)).1
  unfold slZ
  omega
theorem scZ_b {i k : Int} (h0 : 0 ≤ i) (h1 : i < 6) (h2 : 0 ≤ k) (h3 : k < slZ i) : 32 ≤ scZ i k ∧ scZ i k ≤ 122 := by
  have h := slZ_tab i.toNat (by omega)
  unfold slZ at h3
  unfold scZ
  have hk : k.toNat < (sStr.getD i.toNat []).length := by omega
  have e : (sStr.getD i.toNat []).getD k.toNat 0 = (sStr.getD i.toNat [])[k.toNat] := by
    rw [List.getD_eq_getElem?_getD, List.getElem?_eq_getElem hk]
    rfl
  rw [e]
  exact h.2.2 _ (List.getElem_mem hk)
theorem sByt_at {i j : Nat} (hi : i < 6) (hj : j < sLen.getD i 0) : (sByt.getD i []).getD j 0 = iZ ((sStr.getD i []).getD j 0) := by
  have hl : sStr.length = 6 := rfl
  have e : sByt.getD i [] = (sStr.getD i []).map iZ := by
    unfold sByt
    rw [List.getD_eq_getElem?_getD, List.getD_eq_getElem?_getD, List.getElem?_map, List.getElem?_eq_getElem (by omega)]
    rfl
  have hj2 : j < (sStr.getD i []).length := by
    rw [(slZ_tab i hi).2.1]
    exact hj
  rw [e]
  generalize sStr.getD i [] = q at hj2
  rw [List.getD_eq_getElem?_getD, List.getD_eq_getElem?_getD, List.getElem?_map, List.getElem?_eq_getElem hj2]
  rfl
theorem ishr_0 {x : Int} (h0 : 0 ≤ x) (h1 : x ≤ 1000) : ishrZ x 0 = x := by
  have h : ∀ n : Nat, n ≤ 1000 → ishrZ (n : Int) 0 = (n : Int) := by decide +kernel
  have h2 := h x.toNat (by omega)
  rw [Int.toNat_of_nonneg h0] at h2
  exact h2
theorem ishl_0 {x : Int} (h0 : 0 ≤ x) (h1 : x ≤ 1000) : ishlZ x 0 = x := by
  have h : ∀ n : Nat, n ≤ 1000 → ishlZ (n : Int) 0 = (n : Int) := by decide +kernel
  have h2 := h x.toNat (by omega)
  rw [Int.toNat_of_nonneg h0] at h2
  exact h2
theorem iand_255 {x : Int} (h0 : 0 ≤ x) (h1 : x ≤ 255) : iandZ x 255 = x := by
  have h : ∀ n : Nat, n ≤ 255 → iandZ (n : Int) 255 = (n : Int) := by decide +kernel
  have h2 := h x.toNat (by omega)
  rw [Int.toNat_of_nonneg h0] at h2
  exact h2
theorem nar_byte {x : Int} (h0 : 0 ≤ x) (h1 : x ≤ 127) : vp_nar .byte (iZ x) = iZ x ∧ (iZ x).toInt8.toInt32 = iZ x ∧ fits .byte (.int (iZ x)) = true := by
  have h : ∀ n : Nat, n ≤ 127 → vp_nar .byte (iZ (n : Int)) = iZ (n : Int) ∧ (iZ (n : Int)).toInt8.toInt32 = iZ (n : Int) ∧ fits .byte (.int (iZ (n : Int))) = true := by decide +kernel
  have h2 := h x.toNat (by omega)
  rw [Int.toNat_of_nonneg h0] at h2
  exact h2
/-! the cells of a text and of a builder -/
abbrev aY (E : xE) (n : Nat) (f : Int → Int) : va_E := .inl (xY E, n, .inl (ar f))
abbrev oSt (E : xE) (r : Nat) : va_E := oB 5 [.ref (xad E r), .int (iZ 0), .int (iZ 0), .int (iZ 0)]
abbrev oSb (E : xE) (r : Nat) (n : Int) : va_E := oB 6 [.ref (xad E r), .int (iZ 0), .int (iZ 0), .int (iZ n)]
/-- letters only -/
def lt7 (n : Int) (f : Int → Int) : Prop := ∀ j : Int, 0 ≤ j → j < n → 0 ≤ f j ∧ f j ≤ 127
def cdZ (d n : Int) (f g : Int → Int) : Int → Int := fun j => if d ≤ j ∧ j < d + n then f (j - d) else g j
theorem ar_cpd {d n : Nat} {f g : Int → Int} : va_cpy (ar f) (ar g) 0 d n = ar (cdZ d n f g) := by
  funext j
  unfold va_cpy ar cdZ
  by_cases h : d ≤ j ∧ j < d + n
  · rw [if_pos h, if_pos ⟨by omega, by omega⟩]
    have e : ((0 + (j - d) : Nat) : Int) = (j : Int) - (d : Int) := by omega
    rw [e]
  · rw [if_neg h, if_neg (by omega)]
theorem xE1.Y {E E1 : xE} {g : Nat} (h : xE1 E E1 g) : xY E1 = xY E := congrArg (fun q => q.2.2.2) h.2.1
theorem xE1.aY {E E1 : xE} {g : Nat} (h : xE1 E E1 g) {n : Nat} {f : Int → Int} : aY E1 n f = aY E n f := by
  show (Sum.inl (xY E1, n, Sum.inl (ar f)) : va_E) = Sum.inl (xY E, n, Sum.inl (ar f))
  rw [h.Y]
theorem xE1.ad {E E1 : xE} {g : Nat} (h : xE1 E E1 g) {k : Nat} (hk : k < 85 + xx E) : xad E1 k = xad E k := h.2.2.2.2 k hk
/-- the row at r gets another address -/
def xER (E E1 : xE) (r : Nat) : Prop := E1.1 = E.1 ∧ E1.2.2.1 = E.2.2.1 ∧ xx E1 = xx E ∧ ∀ i : Nat, i < 85 + xx E → i ≠ r → xad E1 i = xad E i
theorem xER.Y {E E1 : xE} {g : Nat} (h : xER E E1 g) : xY E1 = xY E := congrArg (fun q => q.2.2.2) h.2.1
theorem xER.aY {E E1 : xE} {g : Nat} (h : xER E E1 g) {n : Nat} {f : Int → Int} : aY E1 n f = aY E n f := by
  show (Sum.inl (xY E1, n, Sum.inl (ar f)) : va_E) = Sum.inl (xY E, n, Sum.inl (ar f))
  rw [h.Y]
theorem xER.rf {E : xE} {r : Nat} : xER E E r := ⟨rfl, rfl, rfl, fun _ _ _ => rfl⟩
theorem xT_eq {E E1 : xE} (h : E1.2.2.1 = E.2.2.1) : xT E1 = xT E := congrArg (fun q => [(q.1, FieldType.int), (q.2.1, .char), (q.2.2.1, .object "BrambleShift$Board"), (q.2.2.2, .byte)]) h
theorem xER.K {E E1 : xE} {r : Nat} {s : State} (h : xER E E1 r) (hK : va_K E.1 vwCl (xT E) s) : va_K E1.1 vwCl (xT E1) s := by
  rw [h.1, xT_eq h.2.1]
  exact hK
section XSW
variable {E E1 : xE} {r g : Nat} {σ u : xW} {e : va_E} {A : Nat → Prop} {H0 H : Heap} {locs : List Loc} {B X : BT} {S : Option BT} {Y : lnQ}
/-- the row at r is forgotten, the newest takes its place -/
theorem Hx.swap (hE : xE1 E E1 g) (hr : 85 ≤ r ∧ r < 85 + xx E) (hc : cw E1 u B S Y) (hH : Hx E1 A H0 u H locs) : ∃ (E2 : xE) (v : xW), xER E E2 r ∧ xad E2 r = xad E1 g ∧ Hx E2 A H0 v H locs ∧ cw E2 v B S Y ∧ v r = u g ∧ ∀ j : Nat, 85 ≤ j → j < 85 + xx E → j ≠ r → v j = u j := by
  have hlt := hE.lt
  have q0 : xER E (E.1, (fun i => if i = r then xad E1 g else xad E i), E.2.2.1, xx E) r := ⟨rfl, rfl, rfl, fun i _ h => if_neg h⟩
  generalize hE2 : ((E.1, (fun i => if i = r then xad E1 g else xad E i), E.2.2.1, xx E) : xE) = E2 at q0
  have a1 : xad E2 r = xad E1 g := by rw [← hE2]; exact if_pos rfl
  have a2 : ∀ i : Nat, i < 85 + xx E → i ≠ r → xad E2 i = xad E1 i := fun i h1 h2 => (q0.2.2.2 i h1 h2).trans (hE.ad h1).symm
  have q1 : xEq E1 E2 := ⟨q0.2.1.trans hE.2.1.symm, fun i hi => a2 i (by omega) (by omega)⟩
  have h1 := x_cell (E := E1) (cA := xBd E1) 74 (by omega) hc.r74 (hRow_cell q1) hH
  refine ⟨E2, fun j => if j = 74 then hRow E2 else if j = r then u g else u j, q0, a1, ?_, cw_mv q1 hc (fun j h0 h3 => ?_) (if_pos rfl), ?_, fun j h0 h2 h3 => ?_⟩
  · have hx2 : xx E2 = xx E := q0.2.2.1
    have key : ∀ k : Nat, k < 85 + xx E → (xad E2 k, (fun j => if j = 74 then hRow E2 else if j = r then u g else u j) k) = (xad E1 (if k = r then g else k), wu u 74 (.inl (xBd E1, 8, .inr (.inr (.inr (.inr (fun j => some (xad E2 (25 + 6 * j)))))))) (if k = r then g else k)) := by
      intro k hk
      by_cases h9 : k = r
      · subst h9
        rw [if_pos rfl, wu_n (by omega), a1]
        show (_, if k = 74 then _ else if k = k then _ else _) = _
        rw [if_neg (by omega), if_pos rfl]
      · rw [if_neg h9, a2 k hk h9]
        by_cases h8 : k = 74
        · subst h8
          rw [wu_s]
          show (_, if 74 = 74 then hRow E2 else _) = _
          rw [if_pos rfl]
          show (_, Sum.inl (xBd E2, _)) = _
          rw [q1.Bd]
        · rw [wu_n h8]
          show (_, if k = 74 then _ else if k = r then _ else _) = _
          rw [if_neg h8, if_neg h9]
    obtain ⟨hP, hD, hS, hA⟩ := h1
    have hget : ∀ k : Nat, k < 85 + xx E → (wl E1 (wu u 74 (.inl (xBd E1, 8, .inr (.inr (.inr (.inr (fun j => some (xad E2 (25 + 6 * j))))))))))[if k = r then g else k]? = some (xad E2 k, (fun j => if j = 74 then hRow E2 else if j = r then u g else u j) k) := by
      intro k hk
      rw [key k hk]
      exact wl_get (by by_cases h9 : k = r <;> simp only [h9, if_true, if_false] <;> omega) rfl
    refine ⟨fun k x hx => ?_, ⟨fun i j p q hp hq hpq => ?_, fun k x hx => ?_⟩, hS, hA⟩
    · have hk := wl_lt hx
      rw [wl_get hk rfl] at hx
      cases hx
      have h2 := hP _ _ (hget k (by omega))
      rw [hE.1, ← q0.1] at h2
      exact h2
    · have hi := wl_lt hp
      have hj := wl_lt hq
      rw [wl_get hi rfl] at hp
      rw [wl_get hj rfl] at hq
      cases hp
      cases hq
      have h2 := hD.1 _ _ _ _ (hget i (by omega)) (hget j (by omega)) hpq
      by_cases h8 : i = r <;> by_cases h9 : j = r <;> simp only [h8, h9, if_true, if_false] at h2 ⊢ <;> omega
    · have hk := wl_lt hx
      rw [wl_get hk rfl] at hx
      cases hx
      exact hD.2 _ _ (hget k (by omega))
  · show (if j = 74 then _ else if j = r then _ else _) = _
    rw [if_neg h3, if_neg (by omega)]
  · show (if r = 74 then _ else if r = r then _ else _) = _
    rw [if_neg (by omega), if_pos rfl]
  · show (if j = 74 then _ else if j = r then _ else _) = _
    rw [if_neg (by omega), if_neg h3]
/-- cells c .. c+d-1 are forgotten, those behind them move up -/
theorem Hx.cut (c d : Nat) (hcd : 85 ≤ c ∧ c + d ≤ 85 + xx E1) (hc : cw E1 u B S Y) (hH : Hx E1 A H0 u H locs) : ∃ (E2 : xE) (v : xW), E2.1 = E1.1 ∧ E2.2.2.1 = E1.2.2.1 ∧ xx E2 = xx E1 - d ∧ (∀ i : Nat, i < c → xad E2 i = xad E1 i) ∧ (∀ i : Nat, c ≤ i → xad E2 i = xad E1 (i + d)) ∧ Hx E2 A H0 v H locs ∧ cw E2 v B S Y ∧ (∀ j : Nat, 85 ≤ j → j < c → v j = u j) ∧ ∀ j : Nat, c ≤ j → v j = u (j + d) := by
  have hE2 : ∃ E2 : xE, E2.1 = E1.1 ∧ E2.2.2.1 = E1.2.2.1 ∧ xx E2 = xx E1 - d ∧ (∀ i : Nat, i < c → xad E2 i = xad E1 i) ∧ (∀ i : Nat, c ≤ i → xad E2 i = xad E1 (i + d)) := ⟨(E1.1, (fun i => if i < c then xad E1 i else xad E1 (i + d)), E1.2.2.1, xx E1 - d), rfl, rfl, rfl, fun i h => if_pos h, fun i h => if_neg (by omega)⟩
  obtain ⟨E2, b1, b2, b3, b4, b5⟩ := hE2
  have q1 : xEq E1 E2 := ⟨b2, fun i hi => b4 i (by omega)⟩
  have h1 := x_cell (E := E1) (cA := xBd E1) 74 (by omega) hc.r74 (hRow_cell q1) hH
  refine ⟨E2, fun j => if j = 74 then hRow E2 else if j < c then u j else u (j + d), b1, b2, b3, b4, b5, ?_, cw_mv q1 hc (fun j h0 h3 => ?_) (if_pos rfl), fun j h0 h2 => ?_, fun j h0 => ?_⟩
  · have key : ∀ k : Nat, k < 85 + xx E2 → (xad E2 k, (fun j => if j = 74 then hRow E2 else if j < c then u j else u (j + d)) k) = (xad E1 (if k < c then k else k + d), wu u 74 (.inl (xBd E1, 8, .inr (.inr (.inr (.inr (fun j => some (xad E2 (25 + 6 * j)))))))) (if k < c then k else k + d)) := by
      intro k hk
      by_cases h9 : k < c
      · rw [if_pos h9, b4 k h9]
        by_cases h8 : k = 74
        · subst h8
          rw [wu_s]
          show (_, if 74 = 74 then hRow E2 else _) = _
          rw [if_pos rfl]
          show (_, Sum.inl (xBd E2, _)) = _
          rw [q1.Bd]
        · rw [wu_n h8]
          show (_, if k = 74 then _ else if k < c then _ else _) = _
          rw [if_neg h8, if_pos h9]
      · rw [if_neg h9, b5 k (by omega), wu_n (by omega)]
        show (_, if k = 74 then _ else if k < c then _ else _) = _
        rw [if_neg (by omega), if_neg h9]
    obtain ⟨hP, hD, hS, hA⟩ := h1
    have hget : ∀ k : Nat, k < 85 + xx E2 → (wl E1 (wu u 74 (.inl (xBd E1, 8, .inr (.inr (.inr (.inr (fun j => some (xad E2 (25 + 6 * j))))))))))[if k < c then k else k + d]? = some (xad E2 k, (fun j => if j = 74 then hRow E2 else if j < c then u j else u (j + d)) k) := by
      intro k hk
      rw [key k hk]
      exact wl_get (by split <;> omega) rfl
    refine ⟨fun k x hx => ?_, ⟨fun i j p q hp hq hpq => ?_, fun k x hx => ?_⟩, hS, hA⟩
    · have hk := wl_lt hx
      rw [wl_get hk rfl] at hx
      cases hx
      have h2 := hP _ _ (hget k (by omega))
      rw [← b1] at h2
      exact h2
    · have hi := wl_lt hp
      have hj := wl_lt hq
      rw [wl_get hi rfl] at hp
      rw [wl_get hj rfl] at hq
      cases hp
      cases hq
      have h2 := hD.1 _ _ _ _ (hget i (by omega)) (hget j (by omega)) hpq
      by_cases h8 : i < c <;> by_cases h9 : j < c <;> simp only [h8, h9, if_true, if_false] at h2 ⊢ <;> omega
    · have hk := wl_lt hx
      rw [wl_get hk rfl] at hx
      cases hx
      exact hD.2 _ _ (hget k (by omega))
  · show (if j = 74 then _ else if j < c then _ else _) = _
    rw [if_neg h3, if_pos (by omega)]
  · show (if j = 74 then _ else if j < c then _ else _) = _
    rw [if_neg (by omega), if_pos h2]
  · show (if j = 74 then _ else if j < c then _ else _) = _
    rw [if_neg (by omega), if_neg (by omega)]
end XSW
