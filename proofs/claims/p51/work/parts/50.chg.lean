/-! ===== what a change leaves ===== -/
abbrev BIT (B : BT) : Prop := BI B.1 B.2.1 B.2.2.1 B.2.2.2.1 B.2.2.2.2.1 B.2.2.2.2.2.1
abbrev shB (B : BT) : Int := B.2.2.2.2.2.2.1
abbrev wkB (B : BT) : Int := B.2.2.2.2.2.2.2
def FOK (B : BT) (F : Int × BT) : Prop := BIT F.2 ∧ (F.1 < 0 → F.2 = B) ∧ (-5 ≤ F.1 ∧ F.1 ≤ 1000) ∧ (shB B ≤ shB F.2 ∧ shB F.2 ≤ shB B + 1) ∧ (wkB B ≤ wkB F.2 ∧ wkB F.2 ≤ wkB B + 24)
theorem sk_sh (x : Int) : x ≤ x ∧ x ≤ x + 1 := by omega
theorem sk_wk (x : Int) : x ≤ x ∧ x ≤ x + 24 := by omega
theorem FOK_no {B : BT} {a : Int} (h : BIT B) (h0 : -5 ≤ a) (h1 : a ≤ 1000) : FOK B (a, B) := ⟨h, fun _ => rfl, ⟨h0, h1⟩, sk_sh _, sk_wk _⟩
theorem FOK_no2 {B : BT} {F : Int × BT} (h : BIT B) (h0 : -5 ≤ F.1) (h1 : F.1 < 0 ∧ F.2 = B) : FOK B F := by
  obtain ⟨a, b⟩ := F
  obtain ⟨h2, h3⟩ := h1
  have h3 : b = B := h3
  subst h3
  exact FOK_no h h0 (by have : a < 0 := h2; omega)
theorem FOK_yes {B B1 : BT} {a : Int} (h : BIT B1) (h0 : 0 ≤ a) (h1 : a ≤ 1000) (hs : shB B ≤ shB B1 ∧ shB B1 ≤ shB B + 1) (hw : wkB B ≤ wkB B1 ∧ wkB B1 ≤ wkB B + 24) : FOK B (a, B1) := ⟨h, fun q => absurd h0 (by show ¬ 0 ≤ a; have q2 : a < 0 := q; omega), ⟨by show (-5 : Int) ≤ a; omega, h1⟩, hs, hw⟩
theorem ui_lk {lk : Int → Int} {c k : Int} (h : ∀ j, -1 ≤ lk j ∧ lk j ≤ 5) (hk : 97 ≤ k ∧ k ≤ 102) (j : Int) : -1 ≤ ui lk c (k - 97) j ∧ ui lk c (k - 97) j ≤ 5 := by
  have h7 := h j
  unfold ui
  split <;> omega
theorem BI_kp {op lk kp wc : Int → Int} {pn nw k c : Int} (h : BI op lk kp wc pn nw) (hc : 0 ≤ c ∧ c ≤ 24) : BI op lk (ui kp k c) wc pn nw := by
  obtain ⟨h1, h2, h3, h4, h5, h6⟩ := h
  refine ⟨h1, h2, fun j => ?_, h4, h5, h6⟩
  have h7 := h3 j
  unfold ui
  split <;> omega
theorem iand15 (a : Int) : 0 ≤ iandZ a 15 ∧ iandZ a 15 ≤ 15 := by
  have h1 : ((iZ a).toBitVec &&& 15#32).toNat ≤ 15 := by
    rw [BitVec.toNat_and]
    exact Nat.and_le_right
  have h2 : iandZ a 15 = ((iZ a).toBitVec &&& 15#32).toInt := rfl
  have h3 := BitVec.toInt_eq_toNat_of_lt (x := (iZ a).toBitVec &&& 15#32) (by omega)
  rw [h2, h3]
  omega
theorem smN_b {f : Int → Int} {m : Int} (h : ∀ j, 0 ≤ f j ∧ f j ≤ m) : ∀ n : Nat, 0 ≤ smN f n ∧ smN f n ≤ m * n
  | 0 => ⟨Int.le_refl 0, by show (0 : Int) ≤ m * 0; omega⟩
  | n + 1 => by
    have h1 := smN_b h n
    have h2 := h (n : Int)
    show 0 ≤ smN f n + f (n : Int) ∧ smN f n + f (n : Int) ≤ m * ((n + 1 : Nat) : Int)
    have e : m * ((n + 1 : Nat) : Int) = m * (n : Int) + m := by
      rw [Int.natCast_add, Int.mul_add]
      show m * (n : Int) + m * 1 = _
      omega
    omega
section FOKS
variable {op lk kp wc : Int → Int} {pn nw sh wk : Int}
theorem FOK_set {r c o : Int} (hB : BI op lk kp wc pn nw) : FOK (op, lk, kp, wc, pn, nw, sh, wk) (setF op lk kp wc pn nw sh wk r c o) := by
  obtain ⟨h1, h2, h3, h4, h5, h6⟩ := id hB
  unfold setF
  split
  · exact FOK_no hB (by decide) (by decide)
  · split
    · exact FOK_no hB (by decide) (by decide)
    · have h7 := h1 (r * 5 + c)
      refine FOK_yes ⟨fun j => ?_, h2, h3, h4, h5, h6⟩ h7.1 (by omega) (sk_sh _) (sk_wk _)
      show 0 ≤ ui op (r * 5 + c) o j ∧ ui op (r * 5 + c) o j ≤ 15
      have h8 := h1 j
      unfold ui
      split <;> omega
theorem FOK_turn {r c q : Int} (hB : BI op lk kp wc pn nw) : FOK (op, lk, kp, wc, pn, nw, sh, wk) (turnF op lk kp wc pn nw sh wk r c q) := by
  obtain ⟨h1, h2, h3, h4, h5, h6⟩ := id hB
  unfold turnF
  split
  · exact FOK_no hB (by decide) (by decide)
  · split
    · exact FOK_no hB (by decide) (by decide)
    · split
      · exact FOK_no hB (by decide) (by decide)
      · have h7 : 0 ≤ rotZ (op (r * 5 + c)) q ∧ rotZ (op (r * 5 + c)) q ≤ 15 := iand15 _
        refine FOK_yes ⟨fun j => ?_, h2, h3, h4, h5, h6⟩ h7.1 (by omega) (sk_sh _) (sk_wk _)
        show 0 ≤ ui op (r * 5 + c) (rotZ (op (r * 5 + c)) q) j ∧ ui op (r * 5 + c) (rotZ (op (r * 5 + c)) q) j ≤ 15
        have h8 := h1 j
        unfold ui
        split <;> omega
theorem FOK_fix {r c : Int} (hB : BI op lk kp wc pn nw) : FOK (op, lk, kp, wc, pn, nw, sh, wk) (fixF op lk kp wc pn nw sh wk r c) := by
  obtain ⟨h1, h2, h3, h4, h5, h6⟩ := id hB
  unfold fixF
  split
  · exact FOK_no hB (by decide) (by decide)
  · split
    · exact FOK_no hB (by decide) (by decide)
    · have h7 := fix_rg (c := r * 5 + c) h5 (by omega) (by omega)
      have h8 := bc_cnt h7
      have h9 := cnbK_b (P := fun d => decide (fixP (iorZ pn (ishlZ 1 (r * 5 + c))) d)) (n := 25) (by decide)
      rw [← h8] at h9
      exact FOK_yes ⟨h1, h2, h3, h4, h7, h6⟩ h9.1 (by omega) (sk_sh _) (sk_wk _)
theorem FOK_free {r c : Int} (hB : BI op lk kp wc pn nw) : FOK (op, lk, kp, wc, pn, nw, sh, wk) (freeF op lk kp wc pn nw sh wk r c) := by
  obtain ⟨h1, h2, h3, h4, h5, h6⟩ := id hB
  unfold freeF
  split
  · exact FOK_no hB (by decide) (by decide)
  · split
    · exact FOK_no hB (by decide) (by decide)
    · have h7 := free_rg (c := r * 5 + c) h5 (by omega) (by omega)
      have h8 := bc_cnt h7
      have h9 := cnbK_b (P := fun d => decide (fixP (iandZ pn (ixorZ (ishlZ 1 (r * 5 + c)) (-1))) d)) (n := 25) (by decide)
      rw [← h8] at h9
      exact FOK_yes ⟨h1, h2, h3, h4, h7, h6⟩ h9.1 (by omega) (sk_sh _) (sk_wk _)
theorem FOK_lay {k r c : Int} (hB : BI op lk kp wc pn nw) : FOK (op, lk, kp, wc, pn, nw, sh, wk) (layF op lk kp wc pn nw sh wk k r c) := by
  obtain ⟨h1, h2, h3, h4, h5, h6⟩ := id hB
  unfold layF
  split
  · exact FOK_no hB (by decide) (by decide)
  · split
    · exact FOK_no hB (by decide) (by decide)
    · split
      · exact FOK_no hB (by decide) (by decide)
      · have h9 := cntK_b (f := ui kp (k - 97) (r * 5 + c)) (x := r * 5 + c) (n := 6) (by decide)
        exact FOK_yes (BI_kp hB (by omega)) h9.1 (by omega) (sk_sh _) (sk_wk _)
theorem FOK_hang {r c k : Int} (hB : BI op lk kp wc pn nw) : FOK (op, lk, kp, wc, pn, nw, sh, wk) (hangF op lk kp wc pn nw sh wk r c k) := by
  obtain ⟨h1, h2, h3, h4, h5, h6⟩ := id hB
  unfold hangF
  split
  · exact FOK_no hB (by decide) (by decide)
  · split
    · exact FOK_no hB (by decide) (by decide)
    · split
      · exact FOK_no hB (by decide) (by decide)
      · have h9 := cnbK_b (P := fun j => decide (¬ ui lk (r * 5 + c) (k - 97) j = -1)) (n := 25) (by decide)
        exact FOK_yes ⟨h1, ui_lk h2 (by omega), h3, h4, h5, h6⟩ h9.1 (by show lkN _ ≤ 1000; unfold lkN; omega) (sk_sh _) (sk_wk _)
theorem FOK_take {r c : Int} (hB : BI op lk kp wc pn nw) : FOK (op, lk, kp, wc, pn, nw, sh, wk) (takeF op lk kp wc pn nw sh wk r c) := by
  obtain ⟨h1, h2, h3, h4, h5, h6⟩ := id hB
  unfold takeF
  split
  · exact FOK_no hB (by decide) (by decide)
  · split
    · exact FOK_no hB (by decide) (by decide)
    · have h7 := h2 (r * 5 + c)
      refine FOK_yes ⟨h1, fun j => ?_, h3, h4, h5, h6⟩ (by omega) (by omega) (sk_sh _) (sk_wk _)
      show -1 ≤ ui lk (r * 5 + c) (-1) j ∧ ui lk (r * 5 + c) (-1) j ≤ 5
      have h8 := h2 j
      unfold ui
      split <;> omega
theorem brK_b {cell w n : Int} (h : ∀ j, -1 ≤ kp j ∧ kp j < 25 + nw) (hw : 0 ≤ w ∧ w < n) (hn : nw ≤ n) (j : Int) : -1 ≤ brK kp cell w 6 j ∧ brK kp cell w 6 j < 25 + n := by
  have h8 := h j
  unfold brK
  split <;> omega
theorem wc_b {w x : Int} (h : ∀ j, 0 ≤ wc j ∧ wc j ≤ 24) (hx : 0 ≤ x ∧ x ≤ 24) (j : Int) : 0 ≤ ui wc w x j ∧ ui wc w x j ≤ 24 := by
  have h8 := h j
  unfold ui
  split <;> omega
theorem FOK_enter {r c : Int} (hB : BI op lk kp wc pn nw) : FOK (op, lk, kp, wc, pn, nw, sh, wk) (enterF op lk kp wc pn nw sh wk r c) := by
  obtain ⟨h1, h2, h3, h4, h5, h6⟩ := id hB
  unfold enterF
  split
  · exact FOK_no hB (by decide) (by decide)
  · split
    · exact FOK_no hB (by decide) (by decide)
    · split
      · exact FOK_no hB (by decide) (by decide)
      · exact FOK_yes ⟨h1, h2, brK_b (n := nw + 1) h3 (by omega) (by omega), wc_b h4 (by omega), h5, by show 0 ≤ nw + 1 ∧ nw + 1 ≤ 3; omega⟩ h6.1 (by omega) (sk_sh _) (sk_wk _)
theorem FOK_walk {w r c : Int} (hB : BI op lk kp wc pn nw) : FOK (op, lk, kp, wc, pn, nw, sh, wk) (walkF op lk kp wc pn nw sh wk w r c) := by
  obtain ⟨h1, h2, h3, h4, h5, h6⟩ := id hB
  unfold walkF
  split
  · exact FOK_no hB (by decide) (by decide)
  · split
    · exact FOK_no hB (by decide) (by decide)
    · split
      · exact FOK_no hB (by decide) (by decide)
      · have h9 := dz_rg (G := Gw op lk kp w) (st := wc w) Gw_ok (h4 w) (r * 5 + c)
        refine FOK_yes ⟨h1, h2, brK_b (n := nw) h3 (by omega) (Int.le_refl _), wc_b h4 (by omega), h5, h6⟩ h9.1 (by omega) (sk_sh _) ?_
        show wk ≤ wk + dz (Gw op lk kp w) (wc w) (r * 5 + c) ∧ wk + dz (Gw op lk kp w) (wc w) (r * 5 + c) ≤ wk + 24
        omega
theorem FOK_mv {first strd st : Int} (hL : linP first strd) (hB : BI op lk kp wc pn nw) : FOK (op, lk, kp, wc, pn, nw, sh, wk) (moveF op lk kp wc pn nw sh wk first strd st) := by
  unfold moveF
  split
  · exact FOK_no hB (by decide) (by decide)
  · split
    · exact FOK_no hB (by decide) (by decide)
    · have hnw : 0 ≤ nw ∧ nw ≤ 3 := hB.2.2.2.2.2
      have h8 := smN_b (m := 3) (f := fun i => cntK (mlK wc first strd st nw) (first + i * strd) nw) (fun j => by
        have h9 := cntK_b (f := mlK wc first strd st nw) (x := first + j * strd) hnw.1
        exact ⟨h9.1, by omega⟩) 5
      exact FOK_yes (BI_ml hL hB) h8.1 (by show smN _ 5 ≤ 1000; omega) (by show sh ≤ sh + 1 ∧ sh + 1 ≤ sh + 1; omega) (sk_wk _)
theorem FOK_row {r st : Int} (hB : BI op lk kp wc pn nw) : FOK (op, lk, kp, wc, pn, nw, sh, wk) (rowF op lk kp wc pn nw sh wk r st) := by
  unfold rowF
  split
  · exact FOK_mv (Or.inl ⟨rfl, by omega, by omega⟩) hB
  · exact FOK_no hB (by decide) (by decide)
theorem FOK_col {r st : Int} (hB : BI op lk kp wc pn nw) : FOK (op, lk, kp, wc, pn, nw, sh, wk) (colF op lk kp wc pn nw sh wk r st) := by
  unfold colF
  split
  · exact FOK_mv (Or.inr ⟨rfl, by omega, by omega⟩) hB
  · exact FOK_no hB (by decide) (by decide)
end FOKS
