/-! ===== what a change leaves ===== -/
abbrev BIT (B : BT) : Prop := BI B.1 B.2.1 B.2.2.1 B.2.2.2.1 B.2.2.2.2.1 B.2.2.2.2.2.1
abbrev shB (B : BT) : Int := B.2.2.2.2.2.2.1
abbrev wkB (B : BT) : Int := B.2.2.2.2.2.2.2
def FOK (B : BT) (F : Int × BT) : Prop := BIT F.2 ∧ (F.1 < 0 → F.2 = B) ∧ (-5 ≤ F.1 ∧ F.1 ≤ 1000) ∧ (shB B ≤ shB F.2 ∧ shB F.2 ≤ shB B + 1) ∧ (wkB B ≤ wkB F.2 ∧ wkB F.2 ≤ wkB B + 24)
theorem sk_sh (x : Int) : x ≤ x ∧ x ≤ x + 1 := by omega
theorem sk_wk (x : Int) : x ≤ x ∧ x ≤ x + 24 := by omega
theorem FOK_no {B : BT} {a : Int} (h : BIT B) (h0 : -5 ≤ a) (h1 : a ≤ 1000) : FOK B (a, B) := ⟨h, fun _ => rfl, ⟨h0, h1⟩, sk_sh _, sk_wk _⟩
theorem FOK_no2 {B : BT} {F : Int × BT} (h : BIT B) (h0 : -5 ≤ F.1) (h1 : F.1 < 0 ∧ F.2 = B) : FOK B F := by
  obtain ⟨a, b⟩ := F
  obtain ⟨h2, h3⟩ := h1
  have h3 : b = B := h3
  subst h3
  exact FOK_no h h0 (by have : a < 0 := h2; omega)
theorem FOK_yes {B B1 : BT} {a : Int} (h : BIT B1) (h0 : 0 ≤ a) (h1 : a ≤ 1000) (hs : shB B ≤ shB B1 ∧ shB B1 ≤ shB B + 1) (hw : wkB B ≤ wkB B1 ∧ wkB B1 ≤ wkB B + 24) : FOK B (a, B1) := ⟨h, fun q => absurd h0 (by show ¬ 0 ≤ a; have q2 : a < 0 := q; omega), ⟨by show (-5 : Int) ≤ a; omega, h1⟩, hs, hw⟩
section FOKS
variable {op lk kp wc : Int → Int} {pn nw sh wk : Int}
theorem FOK_set {r c o : Int} (hB : BI op lk kp wc pn nw) : FOK (op, lk, kp, wc, pn, nw, sh, wk) (setF op lk kp wc pn nw sh wk r c o) := by
  obtain ⟨h1, h2, h3, h4, h5, h6⟩ := id hB
  unfold setF
  split
  · exact FOK_no hB (by decide) (by decide)
  · split
    · exact FOK_no hB (by decide) (by decide)
    · have h7 := h1 (r * 5 + c)
      refine FOK_yes ⟨fun j => ?_, h2, h3, h4, h5, h6⟩ h7.1 (by omega) (sk_sh _) (sk_wk _)
      show 0 ≤ ui op (r * 5 + c) o j ∧ ui op (r * 5 + c) o j ≤ 15
      have h8 := h1 j
      unfold ui
      split <;> omega
theorem FOK_turn {r c q : Int} (hB : BI op lk kp wc pn nw) : FOK (op, lk, kp, wc, pn, nw, sh, wk) (turnF op lk kp wc pn nw sh wk r c q) := by
  obtain ⟨h1, h2, h3, h4, h5, h6⟩ := id hB
  unfold turnF
  split
  · exact FOK_no hB (by decide) (by decide)
  · split
    · exact FOK_no hB (by decide) (by decide)
    · split
      · exact FOK_no hB (by decide) (by decide)
      · have h7 := (rot_eq (x := op (r * 5 + c)) (q := q) (h1 _) (by omega)).2
        refine FOK_yes ⟨fun j => ?_, h2, h3, h4, h5, h6⟩ h7.1 (by omega) (sk_sh _) (sk_wk _)
        show 0 ≤ ui op (r * 5 + c) (rotZ (op (r * 5 + c)) q) j ∧ ui op (r * 5 + c) (rotZ (op (r * 5 + c)) q) j ≤ 15
        have h8 := h1 j
        unfold ui
        split <;> omega
theorem FOK_fix {r c : Int} (hB : BI op lk kp wc pn nw) : FOK (op, lk, kp, wc, pn, nw, sh, wk) (fixF op lk kp wc pn nw sh wk r c) := by
  obtain ⟨h1, h2, h3, h4, h5, h6⟩ := id hB
  unfold fixF
  split
  · exact FOK_no hB (by decide) (by decide)
  · split
    · exact FOK_no hB (by decide) (by decide)
    · have h7 := fix_rg (c := r * 5 + c) h5 (by omega) (by omega)
      have h8 := bc_cnt h7
      have h9 := cnbK_b (P := fun d => decide (fixP (iorZ pn (ishlZ 1 (r * 5 + c))) d)) (n := 25) (by decide)
      rw [← h8] at h9
      exact FOK_yes ⟨h1, h2, h3, h4, h7, h6⟩ h9.1 (by omega) (sk_sh _) (sk_wk _)
theorem FOK_free {r c : Int} (hB : BI op lk kp wc pn nw) : FOK (op, lk, kp, wc, pn, nw, sh, wk) (freeF op lk kp wc pn nw sh wk r c) := by
  obtain ⟨h1, h2, h3, h4, h5, h6⟩ := id hB
  unfold freeF
  split
  · exact FOK_no hB (by decide) (by decide)
  · split
    · exact FOK_no hB (by decide) (by decide)
    · have h7 := free_rg (c := r * 5 + c) h5 (by omega) (by omega)
      have h8 := bc_cnt h7
      have h9 := cnbK_b (P := fun d => decide (fixP (iandZ pn (ixorZ (ishlZ 1 (r * 5 + c)) (-1))) d)) (n := 25) (by decide)
      rw [← h8] at h9
      exact FOK_yes ⟨h1, h2, h3, h4, h7, h6⟩ h9.1 (by omega) (sk_sh _) (sk_wk _)
theorem FOK_lay {k r c : Int} (hB : BI op lk kp wc pn nw) : FOK (op, lk, kp, wc, pn, nw, sh, wk) (layF op lk kp wc pn nw sh wk k r c) := by
  obtain ⟨h1, h2, h3, h4, h5, h6⟩ := id hB
  unfold layF
  split
  · exact FOK_no hB (by decide) (by decide)
  · split
    · exact FOK_no hB (by decide) (by decide)
    · split
      · exact FOK_no hB (by decide) (by decide)
      · have h9 := cntK_b (f := ui kp (k - 97) (r * 5 + c)) (x := r * 5 + c) (n := 6) (by decide)
        exact FOK_yes (BI_kp hB (by omega)) h9.1 (by omega) (sk_sh _) (sk_wk _)
theorem FOK_hang {r c k : Int} (hB : BI op lk kp wc pn nw) : FOK (op, lk, kp, wc, pn, nw, sh, wk) (hangF op lk kp wc pn nw sh wk r c k) := by
  obtain ⟨h1, h2, h3, h4, h5, h6⟩ := id hB
  unfold hangF
  split
  · exact FOK_no hB (by decide) (by decide)
  · split
    · exact FOK_no hB (by decide) (by decide)
    · split
      · exact FOK_no hB (by decide) (by decide)
      · have h9 := cnbK_b (P := fun j => decide (¬ ui lk (r * 5 + c) (k - 97) j = -1)) (n := 25) (by decide)
        exact FOK_yes ⟨h1, ui_lk h2 (by omega), h3, h4, h5, h6⟩ h9.1 (by show lkN _ ≤ 1000; unfold lkN; omega) (sk_sh _) (sk_wk _)
theorem FOK_take {r c : Int} (hB : BI op lk kp wc pn nw) : FOK (op, lk, kp, wc, pn, nw, sh, wk) (takeF op lk kp wc pn nw sh wk r c) := by
  obtain ⟨h1, h2, h3, h4, h5, h6⟩ := id hB
  unfold takeF
  split
  · exact FOK_no hB (by decide) (by decide)
  · split
    · exact FOK_no hB (by decide) (by decide)
    · have h7 := h2 (r * 5 + c)
      refine FOK_yes ⟨h1, fun j => ?_, h3, h4, h5, h6⟩ (by omega) (by omega) (sk_sh _) (sk_wk _)
      show -1 ≤ ui lk (r * 5 + c) (-1) j ∧ ui lk (r * 5 + c) (-1) j ≤ 5
      have h8 := h2 j
      unfold ui
      split <;> omega
theorem brK_b {cell w n : Int} (h : ∀ j, -1 ≤ kp j ∧ kp j < 25 + nw) (hw : 0 ≤ w ∧ w < n) (hn : nw ≤ n) (j : Int) : -1 ≤ brK kp cell w 6 j ∧ brK kp cell w 6 j < 25 + n := by
  have h8 := h j
  unfold brK
  split <;> omega
theorem wc_b {w x : Int} (h : ∀ j, 0 ≤ wc j ∧ wc j ≤ 24) (hx : 0 ≤ x ∧ x ≤ 24) (j : Int) : 0 ≤ ui wc w x j ∧ ui wc w x j ≤ 24 := by
  have h8 := h j
  unfold ui
  split <;> omega
theorem FOK_enter {r c : Int} (hB : BI op lk kp wc pn nw) : FOK (op, lk, kp, wc, pn, nw, sh, wk) (enterF op lk kp wc pn nw sh wk r c) := by
  obtain ⟨h1, h2, h3, h4, h5, h6⟩ := id hB
  unfold enterF
  split
  · exact FOK_no hB (by decide) (by decide)
  · split
    · exact FOK_no hB (by decide) (by decide)
    · split
      · exact FOK_no hB (by decide) (by decide)
      · exact FOK_yes ⟨h1, h2, brK_b (n := nw + 1) h3 (by omega) (by omega), wc_b h4 (by omega), h5, by show 0 ≤ nw + 1 ∧ nw + 1 ≤ 3; omega⟩ h6.1 (by omega) (sk_sh _) (sk_wk _)
theorem FOK_walk {w r c : Int} (hB : BI op lk kp wc pn nw) : FOK (op, lk, kp, wc, pn, nw, sh, wk) (walkF op lk kp wc pn nw sh wk w r c) := by
  obtain ⟨h1, h2, h3, h4, h5, h6⟩ := id hB
  unfold walkF
  split
  · exact FOK_no hB (by decide) (by decide)
  · split
    · exact FOK_no hB (by decide) (by decide)
    · split
      · exact FOK_no hB (by decide) (by decide)
      · have h9 := dz_rg (G := Gw op lk kp w) (st := wc w) Gw_ok (h4 w) (r * 5 + c)
        refine FOK_yes ⟨h1, h2, brK_b (n := nw) h3 (by omega) (Int.le_refl _), wc_b h4 (by omega), h5, h6⟩ h9.1 (by omega) (sk_sh _) ?_
        show wk ≤ wk + dz (Gw op lk kp w) (wc w) (r * 5 + c) ∧ wk + dz (Gw op lk kp w) (wc w) (r * 5 + c) ≤ wk + 24
        omega
theorem FOK_ln {b : Bool} {r st : Int} (hB : BI op lk kp wc pn nw) : FOK (op, lk, kp, wc, pn, nw, sh, wk) (lnF op lk kp wc pn nw sh wk b r st) := by
  obtain ⟨h1, h2, h3, h4, h5, h6⟩ := id hB
  by_cases q : 0 ≤ r ∧ r ≤ 4
  · by_cases q2 : ¬ st = 0 ∧ -4 ≤ st ∧ st ≤ 4
    · cases e : frB pn b r
      · rw [ln_3 q q2 e]
        exact FOK_no hB (by decide) (by decide)
      · rw [ln_0 h4 q q2 e]
        have h8 := lnC_b (wc := wc) (b := b) (ln := r) h6.1
        exact FOK_yes (BI_ml (fs_lin q.1 q.2) hB) h8.1 (by omega) (by show sh ≤ sh + 1 ∧ sh + 1 ≤ sh + 1; omega) (sk_wk _)
    · rw [ln_2 q q2]
      exact FOK_no hB (by decide) (by decide)
  · rw [ln_1 q]
    exact FOK_no hB (by decide) (by decide)
theorem FOK_row {r st : Int} (hB : BI op lk kp wc pn nw) : FOK (op, lk, kp, wc, pn, nw, sh, wk) (rowF op lk kp wc pn nw sh wk r st) := FOK_ln (b := true) hB
theorem FOK_col {r st : Int} (hB : BI op lk kp wc pn nw) : FOK (op, lk, kp, wc, pn, nw, sh, wk) (colF op lk kp wc pn nw sh wk r st) := FOK_ln (b := false) hB
/-- a command, by its number and its numbers -/
noncomputable def exF (op lk kp wc : Int → Int) (pn nw sh wk : Int) (kd a b c : Int) : Int × BT :=
  if kd = 0 then setF op lk kp wc pn nw sh wk a b c else if kd = 1 then turnF op lk kp wc pn nw sh wk a b c else if kd = 2 then fixF op lk kp wc pn nw sh wk a b else if kd = 3 then freeF op lk kp wc pn nw sh wk a b
  else if kd = 4 then rowF op lk kp wc pn nw sh wk a (b * c) else if kd = 5 then colF op lk kp wc pn nw sh wk a (b * c) else if kd = 6 then layF op lk kp wc pn nw sh wk a b c else if kd = 7 then hangF op lk kp wc pn nw sh wk a b c
  else if kd = 8 then takeF op lk kp wc pn nw sh wk a b else if kd = 9 then enterF op lk kp wc pn nw sh wk a b else walkF op lk kp wc pn nw sh wk a b c
theorem FOK_ex {kd a b c : Int} (hB : BI op lk kp wc pn nw) : FOK (op, lk, kp, wc, pn, nw, sh, wk) (exF op lk kp wc pn nw sh wk kd a b c) := by
  unfold exF
  split
  · exact FOK_set hB
  · split
    · exact FOK_turn hB
    · split
      · exact FOK_fix hB
      · split
        · exact FOK_free hB
        · split
          · exact FOK_row hB
          · split
            · exact FOK_col hB
            · split
              · exact FOK_lay hB
              · split
                · exact FOK_hang hB
                · split
                  · exact FOK_take hB
                  · split
                    · exact FOK_enter hB
                    · exact FOK_walk hB
end FOKS
noncomputable def exT (B : BT) (kd a b c : Int) : Int × BT := exF B.1 B.2.1 B.2.2.1 B.2.2.2.1 B.2.2.2.2.1 B.2.2.2.2.2.1 B.2.2.2.2.2.2.1 B.2.2.2.2.2.2.2 kd a b c
theorem FOK_exT {B : BT} {kd a b c : Int} (h : BIT B) : FOK B (exT B kd a b c) := FOK_ex h
/-! the commands of a text, one behind the other -/
def cdZ (t : Int → Int) (n i : Int) : Int := (rdR t n (atZ t n i)).2.1
def cvZ (t : Int → Int) (n i : Int) (j : Nat) : Int := (rdR t n (atZ t n i)).2.2.getD j 0
noncomputable def exQ (t : Int → Int) (n i : Int) (B : BT) : Int × BT := exT B (cdZ t n i) (cvZ t n i 0) (cvZ t n i 1) (cvZ t n i 2)
noncomputable def exN (t : Int → Int) (n : Int) (B : BT) : Nat → BT
  | 0 => B
  | k + 1 => (exQ t n k (exN t n B k)).2
noncomputable def exB (t : Int → Int) (n : Int) (B : BT) (k : Int) : BT := exN t n B k.toNat
theorem exB_0 {t : Int → Int} {n : Int} {B : BT} : exB t n B 0 = B := rfl
theorem exB_s {t : Int → Int} {n k : Int} {B : BT} (h : 0 ≤ k) : exB t n B (k + 1) = (exQ t n k (exB t n B k)).2 := by
  unfold exB
  rw [show (k + 1).toNat = k.toNat + 1 by omega]
  show (exQ t n ((k.toNat : Nat) : Int) (exN t n B k.toNat)).2 = _
  rw [Int.toNat_of_nonneg h]
theorem exN_ok {t : Int → Int} {n : Int} {B : BT} (h : BIT B) : ∀ k : Nat, BIT (exN t n B k) ∧ (shB B ≤ shB (exN t n B k) ∧ shB (exN t n B k) ≤ shB B + k) ∧ (wkB B ≤ wkB (exN t n B k) ∧ wkB (exN t n B k) ≤ wkB B + 24 * k)
  | 0 => ⟨h, by show shB B ≤ shB B ∧ shB B ≤ shB B + ((0 : Nat) : Int); omega, by show wkB B ≤ wkB B ∧ wkB B ≤ wkB B + 24 * ((0 : Nat) : Int); omega⟩
  | k + 1 => by
    obtain ⟨i1, i2, i3⟩ := exN_ok (t := t) (n := n) h k
    obtain ⟨f1, f2, f3, f4, f5⟩ := FOK_exT (kd := cdZ t n k) (a := cvZ t n k 0) (b := cvZ t n k 1) (c := cvZ t n k 2) i1
    have f4 : shB (exN t n B k) ≤ shB (exN t n B (k + 1)) ∧ shB (exN t n B (k + 1)) ≤ shB (exN t n B k) + 1 := f4
    have f5 : wkB (exN t n B k) ≤ wkB (exN t n B (k + 1)) ∧ wkB (exN t n B (k + 1)) ≤ wkB (exN t n B k) + 24 := f5
    exact ⟨f1, by omega, by omega⟩
theorem exB_ok {t : Int → Int} {n k : Int} {B : BT} (h : BIT B) (hk : 0 ≤ k) : BIT (exB t n B k) ∧ (shB B ≤ shB (exB t n B k) ∧ shB (exB t n B k) ≤ shB B + k) ∧ (wkB B ≤ wkB (exB t n B k) ∧ wkB (exB t n B k) ≤ wkB B + 24 * k) := by
  have q := exN_ok (t := t) (n := n) h k.toNat
  rw [Int.toNat_of_nonneg hk] at q
  exact q
def okP (t : Int → Int) (n : Int) (B : BT) (i : Int) : Prop := 0 ≤ (exQ t n i (exB t n B i)).1
/-- which command fails first, none: -1 -/
def ffP (t : Int → Int) (n : Int) (B : BT) (cs z : Int) : Prop := (z = -1 ∧ ∀ j : Int, 0 ≤ j → j < cs → okP t n B j) ∨ ((0 ≤ z ∧ z < cs) ∧ (∀ j : Int, 0 ≤ j → j < z → okP t n B j) ∧ ¬ okP t n B z)
theorem ffP_uniq {t : Int → Int} {n cs z y : Int} {B : BT} (h : ffP t n B cs z) (g : ffP t n B cs y) : z = y := by
  rcases h with ⟨h1, h2⟩ | ⟨h1, h2, h3⟩
  · rcases g with ⟨g1, g2⟩ | ⟨g1, g2, g3⟩
    · omega
    · exact absurd (h2 y g1.1 g1.2) g3
  · rcases g with ⟨g1, g2⟩ | ⟨g1, g2, g3⟩
    · exact absurd (g2 z h1.1 h1.2) h3
    · rcases Int.lt_or_le z y with q | q
      · exact absurd (g2 z h1.1 q) h3
      · rcases Int.lt_or_le y z with p | p
        · exact absurd (h2 y g1.1 p) g3
        · omega
/-! how many numbers a command has, and which -/
theorem mtL_len {t : Int → Int} {n : Int} : ∀ (P : List Int) (a : Int) (vs : List Int), 0 ≤ (mtL t n P a vs).1 → ((mtL t n P a vs).2.length : Int) = vs.length + phN P ∨ a < 0
  | [], a, vs, _ => Or.inl (by show (vs.length : Int) = vs.length + 0; omega)
  | k :: ks, a, vs, h => by
    rcases Int.lt_or_le a 0 with ha | ha
    · exact Or.inr ha
    · left
      rw [mtL_cs] at h ⊢
      unfold phN
      split at h
      · rename_i h1
        rw [if_pos h1]
        split at h
        · rename_i h2
          rw [if_pos h2]
          rcases mtL_len ks (a + 1 + 1) _ h with q | q
          · rw [q, if_pos (Or.inr (Or.inl h2.1)), List.length_append, List.length_singleton]
            omega
          · omega
        · rename_i h2
          rw [if_neg h2]
          rcases mtL_len ks (a + 1) _ h with q | q
          · rw [q]
            split
            · rw [List.length_append, List.length_singleton]
              omega
            · omega
          · omega
      · have h' : 0 ≤ -1 - a := h
        omega
theorem rdL_is {t : Int → Int} {n st : Int} : ∀ (Ps : List (List Int)) (i f : Int), st ≤ f → 0 ≤ st → 0 ≤ (rdL t n st Ps i f).1 → ∃ j : Nat, j < Ps.length ∧ (rdL t n st Ps i f).2.1 = i + j ∧ (rdL t n st Ps i f).1 = (mtL t n (Ps.getD j []) st []).1 ∧ (rdL t n st Ps i f).2.2 = (mtL t n (Ps.getD j []) st []).2
  | [], i, f, h0, h1, h => by
    have h' : 0 ≤ -1 - f := h
    omega
  | P :: Ps, i, f, h0, h1, h => by
    unfold rdL at h ⊢
    split at h
    · rename_i h2
      rw [if_pos h2]
      exact ⟨0, by simp, by show i = i + ((0 : Nat) : Int); omega, rfl, rfl⟩
    · rename_i h2
      rw [if_neg h2]
      obtain ⟨j, e1, e2, e3, e4⟩ := rdL_is (t := t) (n := n) (st := st) Ps (i + 1) (if f < -1 - (mtL t n P st []).1 then -1 - (mtL t n P st []).1 else f) (by split <;> omega) h1 h
      exact ⟨j + 1, by simp; omega, by rw [e2]; omega, e3, e4⟩
theorem sPats_at : ∀ j : Nat, j < 11 → sPats.getD j [] = sStr.getD j [] := by decide +kernel
theorem rdR_is {t : Int → Int} {n st : Int} (h0 : 0 ≤ st) (h : 0 ≤ (rdR t n st).1) : (0 ≤ (rdR t n st).2.1 ∧ (rdR t n st).2.1 < 11) ∧ (rdR t n st).1 = (mtL t n (sPat (rdR t n st).2.1) st []).1 ∧ (rdR t n st).2.2 = (mtL t n (sPat (rdR t n st).2.1) st []).2 := by
  obtain ⟨j, e1, e2, e3, e4⟩ := rdL_is (t := t) (n := n) (st := st) sPats 0 st (Int.le_refl _) h0 h
  have hj : j < 11 := e1
  have e5 : (rdR t n st).2.1 = (j : Int) := by
    have e2 : (rdR t n st).2.1 = 0 + (j : Int) := e2
    omega
  rw [e5]
  refine ⟨by omega, ?_, ?_⟩
  · rw [show sPat (j : Int) = sPats.getD j [] from (sPats_at j hj).symm]
    exact e3
  · rw [show sPat (j : Int) = sPats.getD j [] from (sPats_at j hj).symm]
    exact e4
section EXS
variable {op lk kp wc : Int → Int} {pn nw sh wk kd a b c : Int}
theorem ex_0 (h : kd = 0) : exF op lk kp wc pn nw sh wk kd a b c = setF op lk kp wc pn nw sh wk a b c := by subst h; rfl
theorem ex_1 (h : kd = 1) : exF op lk kp wc pn nw sh wk kd a b c = turnF op lk kp wc pn nw sh wk a b c := by subst h; rfl
theorem ex_2 (h : kd = 2) : exF op lk kp wc pn nw sh wk kd a b c = fixF op lk kp wc pn nw sh wk a b := by subst h; rfl
theorem ex_3 (h : kd = 3) : exF op lk kp wc pn nw sh wk kd a b c = freeF op lk kp wc pn nw sh wk a b := by subst h; rfl
theorem ex_4 (h : kd = 4) : exF op lk kp wc pn nw sh wk kd a b c = rowF op lk kp wc pn nw sh wk a (b * c) := by subst h; rfl
theorem ex_5 (h : kd = 5) : exF op lk kp wc pn nw sh wk kd a b c = colF op lk kp wc pn nw sh wk a (b * c) := by subst h; rfl
theorem ex_6 (h : kd = 6) : exF op lk kp wc pn nw sh wk kd a b c = layF op lk kp wc pn nw sh wk a b c := by subst h; rfl
theorem ex_7 (h : kd = 7) : exF op lk kp wc pn nw sh wk kd a b c = hangF op lk kp wc pn nw sh wk a b c := by subst h; rfl
theorem ex_8 (h : kd = 8) : exF op lk kp wc pn nw sh wk kd a b c = takeF op lk kp wc pn nw sh wk a b := by subst h; rfl
theorem ex_9 (h : kd = 9) : exF op lk kp wc pn nw sh wk kd a b c = enterF op lk kp wc pn nw sh wk a b := by subst h; rfl
theorem ex_10 (h : kd = 10) : exF op lk kp wc pn nw sh wk kd a b c = walkF op lk kp wc pn nw sh wk a b c := by subst h; rfl
theorem lay_i2c (h : -1 ≤ a ∧ a ≤ 102) : layF op lk kp wc pn nw sh wk (i2cZ a) b c = layF op lk kp wc pn nw sh wk a b c := by
  by_cases q : 0 ≤ a
  · rw [i2cZ_in q (by omega)]
  · have e : a = -1 := by omega
    subst e
    rw [show i2cZ (-1) = 65535 by decide +kernel]
    rfl
theorem hang_i2c (h : -1 ≤ c ∧ c ≤ 102) : hangF op lk kp wc pn nw sh wk a b (i2cZ c) = hangF op lk kp wc pn nw sh wk a b c := by
  by_cases q : 0 ≤ c
  · rw [i2cZ_in q (by omega)]
  · have e : c = -1 := by omega
    subst e
    rw [show i2cZ (-1) = 65535 by decide +kernel]
    rfl
theorem sPat_n : ∀ i : Nat, i < 11 → phN (sStr.getD i []) = 3 ∨ (phN (sStr.getD i []) = 2 ∧ (i = 2 ∨ i = 3 ∨ i = 8 ∨ i = 9)) := by decide +kernel
theorem exF_va {va v : Int → Int} (h0 : 0 ≤ kd) (h1 : kd < 11) (h : ∀ j : Int, 0 ≤ j → j < phN (sPat kd) → va j = v j) : exF op lk kp wc pn nw sh wk kd (va 0) (va 1) (va 2) = exF op lk kp wc pn nw sh wk kd (v 0) (v 1) (v 2) := by
  have q := sPat_n kd.toNat (by omega)
  have e : phN (sStr.getD kd.toNat []) = phN (sPat kd) := rfl
  rw [e] at q
  rcases q with q | ⟨q, q2⟩
  · rw [h 0 (by decide) (by omega), h 1 (by decide) (by omega), h 2 (by decide) (by omega)]
  · rw [h 0 (by decide) (by omega), h 1 (by decide) (by omega)]
    rcases q2 with q2 | q2 | q2 | q2
    · rw [ex_2 (show kd = 2 by omega), ex_2 (show kd = 2 by omega)]
    · rw [ex_3 (show kd = 3 by omega), ex_3 (show kd = 3 by omega)]
    · rw [ex_8 (show kd = 8 by omega), ex_8 (show kd = 8 by omega)]
    · rw [ex_9 (show kd = 9 by omega), ex_9 (show kd = 9 by omega)]
end EXS
theorem mul_b {x y : Int} (hx : -1 ≤ x ∧ x ≤ 102) (hy : -1 ≤ y ∧ y ≤ 102) : rg (x * y) := by
  have e : ∀ m k : Nat, m < 104 → k < 104 → -1000 ≤ ((m : Int) - 1) * ((k : Int) - 1) ∧ ((m : Int) - 1) * ((k : Int) - 1) ≤ 20000 := by
    intro m k hm hk
    have h1 : ((m : Int) - 1) * ((k : Int) - 1) ≤ 102 * 102 ∧ -(102 : Int) * 102 ≤ ((m : Int) - 1) * ((k : Int) - 1) ∧ -1000 ≤ ((m : Int) - 1) * ((k : Int) - 1) := by
      rcases Nat.lt_or_ge 0 m with a | a
      · rcases Nat.lt_or_ge 0 k with b | b
        · obtain ⟨m, rfl⟩ : ∃ q, m = q + 1 := ⟨m - 1, by omega⟩
          obtain ⟨k, rfl⟩ : ∃ q, k = q + 1 := ⟨k - 1, by omega⟩
          have e1 : (((m + 1 : Nat) : Int) - 1) * (((k + 1 : Nat) : Int) - 1) = ((m * k : Nat) : Int) := by
            rw [show ((m + 1 : Nat) : Int) - 1 = (m : Int) by omega, show ((k + 1 : Nat) : Int) - 1 = (k : Int) by omega]
            rfl
          rw [e1]
          have h3 : m * k ≤ 102 * 102 := Nat.mul_le_mul (by omega) (by omega)
          omega
        · have : k = 0 := by omega
          subst this
          show ((m : Int) - 1) * (((0 : Nat) : Int) - 1) ≤ _ ∧ _
          omega
      · have : m = 0 := by omega
        subst this
        show (((0 : Nat) : Int) - 1) * ((k : Int) - 1) ≤ _ ∧ _
        omega
    omega
  have h := e (x + 1).toNat (y + 1).toNat (by omega) (by omega)
  rw [Int.toNat_of_nonneg (by omega), Int.toNat_of_nonneg (by omega), show x + 1 - 1 = x by omega, show y + 1 - 1 = y by omega] at h
  unfold rg
  omega
theorem feP_c {t : Int → Int} {n c : Int} (hn : 0 ≤ n ∧ n ≤ 60) (h : feP t n (-1) c) : 1 ≤ c ∧ c ≤ 9 := by
  have h2 := feP_ok h
  have h3 := preP_b (t := t) hn.1 (show 0 ≤ c - 1 by omega) h2.2.1
  omega
/-- the numbers of the i-th command -/
theorem cv_va {t : Int → Int} {n c i : Int} {va : Int → Int} (hn : 0 ≤ n ∧ n ≤ 60) (h : feP t n (-1) c) (h0 : 0 ≤ i) (h1 : i < c) (hv : ∀ j : Nat, j < (rdR t n (atZ t n i)).2.2.length → va j = (rdR t n (atZ t n i)).2.2.getD j 0) (j : Int) (j0 : 0 ≤ j) (j1 : j < phN (sPat (cdZ t n i))) : va j = cvZ t n i j.toNat := by
  have h2 := feP_en h h0 h1
  have h3 := preP_b (t := t) hn.1 h0 h2.1
  have h4 := rdR_is (t := t) (n := n) (st := atZ t n i) (by omega) h2.2.1
  have h5 := mtL_len (t := t) (n := n) (sPat (cdZ t n i)) (atZ t n i) [] (by
    have e : (rdR t n (atZ t n i)).1 = (mtL t n (sPat (cdZ t n i)) (atZ t n i) []).1 := h4.2.1
    rw [← e]
    exact h2.2.1)
  have h6 : (rdR t n (atZ t n i)).2.2 = (mtL t n (sPat (cdZ t n i)) (atZ t n i) []).2 := h4.2.2
  have h7 := hv j.toNat (by
    rw [h6]
    rcases h5 with q | q
    · have q : ((mtL t n (sPat (cdZ t n i)) (atZ t n i) []).2.length : Int) = ((0 : Nat) : Int) + phN (sPat (cdZ t n i)) := q
      omega
    · omega)
  rw [Int.toNat_of_nonneg j0] at h7
  exact h7
theorem cd_b {t : Int → Int} {n c i : Int} (hn : 0 ≤ n ∧ n ≤ 60) (h : feP t n (-1) c) (h0 : 0 ≤ i) (h1 : i < c) : 0 ≤ cdZ t n i ∧ cdZ t n i < 11 := by
  have h2 := feP_en h h0 h1
  have h3 := preP_b (t := t) hn.1 h0 h2.1
  exact (rdR_is (t := t) (n := n) (st := atZ t n i) (by omega) h2.2.1).1
theorem exQ_va {t : Int → Int} {n c i : Int} {va : Int → Int} {B : BT} (hn : 0 ≤ n ∧ n ≤ 60) (h : feP t n (-1) c) (h0 : 0 ≤ i) (h1 : i < c) (hv : ∀ j : Nat, j < (rdR t n (atZ t n i)).2.2.length → va j = (rdR t n (atZ t n i)).2.2.getD j 0) : exT B (cdZ t n i) (va 0) (va 1) (va 2) = exQ t n i B := by
  have h2 := cd_b hn h h0 h1
  exact exF_va (va := va) (v := fun j => cvZ t n i j.toNat) h2.1 h2.2 (cv_va hn h h0 h1 hv)
