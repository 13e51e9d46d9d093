/-! ===== which command stands here, in the model's way ===== -/
def pfZ (t : Int → Int) (n sp i : Int) : Int := pfL t n sp (sWrd i)
def wlZ (i : Int) : Int := stZ (i + 1) - stZ i
def fmN (t : Int → Int) (n sp : Int) : Nat → Int
  | 0 => sp
  | k + 1 => if fmN t n sp k < sp + pfZ t n sp k then sp + pfZ t n sp k else fmN t n sp k
def fmZ (t : Int → Int) (n sp k : Int) : Int := fmN t n sp k.toNat
theorem fmZ_0 {t : Int → Int} {n sp : Int} : fmZ t n sp 0 = sp := rfl
theorem fmZ_s {t : Int → Int} {n sp k : Int} (h : 0 ≤ k) : fmZ t n sp (k + 1) = if fmZ t n sp k < sp + pfZ t n sp k then sp + pfZ t n sp k else fmZ t n sp k := by
  unfold fmZ
  rw [show (k + 1).toNat = k.toNat + 1 by omega, fmN, Int.toNat_of_nonneg h]
theorem wl_b {i : Int} (h0 : 0 ≤ i) (h1 : i < 11) : ((sWrd i).length : Int) = wlZ i ∧ 1 ≤ wlZ i ∧ wlZ i ≤ 56 ∧ 0 ≤ stZ i ∧ stZ i + wlZ i ≤ 56 := by
  have h := sWrd_t h0 h1
  unfold wlZ
  omega
theorem pf_b {t : Int → Int} {n sp i : Int} (h0 : 0 ≤ i) (h1 : i < 11) (hs : sp ≤ n) : 0 ≤ pfZ t n sp i ∧ pfZ t n sp i ≤ wlZ i ∧ sp + pfZ t n sp i ≤ n := by
  have h := pfL_b (t := t) (n := n) (sWrd i) sp
  have h2 := (wl_b h0 h1).1
  unfold pfZ
  have := h.2.2 hs
  omega
theorem fmN_b {t : Int → Int} {n sp : Int} (hs : sp ≤ n) : ∀ k : Nat, k ≤ 11 → sp ≤ fmN t n sp k ∧ fmN t n sp k ≤ n
  | 0, _ => ⟨Int.le_refl _, hs⟩
  | k + 1, h => by
    have ih := fmN_b (t := t) hs k (by omega)
    have h2 := pf_b (t := t) (n := n) (sp := sp) (i := (k : Int)) (by omega) (by omega) hs
    unfold fmN
    split <;> omega
theorem fmZ_b {t : Int → Int} {n sp k : Int} (hs : sp ≤ n) (h0 : 0 ≤ k) (h1 : k ≤ 11) : sp ≤ fmZ t n sp k ∧ fmZ t n sp k ≤ n := fmN_b hs k.toNat (by omega)
/-- one word stands here: no other does -/
theorem pf_ne {t : Int → Int} {n sp k i : Int} (hk : 0 ≤ k ∧ k < 11) (hf : pfZ t n sp k = wlZ k) (hi : 0 ≤ i ∧ i < 11) (hn : ¬ i = k) : pfZ t n sp i < wlZ i ∧ pfZ t n sp i < wlZ k := by
  obtain ⟨d, -, h1, h2, h3⟩ := sWrd_ne i.toNat (by omega) k.toNat (by omega) (by omega)
  rw [Int.toNat_of_nonneg hi.1] at h1 h3
  rw [Int.toNat_of_nonneg hk.1] at h2 h3
  have e1 := (wl_b hi.1 hi.2).1
  have e2 := (wl_b hk.1 hk.2).1
  have key : pfZ t n sp i ≤ d := by
    rcases Int.lt_or_le (d : Int) (pfZ t n sp i) with q | q
    · have a1 := pfL_at (t := t) (n := n) (sWrd i) sp d q
      have a2 := pfL_at (t := t) (n := n) (sWrd k) sp d (by unfold pfZ at hf; omega)
      exact absurd (a1.2.symm.trans a2.2) h3
    · exact q
  omega
theorem mt_pat {t : Int → Int} {n sp i : Int} (h0 : 0 ≤ i) (h1 : i < 11) : mtL t n (sPat i) sp [] = if pfZ t n sp i = wlZ i then mtL t n (sArg i) (sp + wlZ i) [] else (-1 - (sp + pfZ t n sp i), []) := by
  have h := sWrd_t h0 h1
  rw [h.1, mt_wrd (sWrd i) sp h.2.1, (wl_b h0 h1).1]
  rfl
theorem rdL_word {t : Int → Int} {n sp k : Int} (hk : 0 ≤ k ∧ k < 11) (hf : pfZ t n sp k = wlZ k) (hs : 0 ≤ sp ∧ sp ≤ n) : ∀ (m : Nat) (i f : Int), i = 11 - m → 0 ≤ i → sp ≤ f →
    (0 ≤ (mtL t n (sArg k) (sp + wlZ k) []).1 → i ≤ k → rdL t n sp (sPats.drop i.toNat) i f = ((mtL t n (sArg k) (sp + wlZ k) []).1, k, (mtL t n (sArg k) (sp + wlZ k) []).2)) ∧
    ((mtL t n (sArg k) (sp + wlZ k) []).1 < 0 → f ≤ -1 - (mtL t n (sArg k) (sp + wlZ k) []).1 → (k < i → f = -1 - (mtL t n (sArg k) (sp + wlZ k) []).1) → (rdL t n sp (sPats.drop i.toNat) i f).1 = (mtL t n (sArg k) (sp + wlZ k) []).1)
  | 0, i, f, hi, h0, hsf => by
    have e : i = 11 := by omega
    subst e
    rw [show sPats.drop (11 : Int).toNat = [] from rfl]
    refine ⟨fun _ h => by omega, fun h1 h2 h3 => ?_⟩
    show -1 - f = _
    have := h3 (by omega)
    omega
  | m + 1, i, f, hi, h0, hsf => by
    have hi11 : i < 11 := by omega
    have hpb := pf_b (t := t) (n := n) (sp := sp) hk.1 hk.2 hs.2
    have hab := mtL_b (t := t) (n := n) (sArg k) (sp + wlZ k) [] (by have := (wl_b hk.1 hk.2).2; omega) (by omega)
    have ih := fun f1 h => rdL_word hk hf hs m (i + 1) f1 (by omega) (by omega) h
    rw [sPats_d h0 hi11, rdL, mt_pat h0 hi11]
    by_cases e : i = k
    · subst e
      rw [if_pos hf]
      refine ⟨fun h1 _ => by rw [if_pos h1], fun h1 h2 h3 => ?_⟩
      rw [if_neg (by omega)]
      have e2 : (if f < -1 - (mtL t n (sArg i) (sp + wlZ i) []).1 then -1 - (mtL t n (sArg i) (sp + wlZ i) []).1 else f) = -1 - (mtL t n (sArg i) (sp + wlZ i) []).1 := by
        split <;> omega
      rw [e2]
      exact (ih _ (by omega)).2 h1 (Int.le_refl _) (fun _ => rfl)
    · have hne := pf_ne (t := t) (n := n) hk hf ⟨h0, hi11⟩ e
      rw [if_neg (show ¬ pfZ t n sp i = wlZ i by omega)]
      have hneg : ¬ (0 : Int) ≤ ((-1 - (sp + pfZ t n sp i), []) : Int × List Int).1 := by
        show ¬ (0 : Int) ≤ -1 - (sp + pfZ t n sp i)
        have := (pf_b (t := t) (n := n) (sp := sp) h0 hi11 hs.2).1
        omega
      rw [if_neg hneg]
      refine ⟨fun h1 h2 => (ih _ ?_).1 h1 (by omega), fun h1 h2 h3 => (ih _ ?_).2 h1 ?_ (fun h4 => ?_)⟩
      · show sp ≤ if f < -1 - (-1 - (sp + pfZ t n sp i)) then -1 - (-1 - (sp + pfZ t n sp i)) else f
        split <;> omega
      · show sp ≤ if f < -1 - (-1 - (sp + pfZ t n sp i)) then -1 - (-1 - (sp + pfZ t n sp i)) else f
        split <;> omega
      · show (if f < -1 - (-1 - (sp + pfZ t n sp i)) then -1 - (-1 - (sp + pfZ t n sp i)) else f) ≤ _
        have := hab.2.2.2 h1
        split <;> omega
      · show (if f < -1 - (-1 - (sp + pfZ t n sp i)) then -1 - (-1 - (sp + pfZ t n sp i)) else f) = _
        have := hab.2.2.2 h1
        have := h3 (by omega)
        split <;> omega
theorem rdR_word {t : Int → Int} {n sp k : Int} (hk : 0 ≤ k ∧ k < 11) (hf : pfZ t n sp k = wlZ k) (hs : 0 ≤ sp ∧ sp ≤ n) : (0 ≤ (mtL t n (sArg k) (sp + wlZ k) []).1 → rdR t n sp = ((mtL t n (sArg k) (sp + wlZ k) []).1, k, (mtL t n (sArg k) (sp + wlZ k) []).2)) ∧ ((mtL t n (sArg k) (sp + wlZ k) []).1 < 0 → (rdR t n sp).1 = (mtL t n (sArg k) (sp + wlZ k) []).1) := by
  have hpb := pf_b (t := t) (n := n) (sp := sp) hk.1 hk.2 hs.2
  have hab := mtL_b (t := t) (n := n) (sArg k) (sp + wlZ k) [] (by have := (wl_b hk.1 hk.2).2; omega) (by omega)
  have h := rdL_word hk hf hs 11 0 sp (by omega) (by omega) (Int.le_refl _)
  exact ⟨fun h1 => h.1 h1 hk.1, fun h1 => h.2 h1 (by have := hab.2.2.2 h1; have := (wl_b hk.1 hk.2).2; omega) (fun h2 => by omega)⟩
theorem rdL_none {t : Int → Int} {n sp : Int} (hs : 0 ≤ sp ∧ sp ≤ n) (hn : ∀ i : Int, 0 ≤ i → i < 11 → pfZ t n sp i < wlZ i) : ∀ (m : Nat) (i : Int), i = 11 - m → 0 ≤ i → (rdL t n sp (sPats.drop i.toNat) i (fmZ t n sp i)).1 = -1 - fmZ t n sp 11
  | 0, i, hi, h0 => by
    have e : i = 11 := by omega
    subst e
    rfl
  | m + 1, i, hi, h0 => by
    have hi11 : i < 11 := by omega
    have h2 := hn i h0 hi11
    rw [sPats_d h0 hi11, rdL, mt_pat h0 hi11, if_neg (show ¬ pfZ t n sp i = wlZ i by omega)]
    have hneg : ¬ (0 : Int) ≤ ((-1 - (sp + pfZ t n sp i), []) : Int × List Int).1 := by
      show ¬ (0 : Int) ≤ -1 - (sp + pfZ t n sp i)
      have := (pf_b (t := t) (n := n) (sp := sp) h0 hi11 hs.2).1
      omega
    rw [if_neg hneg]
    have ih := rdL_none hs hn m (i + 1) (by omega) (by omega)
    rw [fmZ_s h0] at ih
    have e : (if fmZ t n sp i < -1 - (-1 - (sp + pfZ t n sp i)) then -1 - (-1 - (sp + pfZ t n sp i)) else fmZ t n sp i) = if fmZ t n sp i < sp + pfZ t n sp i then sp + pfZ t n sp i else fmZ t n sp i := by
      rw [show -1 - (-1 - (sp + pfZ t n sp i)) = sp + pfZ t n sp i by omega]
    show (rdL t n sp _ (i + 1) (if fmZ t n sp i < -1 - (-1 - (sp + pfZ t n sp i)) then -1 - (-1 - (sp + pfZ t n sp i)) else fmZ t n sp i)).1 = _
    rw [e]
    exact ih
theorem rdR_none {t : Int → Int} {n sp : Int} (hs : 0 ≤ sp ∧ sp ≤ n) (hn : ∀ i : Int, 0 ≤ i → i < 11 → pfZ t n sp i < wlZ i) : (rdR t n sp).1 = -1 - fmZ t n sp 11 := rdL_none hs hn 11 0 (by omega) (by omega)
/-! the numbers of a command, in the model's row -/
def nmP (kd : Int) (vs : List Int) (n1 n2 n3 : Int) : Prop :=
  ((kd = 0 ∨ kd = 1 ∨ kd = 7) → vs = [n1, n2, n3]) ∧ ((kd = 2 ∨ kd = 3 ∨ kd = 8 ∨ kd = 9) → vs = [n1, n2]) ∧ ((kd = 4 ∨ kd = 5) → ∃ b c : Int, vs = [n1, b, c] ∧ n2 = b * c) ∧ ((kd = 6 ∨ kd = 10) → vs = [n3, n1, n2])
def rcP (t : Int → Int) (n sp sp1 wr1 : Int) (nu : Int → Int) (b : Int) : Prop :=
  ((rdR t n sp).1 < 0 → wr1 = -1 - (rdR t n sp).1) ∧ (0 ≤ (rdR t n sp).1 → wr1 = -1 ∧ sp1 = (rdR t n sp).1 ∧ nu b = (rdR t n sp).2.1 ∧ nmP (rdR t n sp).2.1 (rdR t n sp).2.2 (nu (b + 1)) (nu (b + 2)) (nu (b + 3)))
theorem rc_none {t : Int → Int} {n sp sp1 b : Int} {nu : Int → Int} (hs : 0 ≤ sp ∧ sp ≤ n) (hn : ∀ i : Int, 0 ≤ i → i < 11 → pfZ t n sp i < wlZ i) : rcP t n sp sp1 (fmZ t n sp 11) nu b := by
  have h := rdR_none hs hn
  have h2 := fmZ_b (t := t) hs.2 (show (0 : Int) ≤ 11 by decide) (Int.le_refl _)
  exact ⟨fun _ => by omega, fun q => by omega⟩
theorem rc_fin {t : Int → Int} {n sp k s w b : Int} {vs : List Int} {nu : Int → Int} (hk : 0 ≤ k ∧ k < 11) (hf : pfZ t n sp k = wlZ k) (hs : 0 ≤ sp ∧ sp ≤ n) (I : RelI t n (mtL t n (sArg k) (sp + wlZ k) []) [] s w vs) (hb : nu b = k) (hv : nmP k vs (nu (b + 1)) (nu (b + 2)) (nu (b + 3))) : rcP t n sp s w nu b := by
  have h := rdR_word hk hf hs
  have g := rel_0 I
  refine ⟨fun q => ?_, fun q => ?_⟩
  · rcases Int.lt_or_le (mtL t n (sArg k) (sp + wlZ k) []).1 0 with z | z
    · rw [h.2 z]
      exact g.1 z
    · rw [h.1 z] at q
      have q : (mtL t n (sArg k) (sp + wlZ k) []).1 < 0 := q
      omega
  · rcases Int.lt_or_le (mtL t n (sArg k) (sp + wlZ k) []).1 0 with z | z
    · rw [h.2 z] at q
      omega
    · have g2 := g.2 z
      rw [h.1 z]
      exact ⟨g2.1, g2.2.1, hb, by show nmP k (mtL t n (sArg k) (sp + wlZ k) []).2 _ _ _; rw [g2.2.2]; exact hv⟩
theorem RelI_0 {t : Int → Int} {n sp k : Int} (hk : 0 ≤ k ∧ k < 11) (hf : pfZ t n sp k = wlZ k) (hs : 0 ≤ sp ∧ sp ≤ n) : RelI t n (mtL t n (sArg k) (sp + wlZ k) []) (sArg k) (sp + wlZ k) (-1) [] := by
  have hpb := pf_b (t := t) (n := n) (sp := sp) hk.1 hk.2 hs.2
  have := (wl_b hk.1 hk.2).2
  exact Or.inl ⟨rfl, by omega, rfl⟩
/-! what the model does with a command -/
noncomputable def dxT (B : BT) (kd n1 n2 n3 : Int) : Int × BT := if kd = 4 ∨ kd = 5 then exT B kd n1 1 n2 else if kd = 6 ∨ kd = 10 then exT B kd n3 n1 n2 else exT B kd n1 n2 n3
theorem dx_ex {B : BT} {kd n1 n2 n3 : Int} {vs : List Int} (h0 : 0 ≤ kd) (h1 : kd < 11) (h : nmP kd vs n1 n2 n3) : exT B kd (vs.getD 0 0) (vs.getD 1 0) (vs.getD 2 0) = dxT B kd n1 n2 n3 := by
  unfold dxT
  by_cases q : kd = 4 ∨ kd = 5
  · rw [if_pos q]
    obtain ⟨b, c, e, e2⟩ := h.2.2.1 q
    rw [e]
    show exF _ _ _ _ _ _ _ _ kd n1 b c = exF _ _ _ _ _ _ _ _ kd n1 1 n2
    rcases q with q | q
    · rw [ex_4 q, ex_4 q, e2, Int.one_mul]
    · rw [ex_5 q, ex_5 q, e2, Int.one_mul]
  · rw [if_neg q]
    by_cases q2 : kd = 6 ∨ kd = 10
    · rw [if_pos q2, h.2.2.2 q2]
      rfl
    · rw [if_neg q2]
      by_cases q3 : kd = 2 ∨ kd = 3 ∨ kd = 8 ∨ kd = 9
      · rw [h.2.1 q3]
        show exF _ _ _ _ _ _ _ _ kd n1 n2 0 = exF _ _ _ _ _ _ _ _ kd n1 n2 n3
        rcases q3 with q3 | q3 | q3 | q3
        · rw [ex_2 q3, ex_2 q3]
        · rw [ex_3 q3, ex_3 q3]
        · rw [ex_8 q3, ex_8 q3]
        · rw [ex_9 q3, ex_9 q3]
      · rw [h.1 (by omega)]
        rfl
/-- the commands that the model has read, with their numbers -/
def nmC (t : Int → Int) (n : Int) (nu : Int → Int) (i : Int) : Prop := nu (4 * i) = cdZ t n i ∧ nmP (cdZ t n i) (rdR t n (atZ t n i)).2.2 (nu (4 * i + 1)) (nu (4 * i + 2)) (nu (4 * i + 3))
theorem nmC_ex {t : Int → Int} {n c i : Int} {nu : Int → Int} {B : BT} (hn : 0 ≤ n ∧ n ≤ 60) (h : feP t n (-1) c) (h0 : 0 ≤ i) (h1 : i < c) (hm : nmC t n nu i) : dxT B (nu (4 * i)) (nu (4 * i + 1)) (nu (4 * i + 2)) (nu (4 * i + 3)) = exQ t n i B := by
  have h2 := cd_b hn h h0 h1
  rw [hm.1]
  exact (dx_ex h2.1 h2.2 hm.2).symm
theorem nmC_keep {t : Int → Int} {n i : Int} {nu nu1 : Int → Int} (hm : nmC t n nu i) (h : ∀ j : Int, j < 4 * i + 4 → nu1 j = nu j) : nmC t n nu1 i := by
  unfold nmC
  rw [h _ (by omega), h _ (by omega), h _ (by omega), h _ (by omega)]
  exact hm
theorem rSp_b {t : Int → Int} {n a b sp wr : Int} (h : 0 ≤ sp ∧ sp ≤ n) : 0 ≤ rSp t n a b sp wr ∧ rSp t n a b sp wr ≤ n := by
  unfold rSp
  split
  · rename_i q
    have := q.2.1
    omega
  · exact h
theorem rWr_b {t : Int → Int} {n a b sp wr : Int} (h : 0 ≤ sp ∧ sp ≤ n) (hw : -1 ≤ wr ∧ wr ≤ n) : -1 ≤ rWr t n a b sp wr ∧ rWr t n a b sp wr ≤ n := by
  unfold rWr
  (repeat' split) <;> omega
theorem pf_is {t : Int → Int} {n sp w k : Int} (hw : 0 ≤ w ∧ w < 11) (hk : 0 ≤ k ∧ k ≤ wlZ w) (h1 : ∀ j : Nat, (j : Int) < k → sp + j < n ∧ t (sp + j) = (sWrd w).getD j 0) (h2 : k = wlZ w ∨ ¬ (sp + k < n ∧ t (sp + k) = scZ 11 (stZ w + k))) : pfZ t n sp w = k := by
  have hl := (wl_b hw.1 hw.2).1
  have hg := (sWrd_t hw.1 hw.2).2.2.2.2
  have h := pfL_is (t := t) (n := n) (sWrd w) sp k.toNat (by omega) (fun j hj => h1 j (by omega)) (by
    rcases h2 with q | q
    · exact Or.inl (by omega)
    · by_cases e : k = wlZ w
      · exact Or.inl (by omega)
      · right
        rw [hg k.toNat (by omega), Int.toNat_of_nonneg hk.1]
        exact q)
  rw [Int.toNat_of_nonneg hk.1] at h
  exact h
theorem pf_ext {t : Int → Int} {n sp w k : Int} (hw : 0 ≤ w ∧ w < 11) (hk : 0 ≤ k ∧ k < wlZ w) (h1 : ∀ j : Nat, (j : Int) < k → sp + j < n ∧ t (sp + j) = (sWrd w).getD j 0) (h2 : sp + k < n) (h3 : t (sp + k) = scZ 11 (stZ w + k)) : ∀ j : Nat, (j : Int) < k + 1 → sp + j < n ∧ t (sp + j) = (sWrd w).getD j 0 := by
  have hl := (wl_b hw.1 hw.2).1
  have hg := (sWrd_t hw.1 hw.2).2.2.2.2
  intro j hj
  by_cases e : (j : Int) = k
  · rw [e, hg j (by omega), e]
    exact ⟨h2, h3⟩
  · exact h1 j (by omega)
def khP (t : Int → Int) (n sp wr z sp1 wr1 : Int) : Prop := (z = -1 ∧ (∀ i : Int, 0 ≤ i → i < 11 → pfZ t n sp i < wlZ i) ∧ wr1 = fmZ t n sp 11 ∧ sp1 = sp) ∨ ((0 ≤ z ∧ z < 11) ∧ pfZ t n sp z = wlZ z ∧ wr1 = wr ∧ sp1 = sp + wlZ z)
theorem sArg_tab : sArg 0 = [68, 68, 32, 78] ∧ sArg 1 = [68, 68, 32, 68] ∧ sArg 2 = [68, 68] ∧ sArg 3 = [68, 68] ∧ sArg 4 = [68, 83, 68] ∧ sArg 5 = [68, 83, 68] ∧ sArg 6 = [76, 32, 68, 68] ∧ sArg 7 = [68, 68, 32, 76] ∧ sArg 8 = [68, 68] ∧ sArg 9 = [68, 68] ∧ sArg 10 = [68, 32, 68, 68] := by decide +kernel
