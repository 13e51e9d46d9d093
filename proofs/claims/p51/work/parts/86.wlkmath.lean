/-! ===== the law's walkers: the nearest key, the first step ===== -/
theorem f99_c {d : Int} : (d < 25 ∧ f99 d = d) ∨ (¬ d < 25 ∧ f99 d = 99) := by
  unfold f99
  by_cases h : d < 25
  · exact Or.inl ⟨h, if_pos h⟩
  · exact Or.inr ⟨h, if_neg h⟩
def nrP (kp D : Int → Int) (j : Int) : Prop := (0 ≤ kp j ∧ kp j < 25) ∧ D (kp j) < 25
/-- of the keys above i: b is the nearest, of several the first -/
def bsP (kp D : Int → Int) (lo hi b : Int) : Prop := (lo < b ∧ b ≤ hi) ∧ nrP kp D b ∧ ∀ j, lo < j → j ≤ hi → nrP kp D j → D (kp b) < D (kp j) ∨ (D (kp b) = D (kp j) ∧ b ≤ j)
def nbI (kp D : Int → Int) (i be : Int) : Prop := (be = -2004 ∧ ∀ j, i < j → j ≤ 5 → ¬ nrP kp D j) ∨ (bsP kp D i 5 (be - 97) ∧ 0 ≤ be)
section NBS
variable {kp D : Int → Int} {i be : Int}
theorem nbI_0 : nbI kp D 5 (-2004) := Or.inl ⟨rfl, fun j h0 h1 => by omega⟩
theorem nbI_no (h : nbI kp D i be) (hn : ¬ nrP kp D i) : nbI kp D (i - 1) be := by
  rcases h with ⟨h1, h2⟩ | ⟨⟨h1, h2, h3⟩, h4⟩
  · refine Or.inl ⟨h1, fun j h0 h9 => ?_⟩
    by_cases e : j = i
    · rw [e]; exact hn
    · exact h2 j (by omega) h9
  · refine Or.inr ⟨⟨by omega, h2, fun j h0 h9 hj => ?_⟩, h4⟩
    by_cases e : j = i
    · rw [e] at hj; exact absurd hj hn
    · exact h3 j (by omega) h9 hj
theorem nbI_new (h : nbI kp D i be) (hi : 0 ≤ i ∧ i ≤ 5) (hn : nrP kp D i) (hb : be < 0) : nbI kp D (i - 1) (97 + i) := by
  rcases h with ⟨h1, h2⟩ | ⟨-, h4⟩
  · refine Or.inr ⟨⟨by omega, by rw [show 97 + i - 97 = i by omega]; exact hn, fun j h0 h9 hj => ?_⟩, by omega⟩
    by_cases e : j = i
    · rw [e, show 97 + i - 97 = i by omega]; exact Or.inr ⟨rfl, Int.le_refl _⟩
    · exact absurd hj (h2 j (by omega) h9)
  · omega
theorem nbI_less (h : nbI kp D i be) (hi : 0 ≤ i ∧ i ≤ 5) (hn : nrP kp D i) (hb : ¬ be < 0) (hl : D (kp i) ≤ D (kp (be - 97))) : nbI kp D (i - 1) (97 + i) := by
  rcases h with ⟨h1, h2⟩ | ⟨⟨h1, h2, h3⟩, h4⟩
  · omega
  · refine Or.inr ⟨⟨by omega, by rw [show 97 + i - 97 = i by omega]; exact hn, fun j h0 h9 hj => ?_⟩, by omega⟩
    rw [show 97 + i - 97 = i by omega]
    by_cases e : j = i
    · rw [e]; exact Or.inr ⟨rfl, Int.le_refl _⟩
    · rcases h3 j (by omega) h9 hj with q | q <;> omega
theorem nbI_keep (h : nbI kp D i be) (hi : 0 ≤ i ∧ i ≤ 5) (hb : ¬ be < 0) (hl : D (kp (be - 97)) < D (kp i)) : nbI kp D (i - 1) be := by
  rcases h with ⟨h1, h2⟩ | ⟨⟨h1, h2, h3⟩, h4⟩
  · omega
  · refine Or.inr ⟨⟨by omega, h2, fun j h0 h9 hj => ?_⟩, h4⟩
    by_cases e : j = i
    · rw [e]; exact Or.inl hl
    · exact h3 j (by omega) h9 hj
/-- the key that stands best -/
theorem nbI_b (h : nbI kp D i be) (hi : -1 ≤ i) (hb : ¬ be < 0) : (0 ≤ be - 97 ∧ be - 97 ≤ 5) ∧ aKp kp (be - 97) = kp (be - 97) ∧ (0 ≤ kp (be - 97) ∧ kp (be - 97) < 25) ∧ D (kp (be - 97)) < 25 := by
  rcases h with ⟨h1, h2⟩ | ⟨⟨h1, h2, h3⟩, h4⟩
  · omega
  · obtain ⟨h5, h6⟩ := h2
    exact ⟨by omega, by unfold aKp; rw [if_pos h5], h5, h6⟩
theorem nbI_rg (h : nbI kp D i be) (hi : -1 ≤ i) : -2004 ≤ be ∧ be ≤ 102 := by
  rcases h with ⟨h1, h2⟩ | ⟨⟨h1, h2, h3⟩, h4⟩ <;> omega
theorem nk_spec : ∀ n : Nat, ((nkN kp D n).1 = -1 ∧ (nkN kp D n).2 = 25 ∧ ∀ j, -1 < j → j ≤ (n : Int) - 1 → ¬ nrP kp D j) ∨ (bsP kp D (-1) ((n : Int) - 1) (nkN kp D n).1 ∧ (nkN kp D n).2 = D (kp (nkN kp D n).1))
  | 0 => Or.inl ⟨rfl, rfl, fun j h0 h1 => by omega⟩
  | n + 1 => by
    have ih := nk_spec n
    have e : nkN kp D (n + 1) = if (0 ≤ kp (n : Int) ∧ kp (n : Int) < 25) ∧ D (kp (n : Int)) < (nkN kp D n).2 then ((n : Int), D (kp (n : Int))) else nkN kp D n := rfl
    rw [e]
    by_cases q : (0 ≤ kp (n : Int) ∧ kp (n : Int) < 25) ∧ D (kp (n : Int)) < (nkN kp D n).2
    · rw [if_pos q]
      refine Or.inr ⟨⟨by show (-1 : Int) < (n : Int) ∧ (n : Int) ≤ ((n + 1 : Nat) : Int) - 1; omega, ?_, fun j h0 h1 hj => ?_⟩, rfl⟩
      · refine ⟨q.1, ?_⟩
        rcases ih with ⟨i1, i2, i3⟩ | ⟨⟨i1, i2, i3⟩, i4⟩
        · show D (kp (n : Int)) < 25
          omega
        · have := i2.2
          show D (kp (n : Int)) < 25
          omega
      · show D (kp (n : Int)) < D (kp j) ∨ (D (kp (n : Int)) = D (kp j) ∧ (n : Int) ≤ j)
        by_cases e2 : j = (n : Int)
        · rw [e2]; exact Or.inr ⟨rfl, Int.le_refl _⟩
        · rcases ih with ⟨i1, i2, i3⟩ | ⟨⟨i1, i2, i3⟩, i4⟩
          · exact absurd hj (i3 j h0 (by omega))
          · rcases i3 j h0 (by omega) hj with z | z <;> omega
    · rw [if_neg q]
      rcases ih with ⟨i1, i2, i3⟩ | ⟨⟨i1, i2, i3⟩, i4⟩
      · refine Or.inl ⟨i1, i2, fun j h0 h1 hj => ?_⟩
        by_cases e2 : j = (n : Int)
        · rw [e2] at hj
          exact q ⟨hj.1, by rw [i2]; exact hj.2⟩
        · exact i3 j h0 (by omega) hj
      · refine Or.inr ⟨⟨by omega, i2, fun j h0 h1 hj => ?_⟩, i4⟩
        by_cases e2 : j = (n : Int)
        · rw [e2] at hj ⊢
          have : ¬ D (kp (n : Int)) < (nkN kp D n).2 := fun z => q ⟨hj.1, z⟩
          omega
        · exact i3 j h0 (by omega) hj
theorem nb_end (h : nbI kp D (-1) be) : be = aNk (nkK kp D 6).1 := by
  have hs : ((nkK kp D 6).1 = -1 ∧ (nkK kp D 6).2 = 25 ∧ ∀ j, -1 < j → j ≤ (6 : Int) - 1 → ¬ nrP kp D j) ∨ (bsP kp D (-1) ((6 : Int) - 1) (nkK kp D 6).1 ∧ (nkK kp D 6).2 = D (kp (nkK kp D 6).1)) := nk_spec 6
  generalize (nkK kp D 6) = q at hs
  unfold aNk
  rcases h with ⟨h1, h2⟩ | ⟨⟨h1, h2, h3⟩, h4⟩
  · rcases hs with ⟨i1, i2, i3⟩ | ⟨⟨i1, i2, i3⟩, i4⟩
    · rw [if_pos i1]; exact h1
    · exact absurd i2 (h2 _ i1.1 (by omega))
  · rcases hs with ⟨i1, i2, i3⟩ | ⟨⟨i1, i2, i3⟩, i4⟩
    · exact absurd h2 (i3 _ h1.1 (by omega))
    · rw [if_neg (by omega)]
      have a1 := h3 q.1 i1.1 (by omega) i2
      have a2 := i3 (be - 97) h1.1 (by omega) h2
      omega
end NBS
/-- .. of the directions above d: the lowest one that begins a shortest path -/
def fsI (G : Int → Int → Int) (st to d stp : Int) : Prop := (stp = -2004 ∧ ∀ e, d < e → e ≤ 3 → ¬ ((0 < dz G st to ∧ dz G st to < 25) ∧ fzP G st to e)) ∨ ((d < stp ∧ stp ≤ 3) ∧ ((0 < dz G st to ∧ dz G st to < 25) ∧ fzP G st to stp) ∧ ∀ e, d < e → e < stp → ¬ fzP G st to e)
section FSS
variable {G : Int → Int → Int} {st to d stp x : Int}
theorem fsI_0 : fsI G st to 3 (-2004) := Or.inl ⟨rfl, fun e h0 h1 => by omega⟩
theorem fsI_no (h : fsI G st to d stp) (hn : ¬ ((0 < dz G st to ∧ dz G st to < 25) ∧ fzP G st to d)) : fsI G st to (d - 1) stp := by
  rcases h with ⟨h1, h2⟩ | ⟨h1, h2, h3⟩
  · refine Or.inl ⟨h1, fun e h0 h9 => ?_⟩
    by_cases q : e = d
    · rw [q]; exact hn
    · exact h2 e (by omega) h9
  · refine Or.inr ⟨by omega, h2, fun e h0 h9 => ?_⟩
    by_cases q : e = d
    · rw [q]; exact fun z => hn ⟨h2.1, z⟩
    · exact h3 e (by omega) h9
theorem fsI_new (h : fsI G st to d stp) (hd : 0 ≤ d ∧ d ≤ 3) (hn : (0 < dz G st to ∧ dz G st to < 25) ∧ fzP G st to d) : fsI G st to (d - 1) d := Or.inr ⟨by omega, hn, fun e h0 h9 => by omega⟩
theorem fsI_rg (h : fsI G st to d stp) (hd : -1 ≤ d) : -2004 ≤ stp ∧ stp ≤ 3 := by
  rcases h with ⟨h1, h2⟩ | ⟨h1, h2, h3⟩ <;> omega
/-- one step on: its shortest path is one shorter -/
theorem lz_eq (hG : gOK G) (hst : 0 ≤ st ∧ st ≤ 24) (ht : 0 ≤ to ∧ to ≤ 24) (hd : 0 ≤ d ∧ d ≤ 3) (hx : G st d = x) (hne : ¬ x = -1) (hD : 0 < dz G st to ∧ dz G st to < 25) : f99 (dz G x to) = dz G st to - 1 ↔ fzP G st to d := by
  subst hx
  have hxr := hG st d hst.1 hst.2
  have hx0 : 0 ≤ G st d ∧ G st d ≤ 24 := by omega
  obtain ⟨a1, a2⟩ := dz_is hG hx0 to ht.1 ht.2
  obtain ⟨b1, b2⟩ := dz_is hG hst to ht.1 ht.2
  have ar := dz_rg hG hx0 to
  have key : ∀ n : Nat, wk G n (G st d) to → dz G st to ≤ n + 1 := by
    intro n hn
    have := (b2 (n + 1) (wk_pre hd hne hn)).1
    omega
  constructor
  · intro h
    rcases f99_c (d := dz G (G st d) to) with ⟨q, q2⟩ | ⟨q, q2⟩
    · obtain ⟨-, a3⟩ := a1 (by omega)
      refine ⟨hne, ?_⟩
      rw [show (dz G st to - 1).toNat = (dz G (G st d) to).toNat by omega]
      exact a3
    · omega
  · rintro ⟨-, h⟩
    obtain ⟨c1, c2⟩ := a2 _ h
    obtain ⟨c3, c4⟩ := a1 c2
    have c5 := key _ c4
    rcases f99_c (d := dz G (G st d) to) with ⟨q, q2⟩ | ⟨q, q2⟩
    · omega
    · omega
theorem fs_end (hG : gOK G) (hst : 0 ≤ st ∧ st ≤ 24) (ht : 0 ≤ to ∧ to ≤ 24) (h : fsI G st to (-1) stp) : stp = aFz (dz G st to) (fz G st to) := by
  have hr := dz_rg hG hst to
  unfold aFz
  rcases h with ⟨h1, h2⟩ | ⟨h1, h2, h3⟩
  · by_cases q : dz G st to < 25 ∧ ¬ dz G st to = 0
    · exfalso
      obtain ⟨b1, b2⟩ := dz_is hG hst to ht.1 ht.2
      obtain ⟨-, b3⟩ := b1 (by omega)
      rw [show (dz G st to).toNat = (dz G st to - 1).toNat + 1 by omega] at b3
      obtain ⟨e, e1, e2, e3⟩ := wk_head b3
      exact h2 e (by omega) e1.2 ⟨by omega, e2, e3⟩
    · rw [if_neg q]; exact h1
  · rw [if_pos ⟨by omega, by omega⟩]
    unfold fz
    rcases (show stp = 0 ∨ stp = 1 ∨ stp = 2 ∨ stp = 3 by omega) with e | e | e | e
    · rw [e] at h2 ⊢
      rw [if_pos (dB_t h2.2)]
    · rw [e] at h2 h3 ⊢
      rw [if_neg (by rw [dB_f (h3 0 (by omega) (by omega))]; decide), if_pos (dB_t h2.2)]
    · rw [e] at h2 h3 ⊢
      rw [if_neg (by rw [dB_f (h3 0 (by omega) (by omega))]; decide), if_neg (by rw [dB_f (h3 1 (by omega) (by omega))]; decide), if_pos (dB_t h2.2)]
    · rw [e] at h2 h3 ⊢
      rw [if_neg (by rw [dB_f (h3 0 (by omega) (by omega))]; decide), if_neg (by rw [dB_f (h3 1 (by omega) (by omega))]; decide), if_neg (by rw [dB_f (h3 2 (by omega) (by omega))]; decide)]
end FSS
theorem aCa_eq {kp : Int → Int} {j w : Int} (hw : 0 ≤ w) : aCa kp j = w ↔ kp j = 25 + w := by
  unfold aCa
  split <;> omega
theorem aKp_n {kp D : Int → Int} {j : Int} (h : aKp kp j < 0) : ¬ nrP kp D j := by
  unfold aKp at h
  split at h
  · omega
  · rename_i q
    exact fun z => q z.1
theorem aKp_y {kp : Int → Int} {j : Int} (h : ¬ aKp kp j < 0) : aKp kp j = kp j ∧ 0 ≤ kp j ∧ kp j < 25 := by
  unfold aKp at h ⊢
  by_cases q : 0 ≤ kp j ∧ kp j < 25
  · rw [if_pos q]
    exact ⟨rfl, q⟩
  · rw [if_neg q] at h
    omega
theorem cntK_0 {f : Int → Int} {x : Int} : cntK f x 0 = 0 := rfl
