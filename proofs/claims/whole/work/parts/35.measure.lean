/-! ===== distances, level by level ===== -/
theorem kM_w {x w : Int} (hw : 0 ≤ w) : kM x = 100 + w ↔ x = 25 + w := by unfold kM; split <;> omega
theorem Gw_no {op lk kp : Int → Int} {w b d : Int} (h : cnZ op b d = -1) : Gw op lk kp w b d = -1 := by
  unfold Gw
  rw [if_pos h]
theorem Gw_lock {op lk kp : Int → Int} {w b d : Int} (h : ¬ (lk (cnZ op b d) = -1 ∨ kp (lk (cnZ op b d)) = 25 + w)) : Gw op lk kp w b d = -1 := by
  unfold Gw
  split
  · rfl
  · first | rfl | rw [if_neg h]
theorem Gw_yes {op lk kp : Int → Int} {w b d : Int} (h : lk (cnZ op b d) = -1 ∨ kp (lk (cnZ op b d)) = 25 + w) : Gw op lk kp w b d = cnZ op b d := by
  unfold Gw
  split
  · rename_i h1
    exact h1.symm
  · first | rfl | rw [if_pos h]
theorem Gw_nb {P : Int → Prop} {op lk kp : Int → Int} {w b d : Int} (h : ¬ Gw op lk kp w b d = -1) (hp : P (nbZ b d)) : P (Gw op lk kp w b d) := by
  by_cases h1 : cnZ op b d = -1
  · exact absurd (Gw_no h1) h
  · by_cases h2 : lk (cnZ op b d) = -1 ∨ kp (lk (cnZ op b d)) = 25 + w
    · rw [Gw_yes h2, jo_nb h1]
      exact hp
    · exact absurd (Gw_lock h2) h
def lvI (G : Int → Int → Int) (st s : Int) (F : Int → Int) : Prop := (∀ c : Int, 0 ≤ c → c ≤ 24 → F c = -1 ∨ ((0 ≤ F c ∧ F c ≤ s) ∧ wk G (F c).toNat st c)) ∧ ∀ (n : Nat) (c : Int), (n : Int) ≤ s → wk G n st c → ¬ F c = -1 ∧ F c ≤ n
def lvJ (G : Int → Int → Int) (st s k dd : Int) (F0 F : Int → Int) : Prop := (∀ c : Int, ¬ F0 c = -1 → F c = F0 c) ∧ (∀ c : Int, 0 ≤ c → c ≤ 24 → F0 c = -1 → F c = -1 ∨ (F c = s + 1 ∧ wk G (s + 1).toNat st c)) ∧ ∀ b d : Int, 0 ≤ b → b ≤ 24 → 0 ≤ d → d ≤ 3 → (b < k ∨ (b = k ∧ d < dd)) → F0 b = s → ¬ G b d = -1 → ¬ F (G b d) = -1
theorem lvI_0 {G : Int → Int → Int} {st : Int} {F : Int → Int} (hst : 0 ≤ st ∧ st ≤ 24) (h : ∀ c : Int, 0 ≤ c → c < 25 → F c = if c = st then 0 else -1) : lvI G st 0 F := by
  refine ⟨fun c c0 c1 => ?_, fun n c hn hw => ?_⟩
  · rw [h c c0 (by omega)]
    by_cases e : c = st
    · rw [if_pos e]
      exact Or.inr ⟨⟨by decide, by decide⟩, e⟩
    · rw [if_neg e]
      exact Or.inl rfl
  · have e : n = 0 := by omega
    subst e
    have e2 : c = st := hw
    rw [h c (by omega) (by omega), if_pos e2]
    exact ⟨by decide, by decide⟩
theorem lvJ_0 {G : Int → Int → Int} {st s : Int} {F : Int → Int} : lvJ G st s 0 0 F F := ⟨fun _ _ => rfl, fun _ _ _ h => Or.inl h, fun b d h0 h1 h2 h3 h4 => by omega⟩
theorem lvJ_next {G : Int → Int → Int} {st s k : Int} {F0 F : Int → Int} (h : lvJ G st s k 4 F0 F) : lvJ G st s (k + 1) 0 F0 F := ⟨h.1, h.2.1, fun b d h0 h1 h2 h3 h4 => h.2.2 b d h0 h1 h2 h3 (by omega)⟩
theorem lvJ_f0 {G : Int → Int → Int} {st s k dd : Int} {F0 F : Int → Int} (h : lvJ G st s k dd F0 F) (hs : 0 ≤ s) (hk : 0 ≤ k ∧ k ≤ 24) (e : F k = s) : F0 k = s := by
  by_cases q : F0 k = -1
  · rcases h.2.1 k hk.1 hk.2 q with z | z <;> omega
  · rw [← h.1 k q]
    exact e
theorem lvJ_skip {G : Int → Int → Int} {st s k dd : Int} {F0 F : Int → Int} (h : lvJ G st s k dd F0 F) (hs : 0 ≤ s) (e : ¬ F k = s) : lvJ G st s (k + 1) 0 F0 F := by
  refine ⟨h.1, h.2.1, fun b d h0 h1 h2 h3 h4 h5 h6 => ?_⟩
  by_cases q : b = k
  · subst q
    exact absurd ((h.1 b (by omega)).trans h5) e
  · exact h.2.2 b d h0 h1 h2 h3 (by omega) h5 h6
theorem lvJ_same {G : Int → Int → Int} {st s k dd : Int} {F0 F : Int → Int} (h : lvJ G st s k dd F0 F) (e : ¬ G k dd = -1 → ¬ F (G k dd) = -1) : lvJ G st s k (dd + 1) F0 F := by
  refine ⟨h.1, h.2.1, fun b d h0 h1 h2 h3 h4 h5 h6 => ?_⟩
  by_cases q : b = k ∧ d = dd
  · obtain ⟨rfl, rfl⟩ := q
    exact e h6
  · exact h.2.2 b d h0 h1 h2 h3 (by omega) h5 h6
theorem lvJ_add {G : Int → Int → Int} {st s k dd x : Int} {F0 F : Int → Int} (I : lvI G st s F0) (h : lvJ G st s k dd F0 F) (hs : 0 ≤ s) (hk : 0 ≤ k ∧ k ≤ 24) (hd : 0 ≤ dd ∧ dd ≤ 3) (hx : G k dd = x) (hn : ¬ x = -1) (hF : F x = -1) (e : F k = s) : lvJ G st s k (dd + 1) F0 (ui F x (s + 1)) := by
  have hk0 := lvJ_f0 h hs hk e
  have hw : wk G (s + 1).toNat st x := by
    rcases I.1 k hk.1 hk.2 with q | q
    · omega
    · rw [show (s + 1).toNat = s.toNat + 1 by omega]
      rw [hk0] at q
      exact ⟨k, dd, q.2, hd, hx, hn⟩
  refine ⟨fun c hc => ?_, fun c c0 c1 hc => ?_, fun b d h0 h1 h2 h3 h4 h5 h6 => ?_⟩
  · have q := h.1 c hc
    rw [ui_n (fun z => by rw [z] at q hc; exact hc (q ▸ hF))]
    exact q
  · by_cases q : c = x
    · subst q
      rw [ui_s]
      exact Or.inr ⟨rfl, hw⟩
    · rw [ui_n q]
      exact h.2.1 c c0 c1 hc
  · by_cases q : G b d = x
    · rw [q, ui_s]
      omega
    · rw [ui_n q]
      refine h.2.2 b d h0 h1 h2 h3 ?_ h5 h6
      by_cases q2 : b = k ∧ d = dd
      · obtain ⟨rfl, rfl⟩ := q2
        exact absurd hx q
      · omega
theorem lvI_next {G : Int → Int → Int} (hG : gOK G) {st s : Int} {F0 F : Int → Int} (hst : 0 ≤ st ∧ st ≤ 24) (hs : 0 ≤ s) (I : lvI G st s F0) (h : lvJ G st s 25 0 F0 F) : lvI G st (s + 1) F := by
  refine ⟨fun c c0 c1 => ?_, fun n c hn hw => ?_⟩
  · by_cases q : F0 c = -1
    · rcases h.2.1 c c0 c1 q with z | z
      · exact Or.inl z
      · rw [z.1]
        exact Or.inr ⟨by omega, z.2⟩
    · rcases I.1 c c0 c1 with z | z
      · exact absurd z q
      · rw [h.1 c q]
        exact Or.inr ⟨by omega, z.2⟩
  · by_cases hns : (n : Int) ≤ s
    · have q := I.2 n c hns hw
      rw [h.1 c q.1]
      exact q
    · have e : n = s.toNat + 1 := by omega
      subst e
      have hcr := wk_in hG hst hw
      obtain ⟨b, d, hb, hd, hbd, hc⟩ := hw
      have hbr := wk_in hG hst hb
      have q := I.2 s.toNat b (by omega) hb
      rcases I.1 b hbr.1 hbr.2 with z | z
      · exact absurd z q.1
      · by_cases e2 : F0 b = s
        · have g := h.2.2 b d hbr.1 hbr.2 hd.1 hd.2 (by omega) e2 (by rw [hbd]; exact hc)
          rw [hbd] at g
          refine ⟨g, ?_⟩
          by_cases e3 : F0 c = -1
          · rcases h.2.1 c hcr.1 hcr.2 e3 with y | y
            · exact absurd y g
            · omega
          · rw [h.1 c e3]
            rcases I.1 c hcr.1 hcr.2 with y | y
            · exact absurd y e3
            · omega
        · have g := I.2 ((F0 b).toNat + 1) c (by omega) ⟨b, d, z.2, hd, hbd, hc⟩
          rw [h.1 c g.1]
          exact ⟨g.1, by omega⟩
theorem lvI_end {G : Int → Int → Int} (hG : gOK G) {st : Int} {F : Int → Int} (hst : 0 ≤ st ∧ st ≤ 24) (I : lvI G st 25 F) {c : Int} (h0 : 0 ≤ c) (h1 : c ≤ 24) : F c = mD (dz G st c) := by
  have hD : isD G st (fun c => if F c = -1 then 25 else F c) := by
    obtain ⟨k, hk, hw⟩ := wk_24 hG hst
    intro a a0 a1
    have low : ∀ n : Nat, wk G n st a → ¬ F a = -1 ∧ F a ≤ n ∧ F a ≤ 24 := by
      intro n hn
      obtain ⟨m, hm, hm2⟩ := hw n a hn
      have q := I.2 m a (by omega) hm2
      refine ⟨q.1, ?_, by omega⟩
      by_cases z : (n : Int) ≤ 25
      · exact (I.2 n a z hn).2
      · omega
    refine ⟨fun h => ?_, fun n hn => ?_⟩
    · by_cases e : F a = -1
      · exact absurd (if_pos e) h
      · show (0 ≤ (if F a = -1 then 25 else F a) ∧ (if F a = -1 then 25 else F a) ≤ 24) ∧ wk G (if F a = -1 then 25 else F a).toNat st a
        rw [if_neg e]
        rcases I.1 a a0 a1 with z | z
        · exact absurd z e
        · exact ⟨⟨z.1.1, (low _ z.2).2.2⟩, z.2⟩
    · have q := low n hn
      show (if F a = -1 then 25 else F a) ≤ n ∧ ¬ (if F a = -1 then 25 else F a) = 25
      rw [if_neg q.1]
      exact ⟨q.2.1, by omega⟩
  rw [← dz_of hD h0 h1]
  show F c = mD (if F c = -1 then 25 else F c)
  unfold mD
  by_cases e : F c = -1
  · rw [if_pos e, if_pos (by decide)]
    exact e
  · rw [if_neg e]
    have r := (hD c h0 h1).1 (by
      show ¬ (if F c = -1 then 25 else F c) = 25
      rw [if_neg e]
      rcases I.1 c h0 h1 with z | z
      · exact absurd z e
      · obtain ⟨k, hk, hw⟩ := wk_24 hG hst
        obtain ⟨m, hm, hm2⟩ := hw _ c z.2
        have := (I.2 m c (by omega) hm2).2
        omega)
    have r2 := r.1.2
    simp only [if_neg e] at r2
    rw [if_neg (by omega)]
noncomputable def mdF (G : Int → Int → Int) (st : Int) : Int → Int := fun c => mD (dz G st c)
theorem mdF_rg {G : Int → Int → Int} (hG : gOK G) {st : Int} (hst : 0 ≤ st ∧ st ≤ 24) (c : Int) : -1 ≤ mdF G st c ∧ mdF G st c ≤ 24 := by
  have h := dz_rg hG hst c
  unfold mdF mD
  split <;> omega
