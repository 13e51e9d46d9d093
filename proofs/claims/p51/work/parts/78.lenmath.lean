/-! ===== the law's own lengths: what its sweeps hold ===== -/
def f99 (d : Int) : Int := if d < 25 then d else 99
def lnS (G : Int → Int → Int) (st : Int) (F : Int → Int) : Prop := ∀ c, 0 ≤ c → c ≤ 24 → F c = 99 ∨ ((0 ≤ F c ∧ F c ≤ 98) ∧ wk G (F c).toNat st c)
/-- ahead of a sweep, with r of them done -/
def lgI (G : Int → Int → Int) (st : Int) (r : Int) (F : Int → Int) (lb : Bool) : Prop :=
  lnS G st F ∧ (∀ (n : Nat) (c : Int), (n : Int) ≤ r → wk G n st c → F c ≤ n) ∧ (lb = false → ∀ b d, 0 ≤ b → b ≤ 24 → 0 ≤ d → d ≤ 3 → ¬ G b d = -1 → ¬ F b = 99 → F (G b d) ≤ F b + 1)
/-- within one, with k edges done -/
def lsI (G : Int → Int → Int) (st : Int) (k : Int) (F0 F : Int → Int) (lb : Bool) : Prop :=
  lnS G st F ∧ (∀ c, 0 ≤ c → c ≤ 24 → F c ≤ F0 c) ∧ (∀ b d, 0 ≤ b → b ≤ 24 → 0 ≤ d → d ≤ 3 → 4 * b + d < k → ¬ G b d = -1 → ¬ F0 b = 99 → F (G b d) ≤ F0 b + 1) ∧ (lb = false → ∀ c, 0 ≤ c → c ≤ 24 → F c = F0 c) ∧ (lb = true → ∃ c, 0 ≤ c ∧ c ≤ 24 ∧ F c < F0 c)
section LNM
variable {G : Int → Int → Int} {st r k : Int} {F F0 F1 : Int → Int} {lb : Bool}
theorem lnS_rg (h : lnS G st F) {c : Int} (h0 : 0 ≤ c) (h1 : c ≤ 24) : 0 ≤ F c ∧ F c ≤ 99 := by
  rcases h c h0 h1 with h | ⟨h, -⟩ <;> omega
theorem far_step {F : Int → Int} {st i v : Int} (hF : ∀ j : Int, 0 ≤ j → j < i → F j = if j = st then 0 else 99) (hv : v = if i = st then 0 else 99) : ∀ j : Int, 0 ≤ j → j < i + 1 → ui F i v j = if j = st then 0 else 99 := by
  intro j h0 h1
  by_cases e : j = i
  · rw [e, ui_s, hv]
  · rw [ui_n e]
    exact hF j h0 (by omega)
theorem lgI_0 (hst : 0 ≤ st ∧ st ≤ 24) (h : ∀ j, 0 ≤ j → j < 25 → F j = if j = st then 0 else 99) : lgI G st 0 F true := by
  refine ⟨fun c h0 h1 => ?_, fun n c hn hw => ?_, fun h => by cases h⟩
  · rw [h c h0 (by omega)]
    split
    · rename_i e
      exact Or.inr ⟨by omega, e⟩
    · exact Or.inl rfl
  · have e : n = 0 := by omega
    subst e
    have e2 : c = st := hw
    rw [e2, h st hst.1 (by omega), if_pos rfl]
    omega
theorem lsI_0 (h : lgI G st r F lb) : lsI G st 0 F F false := ⟨h.1, fun _ _ _ => Int.le_refl _, fun b d h0 _ h2 _ h4 => by omega, fun _ _ _ _ => rfl, fun h => by cases h⟩
/-- an edge that changes nothing -/
theorem lsI_no (h : lsI G st k F0 F lb) (hk : 0 ≤ k ∧ k < 100) (hn : ¬ F (k / 4) = 99 → ¬ G (k / 4) (k % 4) = -1 → F (G (k / 4) (k % 4)) ≤ F (k / 4) + 1) (hG : gOK G) : lsI G st (k + 1) F0 F lb := by
  obtain ⟨a, b, c, d⟩ := h
  refine ⟨a, b, fun b9 d9 h0 h1 h2 h3 h4 h5 h6 => ?_, d⟩
  by_cases e : 4 * b9 + d9 < k
  · exact c b9 d9 h0 h1 h2 h3 e h5 h6
  · have e1 : k / 4 = b9 := by omega
    have e2 : k % 4 = d9 := by omega
    rw [e1, e2] at hn
    have h7 := b b9 h0 h1
    by_cases e3 : F b9 = 99
    · have h8 := hG b9 d9 h0 h1
      have h10 := lnS_rg a (c := G b9 d9) (by omega) h8.2
      have h11 : F0 b9 = 99 ∨ 99 < F0 b9 := by omega
      rcases h11 with h11 | h11
      · exact absurd h11 h6
      · omega
    · have h9 := hn e3 h5
      omega
/-- an edge that lowers -/
theorem lsI_low (h : lsI G st k F0 F lb) (hk : 0 ≤ k ∧ k < 100) {x : Int} (hx : G (k / 4) (k % 4) = x) (hne : ¬ x = -1) (hG : gOK G) (h9 : ¬ F (k / 4) = 99) (hl : F (k / 4) + 1 < F x) : lsI G st (k + 1) F0 (ui F x (F (k / 4) + 1)) true := by
  obtain ⟨a, b, c, d⟩ := h
  have hb : 0 ≤ k / 4 ∧ k / 4 ≤ 24 := by omega
  have hxr := hG (k / 4) (k % 4) hb.1 hb.2
  rw [hx] at hxr
  have hx0 : 0 ≤ x ∧ x ≤ 24 := by omega
  have hFx := lnS_rg a hx0.1 hx0.2
  have hFb := lnS_rg a hb.1 hb.2
  have hw : wk G (F (k / 4)).toNat st (k / 4) := by
    rcases a (k / 4) hb.1 hb.2 with h | ⟨-, h⟩
    · exact absurd h h9
    · exact h
  refine ⟨fun c9 h0 h1 => ?_, fun c9 h0 h1 => ?_, fun b9 d9 h0 h1 h2 h3 h4 h5 h6 => ?_, (fun h => by cases h), fun _ => ⟨x, hx0.1, hx0.2, by rw [ui_s]; have := b x hx0.1 hx0.2; omega⟩⟩
  · by_cases e : c9 = x
    · rw [e, ui_s]
      refine Or.inr ⟨by omega, ?_⟩
      rw [show (F (k / 4) + 1).toNat = (F (k / 4)).toNat + 1 by omega]
      exact ⟨k / 4, k % 4, hw, by omega, hx, hne⟩
    · rw [ui_n e]
      exact a c9 h0 h1
  · by_cases e : c9 = x
    · rw [e, ui_s]
      have := b x hx0.1 hx0.2
      omega
    · rw [ui_n e]
      exact b c9 h0 h1
  · by_cases e : G b9 d9 = x
    · rw [e, ui_s]
      by_cases e4 : 4 * b9 + d9 < k
      · have h7 := c b9 d9 h0 h1 h2 h3 e4 h5 h6
        rw [e] at h7
        omega
      · have e1 : k / 4 = b9 := by omega
        have h7 := b b9 h0 h1
        rw [e1]
        omega
    · rw [ui_n e]
      by_cases e4 : 4 * b9 + d9 < k
      · exact c b9 d9 h0 h1 h2 h3 e4 h5 h6
      · have e1 : k / 4 = b9 := by omega
        have e2 : k % 4 = d9 := by omega
        rw [e1, e2] at hx
        exact absurd hx e
/-- a sweep's end -/
theorem lsI_end (hG : gOK G) (hst : 0 ≤ st ∧ st ≤ 24) (h0 : lgI G st r F0 true) (hr : 0 ≤ r ∧ r ≤ 24) (h : lsI G st 100 F0 F lb) : lgI G st (r + 1) F lb ∧ (lb = true → r + 1 ≤ 24) := by
  obtain ⟨a0, b0, c0⟩ := h0
  obtain ⟨a, b, c, d, d2⟩ := h
  have key : ∀ (n : Nat) (c9 : Int), (n : Int) ≤ r + 1 → wk G n st c9 → F c9 ≤ n := by
    intro n c9 hn hw
    cases n with
    | zero =>
      have e : c9 = st := hw
      have h1 := b0 0 c9 (by omega) hw
      have h2 := b c9 (by omega) (by omega)
      omega
    | succ n =>
      obtain ⟨b9, d9, h1, h2, h3, h4⟩ := hw
      have h5 := wk_in hG hst h1
      have h6 := b0 n b9 (by omega) h1
      have h7 := c b9 d9 h5.1 h5.2 h2.1 h2.2 (by omega) (by rw [h3]; exact h4) (by omega)
      rw [h3] at h7
      omega
  refine ⟨⟨a, key, fun hl b9 d9 h1 h2 h3 h4 h5 h6 => ?_⟩, fun hl => ?_⟩
  · have e := d hl b9 h1 h2
    rw [e] at h6 ⊢
    exact c b9 d9 h1 h2 h3 h4 (by omega) h5 h6
  · rcases Int.lt_or_le r 24 with h1 | h1
    · omega
    · exfalso
      obtain ⟨c9, g0, g1, g6⟩ := d2 hl
      have g2 := lnS_rg a0 g0 g1
      rcases a c9 g0 g1 with g3 | ⟨g3, g4⟩
      · omega
      · obtain ⟨m0, hm0, hs⟩ := wk_24 hG hst
        obtain ⟨m, hm, hw⟩ := hs _ _ g4
        have g5 := b0 m c9 (by omega) hw
        rcases Int.lt_or_le (F c9) 25 with g7 | g7
        · have g8 := b0 (F c9).toNat c9 (by omega) g4
          omega
        · omega
theorem lgI_end (hG : gOK G) (hst : 0 ≤ st ∧ st ≤ 24) (hr : 0 ≤ r) (h : lgI G st r F false) {c : Int} (h0 : 0 ≤ c) (h1 : c ≤ 24) : F c = f99 (dz G st c) := by
  obtain ⟨a, b, d⟩ := h
  have d := d rfl
  have key : ∀ (n : Nat) (c9 : Int), n ≤ 24 → wk G n st c9 → F c9 ≤ n := by
    intro n
    induction n with
    | zero => intro c9 _ hw; exact b 0 c9 (by omega) hw
    | succ n ih =>
      intro c9 hn ⟨b9, d9, g1, g2, g3, g4⟩
      have g5 := ih b9 (by omega) g1
      have g6 := wk_in hG hst g1
      have g7 := d b9 d9 g6.1 g6.2 g2.1 g2.2 (by rw [g3]; exact g4) (by omega)
      rw [g3] at g7
      omega
  obtain ⟨e1, e2⟩ := dz_is hG hst c h0 h1
  have e3 := dz_rg hG hst c
  have e4 := lnS_rg a h0 h1
  unfold f99
  by_cases q : dz G st c = 25
  · rw [if_neg (by omega)]
    rcases a c h0 h1 with h | ⟨-, h⟩
    · exact h
    · exact absurd q (e2 _ h).2
  · obtain ⟨e5, e6⟩ := e1 q
    rw [if_pos (by omega)]
    have e7 := key _ c (by omega) e6
    rcases a c h0 h1 with h | ⟨e8, h⟩
    · omega
    · have e9 := (e2 _ h).1
      omega
end LNM
section GWS
variable {op lk kp : Int → Int} {w b d : Int}
theorem Gw_yes2 (h : lk (cnZ op b d) = -1 ∨ kp (lk (cnZ op b d)) = 25 + w) : Gw op lk kp w b d = cnZ op b d := by
  unfold Gw
  by_cases e : cnZ op b d = -1
  · rw [if_pos e, e]
  · rw [if_neg e, if_pos h]
theorem Gw_no2 (h : cnZ op b d = -1) : Gw op lk kp w b d = -1 := by
  unfold Gw
  rw [if_pos h]
theorem Gw_lock2 (h : ¬ (lk (cnZ op b d) = -1 ∨ kp (lk (cnZ op b d)) = 25 + w)) : Gw op lk kp w b d = -1 := by
  unfold Gw
  by_cases e : cnZ op b d = -1
  · rw [if_pos e]
  · rw [if_neg e, if_neg h]
theorem Gw_val (h : ¬ Gw op lk kp w b d = -1) : Gw op lk kp w b d = cnZ op b d := by
  by_cases q : lk (cnZ op b d) = -1 ∨ kp (lk (cnZ op b d)) = 25 + w
  · exact Gw_yes2 q
  · exact absurd (Gw_lock2 q) h
end GWS
