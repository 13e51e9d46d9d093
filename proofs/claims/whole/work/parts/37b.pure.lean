/-! ===== the least mark of a group, by rounds ===== -/
theorem ui_id {F : Int → Int} {k : Int} : ui F k (F k) = F := by
  funext j
  unfold ui
  split
  · rename_i h
    rw [h]
  · rfl
def rgI (op : Int → Int) (t k dd : Int) (F : Int → Int) : Prop :=
  (∀ c : Int, 0 ≤ c → c ≤ 24 → (0 ≤ F c ∧ F c ≤ 24) ∧ cnP op (F c) c) ∧ (∀ (n : Nat) (c : Int), 0 ≤ c → c ≤ 24 → ((n : Int) ≤ t ∨ ((n : Int) ≤ t + 1 ∧ c < k)) → wk (cnZ op) n (mz op c) c → F c = mz op c) ∧ ∀ d : Int, 0 ≤ d → d < dd → ¬ cnZ op k d = -1 → F k ≤ F (cnZ op k d)
theorem rgI_0 {op F : Int → Int} (h : ∀ c : Int, 0 ≤ c → c < 25 → F c = c) : rgI op 0 0 0 F := by
  refine ⟨fun c h0 h1 => ?_, fun n c h0 h1 h2 h3 => ?_, fun d h0 h1 => by omega⟩
  · rw [h c h0 (by omega)]
    exact ⟨⟨h0, h1⟩, cnP_rf c⟩
  · have e : n = 0 := by omega
    subst e
    rw [h c h0 (by omega)]
    exact h3
theorem rgI_k {op F : Int → Int} {t k : Int} (ht : 0 ≤ t) (hk : 0 ≤ k ∧ k ≤ 24) (I : rgI op t k 4 F) : rgI op t (k + 1) 0 F := by
  obtain ⟨a1, a2, a3⟩ := I
  refine ⟨a1, fun n c h0 h1 h2 h3 => ?_, fun d h0 h1 => by omega⟩
  by_cases e : c = k
  · subst e
    have hm := mz_spec (op := op) hk
    match n, h2, h3 with
    | 0, _, h3 => exact a2 0 c h0 h1 (Or.inl (by omega)) h3
    | n + 1, h2, ⟨b, d, w1, w2, w3, w4⟩ =>
      have hb := wk_in cnZ_ok (by omega) w1
      have hbc : cnP op b c := by
        have := cnP_e (op := op) (b := b) w2 (by rw [w3]; exact w4)
        rw [w3] at this
        exact this
      have em : mz op b = mz op c := (mz_eq hb hk).mpr hbc
      have eF : F b = mz op b := a2 n b hb.1 hb.2 (Or.inl (by omega)) (by rw [em]; exact w1)
      have hs := cnZ_sym hb w2 w3 w4
      have h5 := a3 ((d + 2) % 4) (by omega) (by omega) (by rw [hs]; omega)
      rw [hs, eF, em] at h5
      have h6 := hm.2.2 (F c) (a1 c h0 h1).1.1 (a1 c h0 h1).2
      omega
  · exact a2 n c h0 h1 (by omega) h3
theorem rgI_t {op F : Int → Int} {t : Int} (I : rgI op t 25 0 F) : rgI op (t + 1) 0 0 F :=
  ⟨I.1, fun n c h0 h1 h2 h3 => I.2.1 n c h0 h1 (by omega) h3, fun d h0 h1 => by omega⟩
theorem rgI_same {op F : Int → Int} {t k dd : Int} (I : rgI op t k dd F) (h : cnZ op k dd = -1) : rgI op t k (dd + 1) F := by
  refine ⟨I.1, I.2.1, fun d h0 h1 h2 => ?_⟩
  by_cases e : d = dd
  · rw [e] at h2
    exact absurd h h2
  · exact I.2.2 d h0 (by omega) h2
theorem rgI_low {op F : Int → Int} {t k dd x y : Int} (I : rgI op t k dd F) (hk : 0 ≤ k ∧ k ≤ 24) (hd : 0 ≤ dd ∧ dd ≤ 3) (hx : cnZ op k dd = x) (hn : ¬ x = -1) (hy : y = if F x < F k then F x else F k) : rgI op t k (dd + 1) (ui F k y) := by
  obtain ⟨a1, a2, a3⟩ := I
  have hxr := cnZ_rg (op := op) (d := dd) hk.1 hk.2
  rw [hx] at hxr
  have y1 : y ≤ F k := by rw [hy]; split <;> omega
  have y2 : y ≤ F x := by rw [hy]; split <;> omega
  have y3 : (0 ≤ y ∧ y ≤ 24) ∧ cnP op y k := by
    rw [hy]
    split
    · refine ⟨(a1 x (by omega) (by omega)).1, cnP_tr (a1 x (by omega) (by omega)).2 (cnP_sy hk ?_)⟩
      have := cnP_e (op := op) (b := k) hd (by rw [hx]; exact hn)
      rw [hx] at this
      exact this
    · exact a1 k hk.1 hk.2
  refine ⟨fun c h0 h1 => ?_, fun n c h0 h1 h2 h3 => ?_, fun d h0 h1 h2 => ?_⟩
  · by_cases e : c = k
    · rw [e, ui_s]
      exact y3
    · rw [ui_n e]
      exact a1 c h0 h1
  · have h5 := a2 n c h0 h1 h2 h3
    by_cases e : c = k
    · subst e
      rw [ui_s]
      have h6 := (mz_spec (op := op) hk).2.2 y y3.1.1 y3.2
      omega
    · rw [ui_n e]
      exact h5
  · rw [ui_s]
    by_cases e : cnZ op k d = k
    · rw [e, ui_s]
      exact Int.le_refl _
    · rw [ui_n e]
      by_cases e2 : d = dd
      · rw [e2, hx]
        exact y2
      · have := a3 d h0 (by omega) h2
        omega
theorem rgI_end {op F : Int → Int} (I : rgI op 25 0 0 F) {c : Int} (h0 : 0 ≤ c) (h1 : c ≤ 24) : F c = mz op c := by
  have hm := mz_spec (op := op) ⟨h0, h1⟩
  obtain ⟨k, hk, hw⟩ := wk_24 (G := cnZ op) cnZ_ok (st := mz op c) (by omega)
  obtain ⟨n, hn⟩ := hm.2.1
  obtain ⟨m, hm1, hm2⟩ := hw n c hn
  exact I.2.1 m c h0 h1 (Or.inl (by omega)) hm2
theorem rgI_ng {op F : Int → Int} (I : rgI op 25 0 0 F) : cnbK (fun c => decide (F c = c)) 25 = ngZ op :=
  cnbK_c (fun j h0 h1 => by show decide (F j = j) = decide (mz op j = j); rw [rgI_end I h0 (by omega)])
/-! ===== the nearest key, from the last to the first ===== -/
def nkP (kp d : Int → Int) (k : Int) : Prop := (0 ≤ kp k ∧ kp k < 25) ∧ d (kp k) < 25
def nkQ (kp d : Int → Int) (lo b : Int) : Prop := (b = -1 ∧ ∀ k : Int, lo ≤ k → k ≤ 5 → ¬ nkP kp d k) ∨ ((lo ≤ b ∧ b ≤ 5) ∧ nkP kp d b ∧ ∀ k : Int, lo ≤ k → k ≤ 5 → nkP kp d k → d (kp b) ≤ d (kp k) ∧ (k < b → d (kp b) < d (kp k)))
theorem nkQ_0 {kp d : Int → Int} : nkQ kp d 6 (-1) := Or.inl ⟨rfl, fun k h0 h1 => by omega⟩
theorem nkQ_t {kp d : Int → Int} {i b : Int} (h : nkQ kp d (i + 1) b) (hi : 0 ≤ i ∧ i ≤ 5) (hp : nkP kp d i) (hb : b = -1 ∨ d (kp i) ≤ d (kp b)) : nkQ kp d i i := by
  refine Or.inr ⟨⟨Int.le_refl _, hi.2⟩, hp, fun k h0 h1 h2 => ⟨?_, fun h3 => by omega⟩⟩
  by_cases e : k = i
  · rw [e]
    exact Int.le_refl _
  · rcases h with ⟨_, g⟩ | ⟨g1, _, g3⟩
    · exact absurd h2 (g k (by omega) h1)
    · have := (g3 k (by omega) h1 h2).1
      omega
theorem nkQ_f {kp d : Int → Int} {i b : Int} (h : nkQ kp d (i + 1) b) (hi : 0 ≤ i) (hn : nkP kp d i → ¬ b = -1 ∧ d (kp b) < d (kp i)) : nkQ kp d i b := by
  rcases h with ⟨g1, g2⟩ | ⟨g1, g2, g3⟩
  · refine Or.inl ⟨g1, fun k h0 h1 h2 => ?_⟩
    by_cases e : k = i
    · rw [e] at h2
      exact (hn h2).1 g1
    · exact g2 k (by omega) h1 h2
  · refine Or.inr ⟨by omega, g2, fun k h0 h1 h2 => ?_⟩
    by_cases e : k = i
    · rw [e] at h2 ⊢
      have := (hn h2).2
      exact ⟨by omega, fun _ => this⟩
    · exact g3 k (by omega) h1 h2
/-- what the class finds, of the first n keys -/
theorem nkN_sp {kp d : Int → Int} : ∀ n : Nat, ((nkN kp d n).1 = -1 ∧ (nkN kp d n).2 = 25 ∧ ∀ k : Int, 0 ≤ k → k < n → ¬ nkP kp d k) ∨ ((0 ≤ (nkN kp d n).1 ∧ (nkN kp d n).1 < n) ∧ (nkN kp d n).2 = d (kp (nkN kp d n).1) ∧ nkP kp d (nkN kp d n).1 ∧ ∀ k : Int, 0 ≤ k → k < n → nkP kp d k → d (kp (nkN kp d n).1) ≤ d (kp k) ∧ (k < (nkN kp d n).1 → d (kp (nkN kp d n).1) < d (kp k)))
  | 0 => Or.inl ⟨rfl, rfl, fun k h0 h1 => by omega⟩
  | n + 1 => by
    have ih := nkN_sp (kp := kp) (d := d) n
    have en : nkN kp d (n + 1) = if (0 ≤ kp n ∧ kp n < 25) ∧ d (kp n) < (nkN kp d n).2 then ((n : Int), d (kp n)) else nkN kp d n := rfl
    by_cases q : (0 ≤ kp n ∧ kp n < 25) ∧ d (kp n) < (nkN kp d n).2
    · rw [en, if_pos q]
      refine Or.inr ⟨⟨by show (0 : Int) ≤ (n : Int); omega, by show (n : Int) < ((n + 1 : Nat) : Int); omega⟩, rfl, ⟨q.1, ?_⟩, fun k h0 h1 h2 => ?_⟩
      · show d (kp (n : Int)) < 25
        rcases ih with ⟨_, g, _⟩ | ⟨_, g, g2, _⟩
        · omega
        · have := g2.2
          omega
      · show d (kp (n : Int)) ≤ d (kp k) ∧ (k < (n : Int) → d (kp (n : Int)) < d (kp k))
        by_cases e : k = n
        · rw [e]
          exact ⟨Int.le_refl _, fun z => by omega⟩
        · rcases ih with ⟨_, _, g⟩ | ⟨_, g, _, g3⟩
          · exact absurd h2 (g k h0 (by omega))
          · have := (g3 k h0 (by omega) h2).1
            exact ⟨by omega, fun _ => by omega⟩
    · rw [en, if_neg q]
      rcases ih with ⟨g1, g2, g3⟩ | ⟨g1, g2, g3, g4⟩
      · refine Or.inl ⟨g1, g2, fun k h0 h1 h2 => ?_⟩
        by_cases e : k = n
        · rw [e] at h2
          exact q ⟨h2.1, by rw [g2]; exact h2.2⟩
        · exact g3 k h0 (by omega) h2
      · refine Or.inr ⟨⟨g1.1, by omega⟩, g2, g3, fun k h0 h1 h2 => ?_⟩
        by_cases e : k = n
        · rw [e] at h2 ⊢
          have : ¬ d (kp (n : Int)) < d (kp (nkN kp d n).1) := fun z => q ⟨h2.1, by rw [g2]; exact z⟩
          exact ⟨by omega, fun z => by omega⟩
        · exact g4 k h0 (by omega) h2
theorem nkQ_eq {kp d : Int → Int} {b : Int} (h : nkQ kp d 0 b) : (nkK kp d 6).1 = b := by
  have g := nkN_sp (kp := kp) (d := d) 6
  show (nkN kp d 6).1 = b
  rcases h with ⟨h1, h2⟩ | ⟨h1, h2, h3⟩
  · rcases g with ⟨g1, _, _⟩ | ⟨g1, _, g3, _⟩
    · omega
    · exact absurd g3 (h2 _ g1.1 (by omega))
  · rcases g with ⟨_, _, g3⟩ | ⟨g1, g2, g3, g4⟩
    · exact absurd h2 (g3 b h1.1 (by omega))
    · have x1 := h3 _ g1.1 (by omega) g3
      have x2 := g4 b h1.1 (by omega) h2
      rcases Int.lt_or_le (nkN kp d 6).1 b with z | z
      · have := x1.2 z
        omega
      · rcases Int.lt_or_le b (nkN kp d 6).1 with y | y
        · have := x2.2 y
          omega
        · omega
/-! ===== the first step, from the last direction to the first ===== -/
theorem fz_step {G : Int → Int → Int} (hG : gOK G) {st c d : Int} (hst : 0 ≤ st ∧ st ≤ 24) (hc : 0 ≤ c ∧ c ≤ 24) (hL : 0 < dz G st c ∧ dz G st c < 25) (hd : 0 ≤ d ∧ d ≤ 3) (hn : ¬ G st d = -1) : mD (dz G (G st d) c) = dz G st c - 1 ↔ fzP G st c d := by
  have hx := hG st d hst.1 hst.2
  have hD := dz_is hG (st := G st d) (by omega) c hc.1 hc.2
  have hD0 := dz_is hG hst c hc.1 hc.2
  have hr := dz_rg hG (st := G st d) (by omega) c
  constructor
  · intro h
    unfold mD at h
    split at h
    · omega
    · refine ⟨hn, ?_⟩
      rw [← h]
      exact (hD.1 (by omega)).2
  · intro h
    have h1 := hD.2 _ h.2
    have h2 := (hD.1 h1.2).2
    have h3 := hD0.2 _ (wk_pre hd hn h2)
    rw [mD_lt (by omega)]
    omega
theorem fz_ex {G : Int → Int → Int} (hG : gOK G) {st c : Int} (hst : 0 ≤ st ∧ st ≤ 24) (hc : 0 ≤ c ∧ c ≤ 24) (hL : 0 < dz G st c ∧ dz G st c < 25) : ∃ d : Int, (0 ≤ d ∧ d ≤ 3) ∧ fzP G st c d := by
  have h := ((dz_is hG hst c hc.1 hc.2).1 (by omega)).2
  have e : (dz G st c).toNat = (dz G st c - 1).toNat + 1 := by omega
  rw [e] at h
  obtain ⟨d, h1, h2, h3⟩ := wk_head h
  exact ⟨d, h1, h2, h3⟩
theorem fz_is {G : Int → Int → Int} {st c f : Int} (hf : 0 ≤ f ∧ f ≤ 3) (h : fzP G st c f) (hn : ∀ d : Int, 0 ≤ d → d < f → ¬ fzP G st c d) : f = fz G st c := by
  have n : ∀ d, 0 ≤ d → d < f → dB (fzP G st c d) = false := fun d g0 g1 => dB_f (hn d g0 g1)
  unfold fz
  have hc : f = 0 ∨ f = 1 ∨ f = 2 ∨ f = 3 := by omega
  cases hc with
  | inl e => rw [e] at h; rw [e, dB_t h, if_pos rfl]
  | inr hc =>
    rw [n 0 (Int.le_refl _) (by omega), if_neg (by decide)]
    cases hc with
    | inl e => rw [e] at h; rw [e, dB_t h, if_pos rfl]
    | inr hc =>
      rw [n 1 (by decide) (by omega), if_neg (by decide)]
      cases hc with
      | inl e => rw [e] at h; rw [e, dB_t h, if_pos rfl]
      | inr e => rw [n 2 (by decide) (by omega), if_neg (by decide), e]
def fsI (G : Int → Int → Int) (st c i f : Int) : Prop := (f = -1 ∧ ∀ d : Int, i ≤ d → d ≤ 3 → ¬ fzP G st c d) ∨ ((i ≤ f ∧ f ≤ 3) ∧ fzP G st c f ∧ ∀ d : Int, i ≤ d → d < f → ¬ fzP G st c d)
theorem fsI_0 {G : Int → Int → Int} {st c : Int} : fsI G st c 4 (-1) := Or.inl ⟨rfl, fun d h0 h1 => by omega⟩
theorem fsI_t {G : Int → Int → Int} {st c i f : Int} (hi : i ≤ 3) (_h : fsI G st c (i + 1) f) (hp : fzP G st c i) : fsI G st c i i := Or.inr ⟨⟨Int.le_refl _, hi⟩, hp, fun d h0 h1 => by omega⟩
theorem fsI_f {G : Int → Int → Int} {st c i f : Int} (h : fsI G st c (i + 1) f) (hp : ¬ fzP G st c i) : fsI G st c i f := by
  rcases h with ⟨h1, h2⟩ | ⟨h1, h2, h3⟩
  · refine Or.inl ⟨h1, fun d d0 d1 => ?_⟩
    by_cases e : d = i
    · rw [e]
      exact hp
    · exact h2 d (by omega) d1
  · refine Or.inr ⟨by omega, h2, fun d d0 d1 => ?_⟩
    by_cases e : d = i
    · rw [e]
      exact hp
    · exact h3 d (by omega) d1
theorem fsI_end {G : Int → Int → Int} (hG : gOK G) {st c f : Int} (hst : 0 ≤ st ∧ st ≤ 24) (hc : 0 ≤ c ∧ c ≤ 24) (hL : 0 < dz G st c ∧ dz G st c < 25) (h : fsI G st c 0 f) : ¬ f = -1 ∧ f = fz G st c := by
  rcases h with ⟨h1, h2⟩ | ⟨h1, h2, h3⟩
  · obtain ⟨d, g1, g2⟩ := fz_ex hG hst hc hL
    exact absurd g2 (h2 d g1.1 g1.2)
  · exact ⟨by omega, fz_is h1 h2 h3⟩
/-! ===== helpful shifts, one by one ===== -/
noncomputable def hhZ (op lk kp wc : Int → Int) (pn nw w cell : Int) (b : Bool) (ln s : Int) : Int := if lfB pn (fsZ b ln) (sdZ b) = true ∧ hsD op lk kp wc nw w cell (fsZ b ln) (sdZ b) s < 25 then 1 else 0
noncomputable def hhK (op lk kp wc : Int → Int) (pn nw w cell : Int) : Int → Int := fun k => hhZ op lk kp wc pn nw w cell (decide (k % 2 = 0)) (k / 4) (if k / 2 % 2 = 0 then 1 else -1)
theorem hhZ_2 {op lk kp wc : Int → Int} {pn nw w cell : Int} {b : Bool} {ln : Int} : hhZ op lk kp wc pn nw w cell b ln 1 + hhZ op lk kp wc pn nw w cell b ln (-1) = hpF op lk kp wc pn nw w cell (fsZ b ln) (sdZ b) := by
  unfold hhZ hpF
  by_cases h : lfB pn (fsZ b ln) (sdZ b) = true
  · rw [if_pos h]
    by_cases h1 : hsD op lk kp wc nw w cell (fsZ b ln) (sdZ b) 1 < 25
    · rw [if_pos ⟨h, h1⟩, if_pos h1]
      by_cases h2 : hsD op lk kp wc nw w cell (fsZ b ln) (sdZ b) (-1) < 25
      · rw [if_pos ⟨h, h2⟩, if_pos h2]
      · rw [if_neg (fun q => h2 q.2), if_neg h2]; rfl
    · rw [if_neg (fun q => h1 q.2), if_neg h1]
      by_cases h2 : hsD op lk kp wc nw w cell (fsZ b ln) (sdZ b) (-1) < 25
      · rw [if_pos ⟨h, h2⟩, if_pos h2]; rfl
      · rw [if_neg (fun q => h2 q.2), if_neg h2]
  · rw [if_neg h, if_neg (fun q => h q.1), if_neg (fun q => h q.1)]
    rfl
theorem hhK_4 {op lk kp wc : Int → Int} {pn nw w cell : Int} : ∀ m : Nat, smN (hhK op lk kp wc pn nw w cell) (4 * m) = smN (fun i => hpF op lk kp wc pn nw w cell (i * 5) 1 + hpF op lk kp wc pn nw w cell i 5) m
  | 0 => rfl
  | m + 1 => by
    have e : 4 * (m + 1) = 4 * m + 1 + 1 + 1 + 1 := by omega
    rw [e, smN, smN, smN, smN, smN, hhK_4 m]
    have k0 : hhK op lk kp wc pn nw w cell ((4 * m : Nat) : Int) = hhZ op lk kp wc pn nw w cell true (m : Int) 1 := by
      unfold hhK
      rw [decide_eq_true (by omega), if_pos (by omega), show ((4 * m : Nat) : Int) / 4 = (m : Int) by omega]
    have k1 : hhK op lk kp wc pn nw w cell ((4 * m + 1 : Nat) : Int) = hhZ op lk kp wc pn nw w cell false (m : Int) 1 := by
      unfold hhK
      rw [decide_eq_false (by omega), if_pos (by omega), show ((4 * m + 1 : Nat) : Int) / 4 = (m : Int) by omega]
    have k2 : hhK op lk kp wc pn nw w cell ((4 * m + 1 + 1 : Nat) : Int) = hhZ op lk kp wc pn nw w cell true (m : Int) (-1) := by
      unfold hhK
      rw [decide_eq_true (by omega), if_neg (by omega), show ((4 * m + 1 + 1 : Nat) : Int) / 4 = (m : Int) by omega]
    have k3 : hhK op lk kp wc pn nw w cell ((4 * m + 1 + 1 + 1 : Nat) : Int) = hhZ op lk kp wc pn nw w cell false (m : Int) (-1) := by
      unfold hhK
      rw [decide_eq_false (by omega), if_neg (by omega), show ((4 * m + 1 + 1 + 1 : Nat) : Int) / 4 = (m : Int) by omega]
    rw [k0, k1, k2, k3]
    have h1 := hhZ_2 (op := op) (lk := lk) (kp := kp) (wc := wc) (pn := pn) (nw := nw) (w := w) (cell := cell) (b := true) (ln := (m : Int))
    have h2 := hhZ_2 (op := op) (lk := lk) (kp := kp) (wc := wc) (pn := pn) (nw := nw) (w := w) (cell := cell) (b := false) (ln := (m : Int))
    have f1 : fsZ true (m : Int) = (m : Int) * 5 := rfl
    have f2 : fsZ false (m : Int) = (m : Int) := rfl
    have f3 : sdZ true = 1 := rfl
    have f4 : sdZ false = 5 := rfl
    rw [f1, f3] at h1
    rw [f2, f4] at h2
    rw [← h1, ← h2]
    omega
theorem hhK_20 {op lk kp wc : Int → Int} {pn nw w cell : Int} : smK (hhK op lk kp wc pn nw w cell) 20 = smK (fun i => hpF op lk kp wc pn nw w cell (i * 5) 1 + hpF op lk kp wc pn nw w cell i 5) 5 := hhK_4 5
theorem hhZ_b {op lk kp wc : Int → Int} {pn nw w cell : Int} {b : Bool} {ln s : Int} : 0 ≤ hhZ op lk kp wc pn nw w cell b ln s ∧ hhZ op lk kp wc pn nw w cell b ln s ≤ 1 := by
  unfold hhZ
  split <;> omega
theorem fs_fin {G : Int → Int → Int} (hG : gOK G) {st c len fo : Int} (hst : 0 ≤ st ∧ st ≤ 24) (hc : 0 ≤ c ∧ c ≤ 24) (hl : len = mD (dz G st c)) (h1 : 0 < len → fsI G st c 0 fo) (h2 : ¬ 0 < len → fo = -1) : (¬ fo = -1 ↔ dz G st c < 25 ∧ ¬ dz G st c = 0) ∧ (dz G st c < 25 ∧ ¬ dz G st c = 0 → fo = fz G st c) := by
  have hr := dz_rg hG hst c
  unfold mD at hl
  by_cases h : 0 < len
  · have hL : 0 < dz G st c ∧ dz G st c < 25 := by
      split at hl <;> omega
    have g := fsI_end hG hst hc hL (h1 h)
    exact ⟨⟨fun _ => by omega, fun _ => g.1⟩, fun _ => g.2⟩
  · have q := h2 h
    have hN : ¬ (dz G st c < 25 ∧ ¬ dz G st c = 0) := by
      split at hl <;> omega
    exact ⟨⟨fun z => absurd q z, fun z => absurd z hN⟩, fun z => absurd z hN⟩
theorem fs_pt {op lk kp : Int → Int} {w st c d len : Int} (hst : 0 ≤ st ∧ st ≤ 24) (hc : 0 ≤ c ∧ c ≤ 24) (hd : 0 ≤ d ∧ d ≤ 3) (hl : len = mD (dz (Gw op lk kp w) st c)) (h0 : 0 < len) (hj : ¬ cnZ op st d = -1) (hm : lk (nbZ st d) = -1 ∨ kp (lk (nbZ st d)) = 25 + w) : mdF (Gw op lk kp w) (nbZ st d) c = len - 1 ↔ fzP (Gw op lk kp w) st c d := by
  have hn := jo_nb hj
  have hg : Gw op lk kp w st d = nbZ st d := (Gw_yes (by rw [hn]; exact hm)).trans hn
  have hnn : ¬ Gw op lk kp w st d = -1 := by
    rw [hg, ← hn]
    exact hj
  have hr := dz_rg (Gw_ok (op := op) (lk := lk) (kp := kp) (w := w)) hst c
  have e : len = dz (Gw op lk kp w) st c := by
    unfold mD at hl
    split at hl <;> omega
  have hL : 0 < dz (Gw op lk kp w) st c ∧ dz (Gw op lk kp w) st c < 25 := by
    unfold mD at hl
    split at hl <;> omega
  have := fz_step Gw_ok hst hc hL hd hnn
  rw [hg] at this
  rw [e]
  exact this
theorem fs_pf {op lk kp : Int → Int} {w st c d : Int} (h : ¬ (¬ cnZ op st d = -1 ∧ (lk (nbZ st d) = -1 ∨ kp (lk (nbZ st d)) = 25 + w))) : ¬ fzP (Gw op lk kp w) st c d := by
  intro q
  by_cases hj : cnZ op st d = -1
  · exact q.1 (Gw_no hj)
  · refine q.1 (Gw_lock (fun z => h ⟨hj, ?_⟩))
    rw [jo_nb hj] at z
    exact z
theorem nkQ_p {kp d : Int → Int} {lo b : Int} (h : nkQ kp d lo b) (hb : ¬ b = -1) : nkP kp d b := by
  rcases h with ⟨g, _⟩ | ⟨_, g, _⟩
  · exact absurd g hb
  · exact g
theorem nkP_iff {G : Int → Int → Int} (hG : gOK G) {st k : Int} {kp : Int → Int} (hst : 0 ≤ st ∧ st ≤ 24) (hk : kp k ≤ 27) : nkP kp (dz G st) k ↔ (0 ≤ kM (kp k) ∧ kM (kp k) ≤ 24) ∧ ¬ mdF G st (kM (kp k)) = -1 := by
  have h1 := kM_c hk
  constructor
  · intro h
    have h2 := h1.mpr h.1
    refine ⟨h2, fun q => ?_⟩
    rw [kM_lt h.1.2] at q
    exact (mD_m1 (dz_rg hG hst (kp k))).mp q h.2
  · intro h
    have h2 := h1.mp h.1
    refine ⟨h2, ?_⟩
    have q := h.2
    rw [kM_lt h2.2] at q
    by_cases z : dz G st (kp k) < 25
    · exact z
    · exact absurd ((mD_m1 (dz_rg hG hst (kp k))).mpr z) q
theorem nkP_far {G : Int → Int → Int} {st k : Int} {kp : Int → Int} (h : nkP kp (dz G st) k) : mdF G st (kM (kp k)) = dz G st (kp k) ∧ 0 ≤ kM (kp k) ∧ kM (kp k) ≤ 24 := by
  rw [kM_lt h.1.2]
  exact ⟨mD_lt h.2, h.1.1, by have := h.1.2; omega⟩
theorem hh_t {op lk kp wc : Int → Int} {pn nw w cell : Int} {b : Bool} {ln s : Int} (h : lfB pn (fsZ b ln) (sdZ b) = true ∧ hsD op lk kp wc nw w cell (fsZ b ln) (sdZ b) s < 25) : decide (hhZ op lk kp wc pn nw w cell b ln s = 1) = true := by
  unfold hhZ
  rw [if_pos h]
  rfl
theorem hh_f {op lk kp wc : Int → Int} {pn nw w cell : Int} {b : Bool} {ln s : Int} (h : ¬ (lfB pn (fsZ b ln) (sdZ b) = true ∧ hsD op lk kp wc nw w cell (fsZ b ln) (sdZ b) s < 25)) : decide (hhZ op lk kp wc pn nw w cell b ln s = 1) = false := by
  unfold hhZ
  rw [if_neg h]
  rfl
theorem hh_0 {op lk kp wc : Int → Int} {pn nw w cell : Int} {b : Bool} {ln s : Int} (h : ¬ hhZ op lk kp wc pn nw w cell b ln s = 1) : hhZ op lk kp wc pn nw w cell b ln s = 0 := by
  have := hhZ_b (op := op) (lk := lk) (kp := kp) (wc := wc) (pn := pn) (nw := nw) (w := w) (cell := cell) (b := b) (ln := ln) (s := s)
  omega
theorem hhK_at {op lk kp wc : Int → Int} {pn nw w cell k s : Int} {b : Bool} (hb : b = decide (k % 2 = 0)) (hs : s = if k / 2 % 2 = 0 then 1 else -1) : hhK op lk kp wc pn nw w cell k = hhZ op lk kp wc pn nw w cell b (k / 4) s := by
  subst hb
  subst hs
  rfl
