/-! groups of cells -/
theorem nbZ_sym {b d c : Int} (hb : 0 ≤ b ∧ b ≤ 24) (hd : 0 ≤ d ∧ d ≤ 3) (h : nbZ b d = c) (hc : ¬ c = -1) : nbZ c ((d + 2) % 4) = b := by
  subst h
  rcases (show d = 0 ∨ d = 1 ∨ d = 2 ∨ d = 3 by omega) with rfl | rfl | rfl | rfl
  all_goals (simp [nbZ] at hc ⊢; omega)
theorem cnZ_sym {op : Int → Int} {b d c : Int} (hb : 0 ≤ b ∧ b ≤ 24) (hd : 0 ≤ d ∧ d ≤ 3) (h : cnZ op b d = c) (hc : ¬ c = -1) : cnZ op c ((d + 2) % 4) = b := by
  unfold cnZ at h
  by_cases h1 : nbZ b d = -1
  · rw [if_pos h1] at h; exact absurd h.symm hc
  · rw [if_neg h1] at h
    by_cases h2 : opnP (op b) d ∧ opnP (op (nbZ b d)) ((d + 2) % 4)
    · rw [if_pos h2] at h
      have h3 := nbZ_sym hb hd h hc
      rw [h] at h2
      unfold cnZ
      have e : ((d + 2) % 4 + 2) % 4 = d := by omega
      rw [h3, if_neg (by omega), e, if_pos ⟨h2.2, h2.1⟩]
    · rw [if_neg h2] at h; exact absurd h.symm hc
def cnP (op : Int → Int) (a c : Int) : Prop := ∃ n : Nat, wk (cnZ op) n a c
theorem cnZ_ok {op : Int → Int} : gOK (cnZ op) := fun _ _ h0 h1 => cnZ_rg h0 h1
theorem cnP_rf {op : Int → Int} (a : Int) : cnP op a a := ⟨0, rfl⟩
theorem wk_app {G : Int → Int → Int} {a b : Int} {n : Nat} (h : wk G n a b) : ∀ {m : Nat} {c : Int}, wk G m b c → ∃ k : Nat, wk G k a c
  | 0, c, h2 => ⟨n, by rw [show c = b from h2]; exact h⟩
  | m + 1, c, ⟨x, d, h1, h2, h3, h4⟩ => by
    obtain ⟨k, hk⟩ := wk_app h h1
    exact ⟨k + 1, x, d, hk, h2, h3, h4⟩
theorem cnP_tr {op : Int → Int} {a b c : Int} (h : cnP op a b) (h2 : cnP op b c) : cnP op a c := by
  obtain ⟨n, hn⟩ := h
  obtain ⟨m, hm⟩ := h2
  exact wk_app hn hm
theorem cnP_e {op : Int → Int} {b d : Int} (hd : 0 ≤ d ∧ d ≤ 3) (h : ¬ cnZ op b d = -1) : cnP op b (cnZ op b d) := ⟨1, b, d, rfl, hd, rfl, h⟩
theorem cnP_in {op : Int → Int} {a c : Int} (ha : 0 ≤ a ∧ a ≤ 24) (h : cnP op a c) : 0 ≤ c ∧ c ≤ 24 := by
  obtain ⟨n, hn⟩ := h
  exact wk_in cnZ_ok ha hn
theorem cnP_sy {op : Int → Int} {a c : Int} (ha : 0 ≤ a ∧ a ≤ 24) (h : cnP op a c) : cnP op c a := by
  obtain ⟨n, hn⟩ := h
  have key : ∀ (n : Nat) (c : Int), wk (cnZ op) n a c → cnP op c a := by
    intro n
    induction n with
    | zero => intro c hc; rw [show c = a from hc]; exact cnP_rf a
    | succ n ih =>
      intro c ⟨b, d, h1, h2, h3, h4⟩
      have hb := wk_in cnZ_ok ha h1
      have h5 := cnZ_sym hb h2 h3 h4
      refine cnP_tr ⟨1, c, (d + 2) % 4, rfl, by omega, h5, by omega⟩ (ih b h1)
  exact key n c hn
/-- the least cell that is joined with c -/
noncomputable def mz (op : Int → Int) (c : Int) : Int := @dite _ (∃ n : Nat, cnP op (n : Int) c) (Classical.propDecidable _) (fun h => ((Classical.choose (pk_least (fun n : Nat => cnP op (n : Int) c) h) : Nat) : Int)) (fun _ => 25)
theorem mz_spec {op : Int → Int} {c : Int} (hc : 0 ≤ c ∧ c ≤ 24) : (0 ≤ mz op c ∧ mz op c ≤ c) ∧ cnP op (mz op c) c ∧ ∀ b, 0 ≤ b → cnP op b c → mz op c ≤ b := by
  have hx : ∃ n : Nat, cnP op (n : Int) c := ⟨c.toNat, by rw [Int.toNat_of_nonneg hc.1]; exact cnP_rf c⟩
  have hs := Classical.choose_spec (pk_least (fun n : Nat => cnP op (n : Int) c) hx)
  have hb : ∀ b : Int, 0 ≤ b → cnP op b c → ((Classical.choose (pk_least (fun n : Nat => cnP op (n : Int) c) hx) : Nat) : Int) ≤ b := by
    intro b h0 h1
    rcases Int.lt_or_le b ((Classical.choose (pk_least (fun n : Nat => cnP op (n : Int) c) hx) : Nat) : Int) with g | g
    · exfalso
      have h2 := hs.2 b.toNat (by omega)
      rw [Int.toNat_of_nonneg h0] at h2
      exact h2 h1
    · exact g
  unfold mz
  rw [dif_pos hx]
  exact ⟨⟨by omega, hb c hc.1 (cnP_rf c)⟩, hs.1, hb⟩
theorem mz_eq {op : Int → Int} {a c : Int} (ha : 0 ≤ a ∧ a ≤ 24) (hc : 0 ≤ c ∧ c ≤ 24) : mz op a = mz op c ↔ cnP op a c := by
  have h1 := mz_spec (op := op) ha
  have h2 := mz_spec (op := op) hc
  constructor
  · intro h
    refine cnP_tr (cnP_sy (by omega) h1.2.1) ?_
    rw [h]
    exact h2.2.1
  · intro h
    have h3 := h1.2.2 (mz op c) h2.1.1 (cnP_tr h2.2.1 (cnP_sy ha h))
    have h4 := h2.2.2 (mz op a) h1.1.1 (cnP_tr h1.2.1 h)
    omega
/-- how many groups there are -/
noncomputable def ngZ (op : Int → Int) : Int := cnbK (fun c => decide (mz op c = c)) 25
/-! two maps that tell the same groups, each by one cell of its own, have as many of these -/
theorem smN_add (f g : Int → Int) : ∀ n : Nat, smN (fun j => f j + g j) n = smN f n + smN g n
  | 0 => rfl
  | n + 1 => by
    unfold smN
    rw [smN_add f g n]
    omega
theorem smN_0 : ∀ n : Nat, smN (fun _ => 0) n = 0
  | 0 => rfl
  | n + 1 => by unfold smN; rw [smN_0 n]; rfl
theorem smN_swap (f : Int → Int → Int) (m : Nat) : ∀ n : Nat, smN (fun i => smN (fun j => f i j) m) n = smN (fun j => smN (fun i => f i j) n) m
  | 0 => by
    show (0 : Int) = smN (fun _ => 0) m
    rw [smN_0]
  | n + 1 => by
    show smN (fun i => smN (fun j => f i j) m) n + smN (fun j => f (n : Int) j) m = smN (fun j => smN (fun i => f i j) n + f (n : Int) j) m
    rw [smN_add, smN_swap f m n]
theorem smN_congr {f g : Int → Int} : ∀ n : Nat, (∀ j : Int, 0 ≤ j → j < n → f j = g j) → smN f n = smN g n
  | 0, _ => rfl
  | n + 1, h => by
    unfold smN
    rw [smN_congr n (fun j h0 h1 => h j h0 (by omega)), h _ (by omega) (by omega)]
theorem smN_one {k : Int} (h0 : 0 ≤ k) : ∀ n : Nat, smN (fun j => if j = k then 1 else 0) n = if k < (n : Int) then 1 else 0
  | 0 => by rw [if_neg (by omega)]; rfl
  | n + 1 => by
    unfold smN
    rw [smN_one h0 n]
    by_cases e : (n : Int) = k
    · rw [if_pos e, if_neg (by omega), if_pos (by omega)]; rfl
    · rw [if_neg e]
      by_cases e2 : k < (n : Int)
      · rw [if_pos e2, if_pos (by omega)]; rfl
      · rw [if_neg e2, if_neg (by omega)]; rfl
theorem cnbN_sm (P : Int → Bool) : ∀ n : Nat, cnbN P n = smN (fun j => b2 (P j)) n
  | 0 => rfl
  | n + 1 => by
    unfold cnbN smN
    rw [cnbN_sm P n]
theorem fix_eq {g1 g2 : Int → Int} (r1 : ∀ c, 0 ≤ c → c ≤ 24 → (0 ≤ g1 c ∧ g1 c ≤ 24) ∧ g1 (g1 c) = g1 c) (r2 : ∀ c, 0 ≤ c → c ≤ 24 → (0 ≤ g2 c ∧ g2 c ≤ 24) ∧ g2 (g2 c) = g2 c) (hk : ∀ a c, 0 ≤ a → a ≤ 24 → 0 ≤ c → c ≤ 24 → (g1 a = g1 c ↔ g2 a = g2 c)) : cnbK (fun c => decide (g1 c = c)) 25 = cnbK (fun c => decide (g2 c = c)) 25 := by
  have key : ∀ {g1 g2 : Int → Int}, (∀ c, 0 ≤ c → c ≤ 24 → (0 ≤ g2 c ∧ g2 c ≤ 24) ∧ g2 (g2 c) = g2 c) → smN (fun c => smN (fun m => if (g1 c = c ∧ g2 m = m) ∧ m = g2 c then 1 else 0) 25) 25 = cnbN (fun c => decide (g1 c = c)) 25 := by
    intro g1 g2 r2
    rw [cnbN_sm]
    refine smN_congr 25 (fun c h0 h1 => ?_)
    obtain ⟨q1, q2⟩ := r2 c h0 (by omega)
    by_cases e : g1 c = c
    · rw [decide_eq_true e]
      have h2 : smN (fun m => if (g1 c = c ∧ g2 m = m) ∧ m = g2 c then 1 else 0) 25 = smN (fun m => if m = g2 c then 1 else 0) 25 := by
        refine smN_congr 25 (fun m _ _ => ?_)
        by_cases e2 : m = g2 c
        · rw [if_pos e2, if_pos ⟨⟨e, by rw [e2]; exact q2⟩, e2⟩]
        · rw [if_neg e2, if_neg (fun h => e2 h.2)]
      rw [h2, smN_one q1.1 25, if_pos (by omega)]
      rfl
    · rw [decide_eq_false e]
      have h2 : smN (fun m => if (g1 c = c ∧ g2 m = m) ∧ m = g2 c then 1 else 0) 25 = smN (fun _ => 0) 25 := smN_congr 25 (fun m _ _ => if_neg (fun h => e h.1.1))
      rw [h2, smN_0]
      rfl
  show cnbN _ 25 = cnbN _ 25
  rw [← key (g1 := g1) (g2 := g2) r2, ← key (g1 := g2) (g2 := g1) r1, smN_swap]
  refine smN_congr 25 (fun m h0 h1 => smN_congr 25 (fun c h2 h3 => ?_))
  obtain ⟨q1, q2⟩ := r1 m h0 (by omega)
  obtain ⟨q3, q4⟩ := r2 c h2 (by omega)
  by_cases e : (g1 c = c ∧ g2 m = m) ∧ m = g2 c
  · have h4 := (hk m c h0 (by omega) h2 (by omega)).mpr (e.1.2.trans e.2)
    have h5 : c = g1 m := by rw [h4]; exact e.1.1.symm
    rw [if_pos e, if_pos ⟨⟨e.1.2, e.1.1⟩, h5⟩]
  · rw [if_neg e, if_neg (fun h => ?_)]
    have h4 := (hk m c h0 (by omega) h2 (by omega)).mp (h.2.symm.trans h.1.2.symm)
    exact e ⟨⟨h.1.2, h.1.1⟩, h.1.1.symm.trans h4⟩
/-- marking: what holds with h cells done, and dd directions of the next one -/
def mgI (op : Int → Int) (st h dd gr : Int) (g0 g q : Int → Int) (f : Int) : Prop :=
  ((0 ≤ h ∧ h ≤ f ∧ 1 ≤ f) ∧ (0 < dd → h < f)) ∧ f ≤ cnbK (fun c => decide (¬ g c = -1)) 25 ∧ g st = gr ∧ (∀ i, 0 ≤ i → i < f → 0 ≤ q i ∧ q i ≤ 24) ∧ (∀ c, g c = g0 c ∨ (g0 c = -1 ∧ g c = gr ∧ cnP op st c ∧ ∃ i, 0 ≤ i ∧ i < f ∧ q i = c)) ∧
  (∀ i d, 0 ≤ i → (i < h ∨ (i = h ∧ d < dd)) → i < f → 0 ≤ d → d ≤ 3 → ¬ cnZ op (q i) d = -1 → ¬ g (cnZ op (q i) d) = -1) ∧ (∀ i, 0 ≤ i → i < f → cnP op st (q i))
theorem mgI_0 {op : Int → Int} {st gr : Int} {g0 q : Int → Int} (hst : 0 ≤ st ∧ st ≤ 24) (hg : 0 ≤ gr) (h0 : g0 st = -1) (hq : q 0 = st) : mgI op st 0 0 gr g0 (ui g0 st gr) q 1 := by
  refine ⟨⟨by omega, by omega⟩, ?_, ui_s, fun i h1 h2 => ?_, fun c => ?_, fun i d h1 h2 => by omega, fun i h1 h2 => ?_⟩
  · have h1 := cnbN_up (P := fun c => decide (¬ g0 c = -1)) (Q := fun c => decide (¬ ui g0 st gr c = -1)) (k := st) (fun j hj => by simp only [ui_n hj]) (by simp [h0]) (by simp [ui_s]; omega) hst.1 25
    rw [if_pos (by omega)] at h1
    have h2 := (cnbN_le (fun c => decide (¬ g0 c = -1)) 25).1
    show 1 ≤ cnbN _ 25
    omega
  · rw [show i = 0 by omega, hq]; exact hst
  · by_cases e : c = st
    · exact Or.inr ⟨by rw [e]; exact h0, by rw [e]; exact ui_s, by rw [e]; exact cnP_rf st, 0, by omega, by omega, by rw [hq, e]⟩
    · exact Or.inl (ui_n e)
  · rw [show i = 0 by omega, hq]; exact cnP_rf st
theorem mgI_next {op : Int → Int} {st h gr : Int} {g0 g q : Int → Int} {f : Int} (I : mgI op st h 4 gr g0 g q f) : mgI op st (h + 1) 0 gr g0 g q f := by
  obtain ⟨⟨a1, a2⟩, b, c, d, e, k, m⟩ := I
  have := a2 (by omega)
  exact ⟨⟨by omega, by omega⟩, b, c, d, e, fun i d9 h1 h2 h3 h4 h5 => k i d9 h1 (by omega) h3 h4 h5, m⟩
theorem mgI_same {op : Int → Int} {st h dd gr : Int} {g0 g q : Int → Int} {f : Int} (I : mgI op st h dd gr g0 g q f) (hf : h < f) (hx : ¬ cnZ op (q h) dd = -1 → ¬ g (cnZ op (q h) dd) = -1) : mgI op st h (dd + 1) gr g0 g q f := by
  obtain ⟨⟨a1, a2⟩, b, c, d, e, k, m⟩ := I
  refine ⟨⟨a1, fun _ => hf⟩, b, c, d, e, fun i d9 h1 h2 h3 h4 h5 h6 => ?_, m⟩
  by_cases w : i < h ∨ (i = h ∧ d9 < dd)
  · exact k i d9 h1 w h3 h4 h5 h6
  · have w1 : i = h := by omega
    have w2 : d9 = dd := by omega
    rw [w1, w2] at h6 ⊢
    exact hx h6
theorem mgI_add {op : Int → Int} {st h dd gr : Int} {g0 g q : Int → Int} {f : Int} (I : mgI op st h dd gr g0 g q f) (hd : 0 ≤ dd ∧ dd ≤ 3) (hf : h < f) {c : Int} (hc : cnZ op (q h) dd = c) (hn : ¬ c = -1) (hg : g c = -1) (hgr : 0 ≤ gr) : f ≤ 24 ∧ mgI op st h (dd + 1) gr g0 (ui g c gr) (ui q f c) (f + 1) := by
  obtain ⟨⟨a1, a2⟩, b, c9, d, e, k, m⟩ := I
  have qh := d h a1.1 hf
  have hcr := cnZ_rg (op := op) (d := dd) qh.1 qh.2
  rw [hc] at hcr
  have hf24 : f ≤ 24 := by
    have := cnbN_lt (P := fun c => decide (¬ g c = -1)) (k := c) (n := 25) (by simp [hg]) (by omega) (by omega)
    exact Int.le_trans b this
  have hcs : ¬ st = c := fun w => by rw [w, hg] at c9; omega
  have hcc : cnP op st c := by
    rw [← hc]
    exact cnP_tr (m h a1.1 hf) (cnP_e hd (by rw [hc]; exact hn))
  refine ⟨hf24, ⟨⟨by omega, fun _ => by omega⟩, ?_, by rw [ui_n hcs]; exact c9, fun i h1 h2 => ?_, fun x => ?_, fun i d9 h1 h2 h3 h4 h5 h6 => ?_, fun i h1 h2 => ?_⟩⟩
  · have h1 := cnbN_up (P := fun c => decide (¬ g c = -1)) (Q := fun c9 => decide (¬ ui g c gr c9 = -1)) (k := c) (fun j hj => by simp only [ui_n hj]) (by simp [hg]) (by simp [ui_s]; omega) (by omega) 25
    rw [if_pos (by omega)] at h1
    show f + 1 ≤ cnbN _ 25
    have b2 : f ≤ cnbN (fun c => decide (¬ g c = -1)) 25 := b
    omega
  · by_cases w : i = f
    · rw [w, ui_s]; omega
    · rw [ui_n w]; exact d i h1 (by omega)
  · by_cases w : x = c
    · rw [w, ui_s]
      rcases e c with w2 | ⟨w2, w3, -⟩
      · exact Or.inr ⟨by rw [← w2]; exact hg, rfl, hcc, f, by omega, by omega, ui_s⟩
      · rw [hg] at w3; omega
    · rw [ui_n w]
      rcases e x with w2 | ⟨w2, w3, w4, i, w5, w6, w7⟩
      · exact Or.inl w2
      · exact Or.inr ⟨w2, w3, w4, i, w5, by omega, by rw [ui_n (by omega)]; exact w7⟩
  · have hi : i < f := by omega
    rw [ui_n (show ¬ i = f by omega)] at h6 ⊢
    by_cases w : cnZ op (q i) d9 = c
    · rw [w, ui_s]; omega
    · rw [ui_n w]
      by_cases w2 : i < h ∨ (i = h ∧ d9 < dd)
      · exact k i d9 h1 w2 hi h4 h5 h6
      · exfalso
        have w3 : i = h := by omega
        have w4 : d9 = dd := by omega
        rw [w3, w4] at w
        exact w hc
  · by_cases w : i = f
    · rw [w, ui_s]; exact hcc
    · rw [ui_n w]; exact m i h1 (by omega)
theorem mgI_end {op : Int → Int} {st gr : Int} {g0 g q : Int → Int} {f : Int} (I : mgI op st f 0 gr g0 g q f) (hst : 0 ≤ st ∧ st ≤ 24) (hgr : 0 ≤ gr) (h0 : ∀ c, cnP op st c → g0 c = -1) (c : Int) : (cnP op st c → g c = gr) ∧ (¬ cnP op st c → g c = g0 c) := by
  obtain ⟨⟨a1, a2⟩, b, c9, d, e, k, m⟩ := I
  constructor
  · intro ⟨n, hn⟩
    have key : ∀ (n : Nat) (c : Int), wk (cnZ op) n st c → g c = gr := by
      intro n
      induction n with
      | zero => intro c hc; rw [show c = st from hc]; exact c9
      | succ n ih =>
        intro c hc
        obtain ⟨x, d9, h1, h2, h3, h4⟩ := hc
        have h5 := ih x h1
        rcases e x with w | ⟨w1, w2, w3, i, w4, w5, w6⟩
        · rw [h0 x ⟨n, h1⟩] at w; omega
        · have h6 := k i d9 w4 (Or.inl w5) w5 h2.1 h2.2 (by rw [w6, h3]; exact h4)
          rw [w6, h3] at h6
          rcases e c with w | ⟨-, w, -⟩
          · rw [h0 c ⟨n + 1, x, d9, h1, h2, h3, h4⟩] at w; exact absurd w h6
          · exact w
    exact key n c hn
  · intro hn
    rcases e c with w | ⟨-, -, w, -⟩
    · exact w
    · exact absurd w hn
/-- what countGroups holds with k cells looked at -/
def cgI (op : Int → Int) (k cnt : Int) (g : Int → Int) : Prop := (∀ c, 0 ≤ c → c ≤ 24 → (¬ g c = -1 ↔ mz op c < k)) ∧ cnt = cnbK (fun c => decide (mz op c = c)) k
theorem cgI_0 {op : Int → Int} {g : Int → Int} (h : ∀ c, g c = -1) : cgI op 0 0 g := by
  refine ⟨fun c h0 h1 => ?_, rfl⟩
  have := (mz_spec (op := op) ⟨h0, h1⟩).1
  rw [h]
  omega
theorem cgI_new {op : Int → Int} {k cnt : Int} {g g1 : Int → Int} (I : cgI op k cnt g) (hk : 0 ≤ k ∧ k ≤ 24) (hc : 0 ≤ cnt) (hg : g k = -1) (h : ∀ c, (cnP op k c → g1 c = cnt) ∧ (¬ cnP op k c → g1 c = g c)) : cgI op (k + 1) (cnt + 1) g1 := by
  obtain ⟨a, b⟩ := I
  have hm := mz_spec (op := op) hk
  have h1 : mz op k = k := by
    have h2 : ¬ mz op k < k := fun w => ((a k hk.1 hk.2).mpr w) hg
    omega
  refine ⟨fun c h0 h3 => ?_, ?_⟩
  · have hmc := mz_spec (op := op) ⟨h0, h3⟩
    by_cases w : cnP op k c
    · rw [(h c).1 w]
      have := (mz_eq (op := op) hk ⟨h0, h3⟩).mpr w
      omega
    · rw [(h c).2 w, a c h0 h3]
      have : ¬ mz op c = k := fun w2 => w ((mz_eq (op := op) hk ⟨h0, h3⟩).mp (by rw [h1, w2]))
      omega
  · rw [cnbK_s hk.1, ← b, decide_eq_true h1]
    rfl
theorem cgI_un {op : Int → Int} {k cnt : Int} {g : Int → Int} (I : cgI op k cnt g) (hk : 0 ≤ k ∧ k ≤ 24) (hg : g k = -1) : ∀ c, cnP op k c → g c = -1 := by
  obtain ⟨a, b⟩ := I
  intro c hc
  have hcr := cnP_in hk hc
  have h1 := (mz_eq (op := op) hk hcr).mpr hc
  have h2 : ¬ mz op k < k := fun w => ((a k hk.1 hk.2).mpr w) hg
  apply Classical.byContradiction
  intro w
  have := (a c hcr.1 hcr.2).mp w
  omega
theorem cgI_old {op : Int → Int} {k cnt : Int} {g : Int → Int} (I : cgI op k cnt g) (hk : 0 ≤ k ∧ k ≤ 24) (hg : ¬ g k = -1) : cgI op (k + 1) cnt g := by
  obtain ⟨a, b⟩ := I
  have h1 := (a k hk.1 hk.2).mp hg
  refine ⟨fun c h0 h3 => ?_, ?_⟩
  · rw [a c h0 h3]
    have hmc := mz_spec (op := op) ⟨h0, h3⟩
    have : ¬ mz op c = k := fun w => by
      have h4 := (mz_eq (op := op) hk ⟨h0, h3⟩).mpr (by rw [← w]; exact hmc.2.1)
      omega
    omega
  · rw [cnbK_s hk.1, ← b, decide_eq_false (by omega)]
    show cnt = cnt + 0
    omega
/-- merging: with the edges to east and south of the cells ahead of k, and of k those ahead of dd -/
def meF (g : Int → Int) (fr into : Int) : Int → Int := fun c => if g c = fr then into else g c
def meI (op : Int → Int) (k dd cnt : Int) (g : Int → Int) : Prop :=
  (∀ c, 0 ≤ c → c ≤ 24 → (0 ≤ g c ∧ g c ≤ 24) ∧ g (g c) = g c ∧ cnP op c (g c)) ∧ (∀ b d, 0 ≤ b → b ≤ 24 → 1 ≤ d → d ≤ 2 → (b < k ∨ (b = k ∧ d < dd)) → ¬ cnZ op b d = -1 → g b = g (cnZ op b d)) ∧ cnt = cnbK (fun c => decide (g c = c)) 25
theorem meI_0 {op : Int → Int} {g : Int → Int} (h : ∀ c, 0 ≤ c → c ≤ 24 → g c = c) : meI op 0 1 25 g := by
  refine ⟨fun c h0 h1 => ?_, fun b d h0 h1 h2 h3 h4 => by omega, ?_⟩
  · rw [h c h0 h1, h c h0 h1]
    exact ⟨⟨h0, h1⟩, rfl, cnP_rf c⟩
  · have h2 : cnbN (fun c => decide (g c = c)) 25 = cnbN (fun _ => true) 25 := cnbN_congr 25 (fun j h0 h1 => by simp [h j h0 (by omega)])
    show (25 : Int) = cnbN _ 25
    rw [h2]
    rfl
theorem meI_same {op : Int → Int} {k dd cnt : Int} {g : Int → Int} (I : meI op k dd cnt g) (h : ¬ cnZ op k dd = -1 → g k = g (cnZ op k dd)) : meI op k (dd + 1) cnt g := by
  obtain ⟨a, b, c⟩ := I
  refine ⟨a, fun b9 d9 h0 h1 h2 h3 h4 h5 => ?_, c⟩
  by_cases w : b9 < k ∨ (b9 = k ∧ d9 < dd)
  · exact b b9 d9 h0 h1 h2 h3 w h5
  · have w1 : b9 = k := by omega
    have w2 : d9 = dd := by omega
    rw [w1, w2] at h5 ⊢
    exact h h5
theorem meI_next {op : Int → Int} {k cnt : Int} {g : Int → Int} (I : meI op k 3 cnt g) : meI op (k + 1) 1 cnt g := by
  obtain ⟨a, b, c⟩ := I
  exact ⟨a, fun b9 d9 h0 h1 h2 h3 h4 h5 => b b9 d9 h0 h1 h2 h3 (by omega) h5, c⟩
theorem meI_add {op : Int → Int} {k dd cnt x : Int} {g : Int → Int} (I : meI op k dd cnt g) (hk : 0 ≤ k ∧ k ≤ 24) (hd : 1 ≤ dd ∧ dd ≤ 2) (hx : cnZ op k dd = x) (hn : ¬ x = -1) (hg : ¬ g x = g k) : meI op k (dd + 1) (cnt - 1) (meF g (g x) (g k)) := by
  obtain ⟨a, b, c⟩ := I
  have hxr := cnZ_rg (op := op) (d := dd) hk.1 hk.2
  rw [hx] at hxr
  have ax := a x (by omega) hxr.2
  have ak := a k hk.1 hk.2
  have hkx : cnP op k x := by rw [← hx]; exact cnP_e (by omega) (by rw [hx]; exact hn)
  refine ⟨fun c9 h0 h1 => ?_, fun b9 d9 h0 h1 h2 h3 h4 h5 => ?_, ?_⟩
  · have ac := a c9 h0 h1
    unfold meF
    by_cases e : g c9 = g x
    · simp only [if_pos e]
      refine ⟨ak.1, by rw [ak.2.1, if_neg (fun w => hg w.symm)], ?_⟩
      refine cnP_tr ac.2.2 ?_
      rw [e]
      exact cnP_tr (cnP_sy (by omega) ax.2.2) (cnP_tr (cnP_sy hk hkx) ak.2.2)
    · simp only [if_neg e]
      refine ⟨ac.1, by rw [ac.2.1, if_neg e], ac.2.2⟩
  · by_cases w : b9 < k ∨ (b9 = k ∧ d9 < dd)
    · unfold meF
      rw [b b9 d9 h0 h1 h2 h3 w h5]
    · have w1 : b9 = k := by omega
      have w2 : d9 = dd := by omega
      rw [w1, w2, hx]
      unfold meF
      rw [if_neg (fun q => hg q.symm), if_pos rfl]
  · have h1 := cnbN_up (P := fun c => decide (meF g (g x) (g k) c = c)) (Q := fun c => decide (g c = c)) (k := g x) (fun j hj => by
      unfold meF
      by_cases e : g j = g x
      · rw [if_pos e]
        have e2 : ¬ g j = j := by rw [e]; exact fun q => hj q.symm
        have e3 : ¬ g k = j := fun q => by
          rw [← q, ak.2.1] at e
          exact hg e.symm
        simp [e2, e3]
      · rw [if_neg e]) (by
      have e : ¬ meF g (g x) (g k) (g x) = g x := by
        unfold meF
        rw [ax.2.1, if_pos rfl]
        exact fun q => hg q.symm
      simp [e]) (by simp [ax.2.1]) ax.1.1 25
    rw [if_pos (by omega)] at h1
    have c2 : cnt = cnbN (fun c => decide (g c = c)) 25 := c
    show cnt - 1 = cnbN _ 25
    omega
theorem meI_end {op : Int → Int} {cnt : Int} {g : Int → Int} (I : meI op 25 1 cnt g) : cnt = ngZ op := by
  obtain ⟨a, b, c⟩ := I
  rw [c]
  have hedge : ∀ x d, 0 ≤ x → x ≤ 24 → 0 ≤ d → d ≤ 3 → ¬ cnZ op x d = -1 → g x = g (cnZ op x d) := by
    intro x d h0 h1 h2 h3 h4
    by_cases w : 1 ≤ d ∧ d ≤ 2
    · exact b x d h0 h1 w.1 w.2 (by omega) h4
    · have hr := cnZ_rg (op := op) (d := d) h0 h1
      have h5 := cnZ_sym (op := op) ⟨h0, h1⟩ ⟨h2, h3⟩ rfl h4
      have h6 := b (cnZ op x d) ((d + 2) % 4) (by omega) hr.2 (by omega) (by omega) (by omega) (by rw [h5]; omega)
      rw [h5] at h6
      exact h6.symm
  have hw : ∀ (n : Nat) (x y : Int), 0 ≤ x ∧ x ≤ 24 → wk (cnZ op) n x y → g x = g y := by
    intro n
    induction n with
    | zero => intro x y _ h; rw [show y = x from h]
    | succ n ih =>
      intro x y hx ⟨z, d, h1, h2, h3, h4⟩
      have hz := wk_in cnZ_ok hx h1
      rw [ih x z hx h1, hedge z d hz.1 hz.2 h2.1 h2.2 (by rw [h3]; exact h4), h3]
  refine fix_eq (fun c h0 h1 => ⟨(a c h0 h1).1, (a c h0 h1).2.1⟩) (fun c h0 h1 => ?_) (fun x y h0 h1 h2 h3 => ?_)
  · have hm := mz_spec (op := op) ⟨h0, h1⟩
    exact ⟨by omega, (mz_eq (op := op) (by omega) ⟨h0, h1⟩).mpr hm.2.1⟩
  · rw [mz_eq (op := op) ⟨h0, h1⟩ ⟨h2, h3⟩]
    constructor
    · intro h
      refine cnP_tr (a x h0 h1).2.2 ?_
      rw [h]
      exact cnP_sy ⟨h2, h3⟩ (a y h2 h3).2.2
    · intro ⟨n, hn⟩
      exact hw n x y ⟨h0, h1⟩ hn
def idF : Int → Int := fun c => if 0 ≤ c ∧ c ≤ 24 then c else 0
/-- where the board of a slot of the history lies -/
def hsl (n : Int) : Nat := 25 + 6 * n.toNat
theorem hsl_rg {n : Int} (h0 : 0 ≤ n) (h1 : n < 8) : 25 ≤ hsl n ∧ hsl n + 6 ≤ 73 := by
  unfold hsl
  omega
theorem hsl_ne {n k : Int} (h0 : 0 ≤ n) (h1 : 0 ≤ k) (h : ¬ n = k) : hsl n + 6 ≤ hsl k ∨ hsl k + 6 ≤ hsl n := by
  unfold hsl
  omega
section XRH
variable {p : Program} {l : Launch} {e : Env} {R : Room} {s : State} {m : MethodId} {args : Array Value} {below : List Frame} {meth : Method} {c : Code} {H : Heap} {locs : List Loc} {cells slots : Nat} {Q : State → Prop}
variable {cc : ByteArray} {pc : Nat} {ls : Array Slot} {rest : List Value} {E : xE} {A : Nat → Prop} {σ : xW}
theorem x_aaldH (hx : p.tables.exec = Jvm.exec) (hb9 : c.code = cc) (hK : va_K E.1 vwCl (xT E) s) (hH : Hx E A s.heap σ H locs) (k0 : Nat) (hk0 : k0 < 85 + xx E) {a : Int} (he : σ k0 = hRow E) (h0 : 0 ≤ a) (h1 : a < 8) (hdg : decode cc pc = .ok (.aaload, 1)) (kk : W p l e R s m args below meth c H locs cells slots Q (F0 m (pc + 1) ls (.ref (xad E (hsl a)) :: rest))) : W p l e R s m args below meth c H locs cells slots Q (F0 m pc ls (.int (iZ a) :: .ref (xad E k0) :: rest)) :=
  va_aldq hx hb9 hK hH.1 k0 2 (wl_get hk0 he) rfl (iZ_in h0 h1 (by omega)) hdg (by
    rw [iZ_clamp (by omega) h0]
    exact kk)
end XRH
/-- a direction with which a shortest walk to the cell begins -/
def fzP (G : Int → Int → Int) (st c d : Int) : Prop := ¬ G st d = -1 ∧ wk G (dz G st c - 1).toNat (G st d) c
noncomputable def fz (G : Int → Int → Int) (st c : Int) : Int := if dB (fzP G st c 0) then 0 else if dB (fzP G st c 1) then 1 else if dB (fzP G st c 2) then 2 else 3
theorem fz_of {G : Int → Int → Int} {st : Int} {F : Int → Int} {c : Int} (hF : isF G st (dz G st) F) (h0 : 0 ≤ c) (h1 : c ≤ 24) (h2 : ¬ dz G st c = 25) (h3 : ¬ c = st) : F c = fz G st c := by
  obtain ⟨⟨⟨a1, a2⟩, a3, a4⟩, a5⟩ := hF c h0 h1 h2 h3
  have y : fzP G st c (F c) := ⟨a3, a4⟩
  have n : ∀ d, 0 ≤ d → d < F c → dB (fzP G st c d) = false := fun d g0 g1 => dB_f (fun g => a5 d g0 g1 g.1 g.2)
  unfold fz
  have hc : F c = 0 ∨ F c = 1 ∨ F c = 2 ∨ F c = 3 := by omega
  cases hc with
  | inl e => rw [e] at y; rw [e, dB_t y, if_pos rfl]
  | inr hc =>
    rw [n 0 (Int.le_refl _) (by omega), if_neg (by decide)]
    cases hc with
    | inl e => rw [e] at y; rw [e, dB_t y, if_pos rfl]
    | inr hc =>
      rw [n 1 (by decide) (by omega), if_neg (by decide)]
      cases hc with
      | inl e => rw [e] at y; rw [e, dB_t y, if_pos rfl]
      | inr e => rw [n 2 (by decide) (by omega), if_neg (by decide), e]
