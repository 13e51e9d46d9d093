/-! walks in a graph of 25 cells: G b d is where one comes to from b in direction d, or -1 -/
theorem cnbN_up {P Q : Int → Bool} {k : Int} (h : ∀ j, ¬ j = k → Q j = P j) (hp : P k = false) (hq : Q k = true) (hk : 0 ≤ k) : ∀ n : Nat, cnbN Q n = cnbN P n + (if k < (n : Int) then 1 else 0)
  | 0 => by
    unfold cnbN
    rw [if_neg (by omega)]
    omega
  | n + 1 => by
    have ih := cnbN_up h hp hq hk n
    unfold cnbN
    rw [ih]
    by_cases e : (n : Int) = k
    · rw [e, hp, hq, if_neg (by omega), if_pos (by omega)]
      simp [b2]
    · rw [h _ e]
      by_cases e2 : k < (n : Int)
      · rw [if_pos e2, if_pos (by omega)]
        omega
      · rw [if_neg e2, if_neg (by omega)]
        omega
theorem cnbN_le (P : Int → Bool) : ∀ n : Nat, 0 ≤ cnbN P n ∧ cnbN P n ≤ n
  | 0 => ⟨Int.le_refl 0, Int.le_refl 0⟩
  | n + 1 => by
    have h := cnbN_le P n
    have h2 := b2_rg (P (n : Int))
    unfold cnbN
    omega
theorem cnbN_congr {P Q : Int → Bool} : ∀ n : Nat, (∀ j : Int, 0 ≤ j → j < n → P j = Q j) → cnbN P n = cnbN Q n
  | 0, _ => rfl
  | n + 1, h => by
    unfold cnbN
    rw [cnbN_congr n (fun j h0 h1 => h j h0 (by omega)), h _ (by omega) (by omega)]
theorem cnbN_mono {P Q : Int → Bool} : ∀ n : Nat, (∀ j : Int, P j = true → Q j = true) → cnbN P n ≤ cnbN Q n
  | 0, _ => Int.le_refl 0
  | n + 1, h => by
    have h1 := cnbN_mono n h
    have h2 := h (n : Int)
    unfold cnbN
    cases e : P (n : Int) with
    | false => have := b2_rg (Q (n : Int)); simp [b2] at this ⊢; omega
    | true => rw [h2 e]; omega
theorem cnbN_lt {P : Int → Bool} {k : Int} {n : Nat} (hp : P k = false) (hk : 0 ≤ k) (hn : k < n) : cnbN P n ≤ n - 1 := by
  have h := cnbN_up (P := P) (Q := fun j => if j = k then true else P j) (k := k) (fun j hj => by simp [hj]) hp (by simp) hk n
  have h2 := cnbN_le (fun j => if j = k then true else P j) n
  rw [if_pos hn] at h
  omega
def wk (G : Int → Int → Int) : Nat → Int → Int → Prop
  | 0, a, c => c = a
  | n + 1, a, c => ∃ b d, wk G n a b ∧ (0 ≤ d ∧ d ≤ 3) ∧ G b d = c ∧ ¬ c = -1
def gOK (G : Int → Int → Int) : Prop := ∀ b d, 0 ≤ b → b ≤ 24 → -1 ≤ G b d ∧ G b d ≤ 24
theorem wk_in {G : Int → Int → Int} (hG : gOK G) {a : Int} (ha : 0 ≤ a ∧ a ≤ 24) : ∀ {n : Nat} {c : Int}, wk G n a c → 0 ≤ c ∧ c ≤ 24
  | 0, c, h => by rw [show c = a from h]; exact ha
  | n + 1, c, ⟨b, d, h1, _, h3, h4⟩ => by
    have hb := wk_in hG ha h1
    have h5 := hG b d hb.1 hb.2
    omega
theorem wk_pre {G : Int → Int → Int} {a d : Int} (hd : 0 ≤ d ∧ d ≤ 3) (hn : ¬ G a d = -1) : ∀ {n : Nat} {c : Int}, wk G n (G a d) c → wk G (n + 1) a c
  | 0, c, h => ⟨a, d, rfl, hd, (show c = G a d from h).symm, by rw [show c = G a d from h]; exact hn⟩
  | n + 1, c, ⟨b, e, h1, h2, h3, h4⟩ => ⟨b, e, wk_pre hd hn h1, h2, h3, h4⟩
theorem wk_head {G : Int → Int → Int} {a : Int} : ∀ {n : Nat} {c : Int}, wk G (n + 1) a c → ∃ d, (0 ≤ d ∧ d ≤ 3) ∧ ¬ G a d = -1 ∧ wk G n (G a d) c
  | 0, c, ⟨b, d, h1, h2, h3, h4⟩ => by
    have e : b = a := h1
    subst e
    exact ⟨d, h2, by rw [h3]; exact h4, show c = G b d from h3.symm⟩
  | n + 1, c, ⟨b, d, h1, h2, h3, h4⟩ => by
    obtain ⟨e, g1, g2, g3⟩ := wk_head h1
    exact ⟨e, g1, g2, b, d, g3, h2, h3, h4⟩
/-- L tells the least lengths of walks from st; 25 where there is none -/
def isD (G : Int → Int → Int) (st : Int) (L : Int → Int) : Prop := ∀ c : Int, 0 ≤ c → c ≤ 24 → (¬ L c = 25 → (0 ≤ L c ∧ L c ≤ 24) ∧ wk G (L c).toNat st c) ∧ ∀ n : Nat, wk G n st c → L c ≤ n ∧ ¬ L c = 25
theorem isD_uniq {G : Int → Int → Int} {st : Int} {L M : Int → Int} (h : isD G st L) (h2 : isD G st M) {c : Int} (h0 : 0 ≤ c) (h1 : c ≤ 24) : L c = M c := by
  obtain ⟨a1, a2⟩ := h c h0 h1
  obtain ⟨b1, b2⟩ := h2 c h0 h1
  by_cases e : L c = 25
  · by_cases e2 : M c = 25
    · rw [e, e2]
    · obtain ⟨q1, q2⟩ := b1 e2
      exact absurd e (a2 _ q2).2
  · obtain ⟨q1, q2⟩ := a1 e
    have r1 := b2 _ q2
    obtain ⟨q3, q4⟩ := b1 r1.2
    have r2 := a2 _ q4
    omega
/-- every cell that has a walk has one of at most 24 steps -/
theorem wk_24 {G : Int → Int → Int} (hG : gOK G) {st : Int} (hst : 0 ≤ st ∧ st ≤ 24) : ∃ k : Nat, k ≤ 24 ∧ ∀ (n : Nat) (c : Int), wk G n st c → ∃ m : Nat, m ≤ k ∧ wk G m st c := by
  have hs : ∃ k : Nat, k ≤ 24 ∧ ∀ c : Int, (∃ m : Nat, m ≤ k + 1 ∧ wk G m st c) → ∃ m : Nat, m ≤ k ∧ wk G m st c := by
    apply Classical.byContradiction
    intro hno
    have grow : ∀ k : Nat, k ≤ 25 → (k : Int) + 1 ≤ cnbN (fun c => dB (∃ m : Nat, m ≤ k ∧ wk G m st c)) 25 := by
      intro k
      induction k with
      | zero =>
        intro _
        have h1 := cnbN_up (P := fun _ => false) (Q := fun c => decide (c = st)) (k := st) (fun j hj => by simp [hj]) rfl (by simp) hst.1 25
        rw [if_pos (by omega)] at h1
        have h3 := (cnbN_le (fun _ => false) 25).1
        have h4 : cnbN (fun c => decide (c = st)) 25 = cnbN (fun c => dB (∃ m : Nat, m ≤ 0 ∧ wk G m st c)) 25 := by
          refine cnbN_congr 25 (fun j _ _ => ?_)
          by_cases e : j = st
          · rw [decide_eq_true e, dB_t ⟨0, Nat.le_refl 0, e⟩]
          · rw [decide_eq_false e, dB_f (fun ⟨m, hm, hw⟩ => e (by
              have e0 : m = 0 := by omega
              subst e0
              exact hw))]
        rw [← h4]
        omega
      | succ k ih =>
        intro hk
        have h1 := ih (by omega)
        have h2 : ∃ c : Int, (∃ m : Nat, m ≤ k + 1 ∧ wk G m st c) ∧ ¬ ∃ m : Nat, m ≤ k ∧ wk G m st c := by
          apply Classical.byContradiction
          intro h3
          exact hno ⟨k, by omega, fun c hc => Classical.byContradiction (fun h4 => h3 ⟨c, hc, h4⟩)⟩
        obtain ⟨c, ⟨m, hm, hw⟩, hc2⟩ := h2
        have hcr := wk_in hG hst hw
        -- between: the old ones and c
        have h5 := cnbN_up (P := fun c9 => dB (∃ m : Nat, m ≤ k ∧ wk G m st c9)) (Q := fun c9 => if c9 = c then true else dB (∃ m : Nat, m ≤ k ∧ wk G m st c9)) (k := c) (fun j hj => by simp [hj]) (dB_f hc2) (by simp) hcr.1 25
        rw [if_pos (by omega)] at h5
        have h6 : cnbN (fun c9 => if c9 = c then true else dB (∃ m : Nat, m ≤ k ∧ wk G m st c9)) 25 ≤ cnbN (fun c9 => dB (∃ m : Nat, m ≤ k + 1 ∧ wk G m st c9)) 25 := by
          refine cnbN_mono 25 (fun j hj => ?_)
          by_cases e : j = c
          · exact dB_t ⟨m, hm, by rw [e]; exact hw⟩
          · rw [if_neg e] at hj
            obtain ⟨m2, hm2, hw2⟩ := of_dB_t hj
            exact dB_t ⟨m2, by omega, hw2⟩
        omega
    have h7 := grow 25 (by omega)
    have h8 := (cnbN_le (fun c => dB (∃ m : Nat, m ≤ 25 ∧ wk G m st c)) 25).2
    omega
  obtain ⟨k, hk, hs⟩ := hs
  refine ⟨k, hk, fun n => ?_⟩
  induction n with
  | zero => intro c hc; exact ⟨0, by omega, hc⟩
  | succ n ih =>
    intro c ⟨b, d, h1, h2, h3, h4⟩
    obtain ⟨m, hm, hw⟩ := ih b h1
    exact hs c ⟨m + 1, by omega, b, d, hw, h2, h3, h4⟩
theorem isD_ex {G : Int → Int → Int} (hG : gOK G) {st : Int} (hst : 0 ≤ st ∧ st ≤ 24) : ∃ L, isD G st L := by
  obtain ⟨k, hk, hs⟩ := wk_24 hG hst
  have h1 : ∀ c : Int, ∃ v : Int, (¬ v = 25 → (0 ≤ v ∧ v ≤ 24) ∧ wk G v.toNat st c) ∧ ∀ n : Nat, wk G n st c → v ≤ n ∧ ¬ v = 25 := by
    intro c
    by_cases e : ∃ n : Nat, wk G n st c
    · obtain ⟨m, hm, hl⟩ := pk_least (fun n => wk G n st c) e
      obtain ⟨m2, hm2, hw2⟩ := hs m c hm
      have hm3 : m ≤ 24 := by
        rcases Nat.lt_or_ge m2 m with g | g
        · exact absurd hw2 (hl m2 g)
        · omega
      refine ⟨(m : Int), fun _ => ⟨by omega, hm⟩, fun n hn => ⟨?_, by omega⟩⟩
      rcases Nat.lt_or_ge n m with g | g
      · exact absurd hn (hl n g)
      · omega
    · exact ⟨25, fun h => absurd rfl h, fun n hn => absurd ⟨n, hn⟩ e⟩
  obtain ⟨L, hL⟩ := Classical.axiomOfChoice h1
  exact ⟨L, fun c _ _ => hL c⟩
noncomputable def dz (G : Int → Int → Int) (st : Int) : Int → Int := fun c => if 0 ≤ c ∧ c ≤ 24 then @dite _ (∃ L, isD G st L) (Classical.propDecidable _) (fun h => Classical.choose h c) (fun _ => 25) else 25
theorem dz_of {G : Int → Int → Int} {st : Int} {L : Int → Int} (h : isD G st L) {c : Int} (h0 : 0 ≤ c) (h1 : c ≤ 24) : L c = dz G st c := by
  have hx : ∃ L, isD G st L := ⟨L, h⟩
  unfold dz
  rw [if_pos ⟨h0, h1⟩, dif_pos hx]
  exact isD_uniq h (Classical.choose_spec hx) h0 h1
theorem dz_is {G : Int → Int → Int} (hG : gOK G) {st : Int} (hst : 0 ≤ st ∧ st ≤ 24) : isD G st (dz G st) := by
  obtain ⟨L, h⟩ := isD_ex hG hst
  intro c h0 h1
  rw [← dz_of h h0 h1]
  exact h c h0 h1
theorem dz_rg {G : Int → Int → Int} (hG : gOK G) {st : Int} (hst : 0 ≤ st ∧ st ≤ 24) (c : Int) : 0 ≤ dz G st c ∧ dz G st c ≤ 25 := by
  by_cases e : 0 ≤ c ∧ c ≤ 24
  · have h := (dz_is hG hst c e.1 e.2).1
    by_cases e2 : dz G st c = 25
    · omega
    · have := (h e2).1
      omega
  · unfold dz
    rw [if_neg e]
    omega
/-- breadth-first search: what holds with h cells done, and dd directions of the next one -/
def bfI (G : Int → Int → Int) (st : Int) (h dd : Int) (L F q : Int → Int) (f : Int) : Prop :=
  ((0 ≤ h ∧ h ≤ f ∧ 1 ≤ f) ∧ (0 ≤ dd ∧ dd ≤ 4) ∧ (0 < dd → h < f)) ∧ f = cnbK (fun c => decide (¬ L c = 25)) 25 ∧ (L st = 0 ∧ q 0 = st) ∧
  (∀ i, 0 ≤ i → i < f → (0 ≤ q i ∧ q i ≤ 24) ∧ (0 ≤ L (q i) ∧ L (q i) ≤ i) ∧ ¬ L (q i) = 25) ∧ (∀ i j, 0 ≤ i → i ≤ j → j < f → L (q i) ≤ L (q j)) ∧ (∀ i j, 0 ≤ i → i < j → j < f → ¬ q i = q j) ∧
  (∀ c, 0 ≤ c → c ≤ 24 → ¬ L c = 25 → ∃ i, 0 ≤ i ∧ i < f ∧ q i = c) ∧ (∀ c, 0 ≤ c → c ≤ 24 → ¬ L c = 25 → wk G (L c).toNat st c) ∧ (∀ c, 0 ≤ c → c ≤ 24 → ¬ L c = 25 → h < f → L c ≤ L (q h) + 1) ∧
  (∀ i d, 0 ≤ i → (i < h ∨ (i = h ∧ d < dd)) → i < f → 0 ≤ d → d ≤ 3 → ¬ G (q i) d = -1 → ¬ L (G (q i) d) = 25 ∧ L (G (q i) d) ≤ L (q i) + 1) ∧
  (∀ c, 0 ≤ c → c ≤ 24 → ¬ L c = 25 → ¬ c = st → (0 ≤ F c ∧ F c ≤ 3) ∧ ¬ G st (F c) = -1 ∧ wk G (L c - 1).toNat (G st (F c)) c) ∧
  (∀ c, 0 ≤ c → c ≤ 24 → ¬ L c = 25 → ¬ c = st → ∀ d, 0 ≤ d → d < F c → ¬ G st d = -1 → ¬ wk G (L c - 1).toNat (G st d) c) ∧
  (∀ i j, 0 ≤ i → i ≤ j → j < f → L (q i) = L (q j) → 1 ≤ L (q i) → F (q i) ≤ F (q j)) ∧
  (h < f → ∀ j, 0 ≤ j → j < f → L (q j) = L (q h) + 1 → (q h = st → F (q j) < dd) ∧ (¬ q h = st → F (q j) ≤ F (q h)))
theorem bfI_0 {G : Int → Int → Int} {st : Int} {L F q : Int → Int} (hst : 0 ≤ st ∧ st ≤ 24) (hL : ∀ c, L c = if c = st then 0 else 25) (hq : q 0 = st) : bfI G st 0 0 L F q 1 := by
  have hv : ∀ c, ¬ L c = 25 → c = st := by
    intro c h
    by_cases e : c = st
    · exact e
    · rw [hL, if_neg e] at h
      exact absurd rfl h
  have h0 : L st = 0 := by rw [hL, if_pos rfl]
  refine ⟨⟨by omega, by omega, by omega⟩, ?_, ⟨h0, hq⟩, ?_, ?_, ?_, ?_, ?_, ?_, ?_, ?_, ?_, ?_, ?_⟩
  · have h1 := cnbN_up (P := fun _ => false) (Q := fun c => decide (¬ L c = 25)) (k := st) (fun j hj => by simp only [hL, if_neg hj]; decide) rfl (by simp [h0]) hst.1 25
    have h2 : ∀ n : Nat, cnbN (fun _ => false) n = 0 := by
      intro n
      induction n with
      | zero => rfl
      | succ n ih => unfold cnbN; rw [ih]; rfl
    rw [h2, if_pos (by omega)] at h1
    show (1 : Int) = cnbN _ 25
    rw [h1]
    rfl
  · intro i h1 h2
    have e : i = 0 := by omega
    rw [e, hq, h0]
    omega
  · intro i j h1 h2 h3
    have e : i = 0 := by omega
    have e2 : j = 0 := by omega
    rw [e, e2]
    exact Int.le_refl _
  · intro i j h1 h2 h3
    omega
  · intro c h1 h2 h3
    exact ⟨0, by omega, by omega, by rw [hq, hv c h3]⟩
  · intro c h1 h2 h3
    rw [hv c h3, h0]
    rfl
  · intro c h1 h2 h3 h4
    rw [hv c h3, h0, hq, h0]
    omega
  · intro i d h1 h2
    omega
  · intro c h1 h2 h3 h4
    exact absurd (hv c h3) h4
  · intro c h1 h2 h3 h4
    exact absurd (hv c h3) h4
  · intro i j h1 h2 h3 h4 h5
    have e : i = 0 := by omega
    rw [e, hq, h0] at h5
    omega
  · intro h1 j h2 h3 h4
    have e : j = 0 := by omega
    rw [e, hq, h0] at h4
    omega
theorem bfI_next {G : Int → Int → Int} {st h : Int} {L F q : Int → Int} {f : Int} (I : bfI G st h 4 L F q f) : bfI G st (h + 1) 0 L F q f := by
  obtain ⟨⟨a1, a2, a3⟩, b1, ⟨c1, c2⟩, d1, d2, d3, d4, d5, d6, d7, e1, e2, e3, e4⟩ := I
  have hf := a3 (by omega)
  refine ⟨⟨by omega, by omega, by omega⟩, b1, ⟨c1, c2⟩, d1, d2, d3, d4, d5, ?_, ?_, e1, e2, e3, ?_⟩
  · intro c h1 h2 h3 h4
    have := d6 c h1 h2 h3 hf
    have := d2 h (h + 1) a1.1 (by omega) h4
    omega
  · intro i d h1 h2 h3 h4 h5
    exact d7 i d h1 (by omega) h3 h4 h5
  · intro h1 j h2 h3 h4
    have q1 := d1 h a1.1 hf
    have q2 := d1 j h2 h3
    have q3 := d6 (q j) q2.1.1 q2.1.2 q2.2.2 hf
    have q4 := d2 h (h + 1) a1.1 (by omega) h1
    have q5 : L (q (h + 1)) = L (q h) := by omega
    have q6 : ¬ q h = st := by
      intro e
      have q7 := d5 _ (d1 (h + 1) (by omega) h1).1.1 (d1 (h + 1) (by omega) h1).1.2 (d1 (h + 1) (by omega) h1).2.2
      rw [q5, e, c1] at q7
      have q8 : q (h + 1) = st := q7
      exact d3 h (h + 1) a1.1 (by omega) h1 (by rw [e, q8])
    have q9 : 1 ≤ L (q h) := by
      rcases Int.lt_or_le (L (q h)) 1 with g | g
      · exfalso
        have g2 : L (q h) = 0 := by omega
        have g3 := d5 _ q1.1.1 q1.1.2 q1.2.2
        rw [g2] at g3
        exact q6 g3
      · exact g
    have q10 := e3 h (h + 1) a1.1 (by omega) h1 q5.symm q9
    have q11 := (e4 hf j h2 h3 (by omega)).2 q6
    refine ⟨fun e => ?_, fun _ => by omega⟩
    exfalso
    rw [q5.symm, e, c1] at q9
    omega
theorem bfI_same {G : Int → Int → Int} {st h dd : Int} {L F q : Int → Int} {f : Int} (I : bfI G st h dd L F q f) (hd : dd < 4) (hf : h < f) (hx : ¬ G (q h) dd = -1 → ¬ L (G (q h) dd) = 25) (hG : gOK G) : bfI G st h (dd + 1) L F q f := by
  obtain ⟨⟨a1, a2, a3⟩, b1, ⟨c1, c2⟩, d1, d2, d3, d4, d5, d6, d7, e1, e2, e3, e4⟩ := I
  refine ⟨⟨a1, by omega, fun _ => hf⟩, b1, ⟨c1, c2⟩, d1, d2, d3, d4, d5, d6, ?_, e1, e2, e3, ?_⟩
  · intro i d h1 h2 h3 h4 h5 h6
    by_cases g : i < h ∨ (i = h ∧ d < dd)
    · exact d7 i d h1 g h3 h4 h5 h6
    · have g1 : i = h := by omega
      have g2 : d = dd := by omega
      subst g1; subst g2
      have q1 := d1 i h1 h3
      have q2 := hG (q i) d q1.1.1 q1.1.2
      exact ⟨hx h6, d6 _ (by omega) (by omega) (hx h6) h3⟩
  · intro h1 j h2 h3 h4
    have q := e4 h1 j h2 h3 h4
    exact ⟨fun e => by have := q.1 e; omega, q.2⟩
/-- all that is nearer than the cell at hand has been found -/
theorem bfI_near {G : Int → Int → Int} {st h dd : Int} {L F q : Int → Int} {f : Int} (I : bfI G st h dd L F q f) (hG : gOK G) (hst : 0 ≤ st ∧ st ≤ 24) (hf : h < f) : ∀ (n : Nat), (n : Int) ≤ L (q h) → ∀ c, wk G n st c → ¬ L c = 25 ∧ L c ≤ n := by
  obtain ⟨⟨a1, a2, a3⟩, b1, ⟨c1, c2⟩, d1, d2, d3, d4, d5, d6, d7, e1, e2, e3, e4⟩ := I
  intro n
  induction n with
  | zero =>
    intro _ c hc
    have e : c = st := hc
    rw [e, c1]
    omega
  | succ n ih =>
    intro hn c hc
    obtain ⟨b, d, h1, h2, h3, h4⟩ := hc
    obtain ⟨g1, g2⟩ := ih (by omega) b h1
    have hb := wk_in hG hst h1
    obtain ⟨i, i0, i1, i2⟩ := d4 b hb.1 hb.2 g1
    have i3 : i < h := by
      rcases Int.lt_or_le i h with g | g
      · exact g
      · exfalso
        have := d2 h i a1.1 g i1
        rw [i2] at this
        omega
    have q1 := d7 i d i0 (Or.inl i3) i1 h2.1 h2.2 (by rw [i2, h3]; exact h4)
    rw [i2, h3] at q1
    exact ⟨q1.1, by omega⟩
theorem bfI_add {G : Int → Int → Int} {st h dd : Int} {L F q : Int → Int} {f : Int} (I : bfI G st h dd L F q f) (hG : gOK G) (hst : 0 ≤ st ∧ st ≤ 24) (hd : dd < 4) (hf : h < f) {c : Int} (hc : G (q h) dd = c) (hn : ¬ c = -1) (hL : L c = 25) :
    f ≤ 24 ∧ bfI G st h (dd + 1) (ui L c (L (q h) + 1)) (ui F c (if q h = st then dd else F (q h))) (ui q f c) (f + 1) := by
  have hnear := bfI_near I hG hst hf
  obtain ⟨⟨a1, a2, a3⟩, b1, ⟨c1, c2⟩, d1, d2, d3, d4, d5, d6, d7, e1, e2, e3, e4⟩ := I
  have qh := d1 h a1.1 hf
  have hcr := hG (q h) dd qh.1.1 qh.1.2
  rw [hc] at hcr
  have hf24 : f ≤ 24 := by
    have := cnbN_lt (P := fun c => decide (¬ L c = 25)) (k := c) (n := 25) (by simp [hL]) (by omega) (by omega)
    rw [b1]
    exact this
  have hcs : ¬ c = st := fun e => by rw [e, c1] at hL; omega
  have hqc : ∀ i, 0 ≤ i → i < f → ¬ q i = c := fun i h1 h2 e => (d1 i h1 h2).2.2 (by rw [e]; exact hL)
  have hq' : ∀ i, 0 ≤ i → i < f → ui q f c i = q i := fun i h1 h2 => ui_n (by omega)
  have hL' : ∀ i, 0 ≤ i → i < f → ui L c (L (q h) + 1) (q i) = L (q i) := fun i h1 h2 => ui_n (hqc i h1 h2)
  have hF' : ∀ i, 0 ≤ i → i < f → ui F c (if q h = st then dd else F (q h)) (q i) = F (q i) := fun i h1 h2 => ui_n (hqc i h1 h2)
  have hlh : L (q h) ≤ 23 := by have := qh.2.1; omega
  have hnc : ui L c (L (q h) + 1) c = L (q h) + 1 := ui_s
  refine ⟨hf24, ⟨⟨by omega, by omega, fun _ => by omega⟩, ?_, ⟨?_, ?_⟩, ?_, ?_, ?_, ?_, ?_, ?_, ?_, ?_, ?_, ?_, ?_⟩⟩
  · have := cnbN_up (P := fun c => decide (¬ L c = 25)) (Q := fun c9 => decide (¬ ui L c (L (q h) + 1) c9 = 25)) (k := c) (fun j hj => by simp only [ui_n hj]) (by simp [hL]) (by simp [hnc]; omega) (by omega) 25
    rw [if_pos (by omega)] at this
    show f + 1 = cnbN _ 25
    rw [this, b1]
    rfl
  · rw [ui_n (fun e => hcs e.symm)]; exact c1
  · rw [hq' 0 (by omega) (by omega)]; exact c2
  · intro i h1 h2
    by_cases e : i = f
    · subst e
      rw [ui_s, hnc]
      have := qh.2.1
      refine ⟨by omega, by omega, by omega⟩
    · rw [hq' i h1 (by omega), hL' i h1 (by omega)]
      exact d1 i h1 (by omega)
  · intro i j h1 h2 h3
    by_cases e : j = f
    · subst e
      rw [ui_s, hnc]
      by_cases e2 : i = j
      · subst e2
        rw [ui_s, hnc]
        exact Int.le_refl _
      · rw [hq' i h1 (by omega), hL' i h1 (by omega)]
        have q1 := d1 i h1 (by omega)
        exact d6 _ q1.1.1 q1.1.2 q1.2.2 hf
    · rw [hq' i h1 (by omega), hL' i h1 (by omega), hq' j (by omega) (by omega), hL' j (by omega) (by omega)]
      exact d2 i j h1 h2 (by omega)
  · intro i j h1 h2 h3
    by_cases e : j = f
    · subst e
      rw [ui_s, hq' i h1 (by omega)]
      exact hqc i h1 (by omega)
    · rw [hq' i h1 (by omega), hq' j (by omega) (by omega)]
      exact d3 i j h1 h2 (by omega)
  · intro c9 h1 h2 h3
    by_cases e : c9 = c
    · exact ⟨f, by omega, by omega, by rw [ui_s, e]⟩
    · rw [ui_n e] at h3
      obtain ⟨i, i1, i2, i3⟩ := d4 c9 h1 h2 h3
      exact ⟨i, i1, by omega, by rw [hq' i i1 i2]; exact i3⟩
  · intro c9 h1 h2 h3
    by_cases e : c9 = c
    · rw [e, hnc]
      have e2 : (L (q h) + 1).toNat = (L (q h)).toNat + 1 := by have := qh.2.1; omega
      rw [e2]
      exact ⟨q h, dd, d5 _ qh.1.1 qh.1.2 qh.2.2, by omega, hc, hn⟩
    · rw [ui_n e] at h3 ⊢
      exact d5 c9 h1 h2 h3
  · intro c9 h1 h2 h3 _
    rw [hq' h a1.1 hf, hL' h a1.1 hf]
    by_cases e : c9 = c
    · rw [e, hnc]; exact Int.le_refl _
    · rw [ui_n e] at h3 ⊢
      exact d6 c9 h1 h2 h3 hf
  · intro i d h1 h2 h3 h4 h5 h6
    have hi : i < f := by omega
    rw [hq' i h1 hi] at h6 ⊢
    rw [hL' i h1 hi]
    by_cases g : G (q i) d = c
    · rw [g, hnc]
      refine ⟨by omega, ?_⟩
      by_cases g2 : i < h ∨ (i = h ∧ d < dd)
      · exfalso
        have := (d7 i d h1 g2 hi h4 h5 h6).1
        rw [g] at this
        exact this hL
      · have g3 : i = h := by omega
        rw [g3]
        exact Int.le_refl _
    · rw [ui_n g]
      by_cases g2 : i < h ∨ (i = h ∧ d < dd)
      · exact d7 i d h1 g2 hi h4 h5 h6
      · exfalso
        have g3 : i = h := by omega
        have g4 : d = dd := by omega
        rw [g3, g4] at g
        exact g hc
  · intro c9 h1 h2 h3 h4
    by_cases e : c9 = c
    · rw [e, hnc, ui_s]
      have e5 : (L (q h) + 1 - 1).toNat = (L (q h)).toNat := by omega
      rw [e5]
      by_cases g : q h = st
      · rw [if_pos g]
        rw [g] at hc
        refine ⟨by omega, by rw [hc]; exact hn, ?_⟩
        rw [g, c1]
        show c = G st dd
        exact hc.symm
      · rw [if_neg g]
        obtain ⟨g1, g2, g3⟩ := e1 (q h) qh.1.1 qh.1.2 qh.2.2 g
        refine ⟨g1, g2, ?_⟩
        have g4 : 1 ≤ L (q h) := by
          rcases Int.lt_or_le (L (q h)) 1 with w | w
          · exfalso
            have w2 : L (q h) = 0 := by have := qh.2.1; omega
            have w3 := d5 _ qh.1.1 qh.1.2 qh.2.2
            rw [w2] at w3
            exact g w3
          · exact w
        have g5 : (L (q h)).toNat = (L (q h) - 1).toNat + 1 := by omega
        rw [g5]
        exact ⟨q h, dd, g3, by omega, hc, hn⟩
    · rw [ui_n e] at h3
      rw [ui_n e, ui_n e]
      exact e1 c9 h1 h2 h3 h4
  · intro c9 h1 h2 h3 h4 d h5 h6 h7
    by_cases e : c9 = c
    · rw [e, hnc]
      rw [e, ui_s] at h6
      have e5 : (L (q h) + 1 - 1).toNat = (L (q h)).toNat := by omega
      rw [e5]
      intro hw
      by_cases g : q h = st
      · rw [if_pos g] at h6
        rw [g, c1] at hw
        have hw : c = G st d := hw
        have := (d7 h d a1.1 (Or.inr ⟨rfl, h6⟩) hf h5 (by omega) (by rw [g]; exact h7)).1
        rw [g, ← hw] at this
        exact this hL
      · rw [if_neg g] at h6
        have hFr := (e1 (q h) qh.1.1 qh.1.2 qh.2.2 g).1
        have g4 : 1 ≤ L (q h) := by
          rcases Int.lt_or_le (L (q h)) 1 with w | w
          · exfalso
            have w2 : L (q h) = 0 := by have := qh.2.1; omega
            have w3 := d5 _ qh.1.1 qh.1.2 qh.2.2
            rw [w2] at w3
            exact g w3
          · exact w
        have g5 : (L (q h)).toNat = (L (q h) - 1).toNat + 1 := by omega
        rw [g5] at hw
        obtain ⟨b, d8, w1, w2, w3, w4⟩ := hw
        have w5 := wk_pre ⟨h5, by omega⟩ h7 w1
        have hb := wk_in hG hst w5
        obtain ⟨w6, w7⟩ := hnear _ (by omega) b w5
        obtain ⟨i, i1, i2, i3⟩ := d4 b hb.1 hb.2 w6
        by_cases g6 : i < h
        · have := (d7 i d8 i1 (Or.inl g6) i2 w2.1 w2.2 (by rw [i3, w3]; exact w4)).1
          rw [i3, w3] at this
          exact this hL
        · have g7 := d2 h i a1.1 (by omega) i2
          rw [i3] at g7
          have g8 : L b = L (q h) := by omega
          have g9 : ¬ b = st := fun e9 => by rw [e9, c1] at g8; omega
          have g10 := e3 h i a1.1 (by omega) i2 (by rw [i3]; exact g8.symm) g4
          rw [i3] at g10
          have g11 := e2 b hb.1 hb.2 w6 g9 d h5 (by omega) h7
          rw [g8] at g11
          exact g11 w1
    · rw [ui_n e] at h3 h6
      rw [ui_n e]
      exact e2 c9 h1 h2 h3 h4 d h5 h6 h7
  · intro i j h1 h2 h3
    by_cases e : j = f
    · subst e
      rw [ui_s, hnc, ui_s]
      by_cases e2 : i = j
      · subst e2
        intro _ _
        simp only [ui_s]
        exact Int.le_refl _
      · rw [hq' i h1 (by omega), hL' i h1 (by omega), hF' i h1 (by omega)]
        intro g1 g2
        have g3 := e4 hf i h1 (by omega) g1
        by_cases g : q h = st
        · rw [if_pos g]
          have := g3.1 g
          omega
        · rw [if_neg g]
          exact g3.2 g
    · rw [hq' i h1 (by omega), hL' i h1 (by omega), hF' i h1 (by omega), hq' j (by omega) (by omega), hL' j (by omega) (by omega), hF' j (by omega) (by omega)]
      exact e3 i j h1 h2 (by omega)
  · intro _ j h2 h3
    rw [hq' h a1.1 hf, hL' h a1.1 hf, hF' h a1.1 hf]
    by_cases e : j = f
    · subst e
      rw [ui_s, hnc, ui_s]
      intro _
      by_cases g : q h = st
      · rw [if_pos g]
        exact ⟨fun _ => by omega, fun w => absurd g w⟩
      · rw [if_neg g]
        exact ⟨fun w => absurd w g, fun _ => Int.le_refl _⟩
    · rw [hq' j h2 (by omega), hL' j h2 (by omega), hF' j h2 (by omega)]
      intro g1
      have g3 := e4 hf j h2 (by omega) g1
      exact ⟨fun g => by have := g3.1 g; omega, g3.2⟩
/-- the direction of the first step of a shortest walk, the lowest -/
def isF (G : Int → Int → Int) (st : Int) (L F : Int → Int) : Prop := ∀ c, 0 ≤ c → c ≤ 24 → ¬ L c = 25 → ¬ c = st → ((0 ≤ F c ∧ F c ≤ 3) ∧ ¬ G st (F c) = -1 ∧ wk G (L c - 1).toNat (G st (F c)) c) ∧ ∀ d, 0 ≤ d → d < F c → ¬ G st d = -1 → ¬ wk G (L c - 1).toNat (G st d) c
theorem bfI_end {G : Int → Int → Int} {st : Int} {L F q : Int → Int} {f : Int} (I : bfI G st f 0 L F q f) (hG : gOK G) (hst : 0 ≤ st ∧ st ≤ 24) : isD G st L ∧ isF G st L F := by
  obtain ⟨⟨a1, a2, a3⟩, b1, ⟨c1, c2⟩, d1, d2, d3, d4, d5, d6, d7, e1, e2, e3, e4⟩ := I
  have hf25 : f ≤ 25 := by rw [b1]; exact (cnbN_le _ 25).2
  refine ⟨fun c h0 h1 => ⟨fun hL => ?_, ?_⟩, fun c h0 h1 hL hs => ⟨e1 c h0 h1 hL hs, e2 c h0 h1 hL hs⟩⟩
  · obtain ⟨i, i1, i2, i3⟩ := d4 c h0 h1 hL
    have h2 := (d1 i i1 i2).2.1
    rw [i3] at h2
    exact ⟨by omega, d5 c h0 h1 hL⟩
  · intro n
    have key : ∀ (n : Nat) (c : Int), wk G n st c → L c ≤ n ∧ ¬ L c = 25 := by
      intro n
      induction n with
      | zero =>
        intro c hc
        have e : c = st := hc
        rw [e, c1]
        omega
      | succ n ih =>
        intro c hc
        obtain ⟨b, d, h1, h2, h3, h4⟩ := hc
        obtain ⟨g1, g2⟩ := ih b h1
        have hb := wk_in hG hst h1
        obtain ⟨i, i1, i2, i3⟩ := d4 b hb.1 hb.2 g2
        have := d7 i d i1 (Or.inl i2) i2 h2.1 h2.2 (by rw [i3, h3]; exact h4)
        rw [i3, h3] at this
        exact ⟨by omega, this.1⟩
    exact key n c
theorem isF_dz {G : Int → Int → Int} {st : Int} {L F : Int → Int} (h : isD G st L) (hF : isF G st L F) : isF G st (dz G st) F := by
  intro c h0 h1 h2 h3
  rw [← dz_of h h0 h1] at h2 ⊢
  exact hF c h0 h1 h2 h3
/-- a walker's graph -/
def Gw (op lk kp : Int → Int) (w : Int) : Int → Int → Int := fun b d => if cnZ op b d = -1 then -1 else if lk (cnZ op b d) = -1 ∨ kp (lk (cnZ op b d)) = 25 + w then cnZ op b d else -1
theorem Gw_ok {op lk kp : Int → Int} {w : Int} : gOK (Gw op lk kp w) := by
  intro b d h0 h1
  have := cnZ_rg (op := op) (d := d) h0 h1
  unfold Gw
  repeat' split
  all_goals omega
/-- what one cell does for its neighbours, of the first dd directions -/
def loI (G : Int → Int → Int) (cell dd : Int) (R0 R : Int → Int) (lb : Bool) : Prop :=
  (∀ c, R c ≤ R0 c) ∧ (∀ d, 0 ≤ d → d < dd → ¬ G cell d = -1 → R (G cell d) ≤ R0 cell + 1) ∧ (∀ c, R c = R0 c ∨ (R c = R0 cell + 1 ∧ R0 cell + 1 < R0 c ∧ ∃ d, (0 ≤ d ∧ d ≤ 3) ∧ G cell d = c ∧ ¬ c = -1)) ∧ (lb = false → ∀ c, R c = R0 c)
theorem loI_0 {G : Int → Int → Int} {cell : Int} {R0 : Int → Int} : loI G cell 0 R0 R0 false := ⟨fun _ => Int.le_refl _, fun d h0 h1 => by omega, fun _ => Or.inl rfl, fun _ _ => rfl⟩
theorem loI_same {G : Int → Int → Int} {cell dd : Int} {R0 R : Int → Int} {lb : Bool} (I : loI G cell dd R0 R lb) (h : ¬ G cell dd = -1 → R (G cell dd) ≤ R0 cell + 1) : loI G cell (dd + 1) R0 R lb := by
  obtain ⟨a, b, c, d⟩ := I
  refine ⟨a, fun d9 h0 h1 h2 => ?_, c, d⟩
  by_cases e : d9 = dd
  · rw [e] at h2 ⊢; exact h h2
  · exact b d9 h0 (by omega) h2
theorem loI_add {G : Int → Int → Int} {cell dd : Int} {R0 R : Int → Int} {lb : Bool} (I : loI G cell dd R0 R lb) {x : Int} (hd : 0 ≤ dd ∧ dd ≤ 3) (hx : G cell dd = x) (hn : ¬ x = -1) (hl : R0 cell + 1 < R x) : loI G cell (dd + 1) R0 (ui R x (R0 cell + 1)) true := by
  obtain ⟨a, b, c, d⟩ := I
  have ax := a x
  refine ⟨fun c9 => ?_, fun d9 h0 h1 h2 => ?_, fun c9 => ?_, fun h => by cases h⟩
  · by_cases e : c9 = x
    · rw [e, ui_s]; omega
    · rw [ui_n e]; exact a c9
  · by_cases e : G cell d9 = x
    · rw [e, ui_s]; exact Int.le_refl _
    · rw [ui_n e]
      have e2 : ¬ d9 = dd := fun g => e (by rw [g]; exact hx)
      exact b d9 h0 (by omega) h2
  · by_cases e : c9 = x
    · rw [e, ui_s]; exact Or.inr ⟨rfl, by omega, dd, hd, hx, hn⟩
    · rw [ui_n e]; exact c c9
/-- rounds: what holds ahead of each -/
def roI (G : Int → Int → Int) (st r : Int) (R : Int → Int) (ch : Bool) : Prop :=
  (∀ c, 0 ≤ R c ∧ R c ≤ 25) ∧ (∀ c, 0 ≤ c → c ≤ 24 → ¬ R c = 25 → wk G (R c).toNat st c) ∧ (∀ (n : Nat) (c : Int), (n : Int) ≤ r → wk G n st c → R c ≤ n) ∧ (ch = false → ∀ b d, 0 ≤ b → b ≤ 24 → 0 ≤ d → d ≤ 3 → ¬ G b d = -1 → R (G b d) ≤ R b + 1)
/-- .. and within one, with k cells done -/
def rpI (G : Int → Int → Int) (st k : Int) (R0 R : Int → Int) (ch : Bool) : Prop :=
  (∀ c, 0 ≤ R c ∧ R c ≤ 25) ∧ (∀ c, 0 ≤ c → c ≤ 24 → ¬ R c = 25 → wk G (R c).toNat st c) ∧ (∀ c, R c ≤ R0 c) ∧ (∀ b d, 0 ≤ b → b < k → 0 ≤ d → d ≤ 3 → ¬ G b d = -1 → R (G b d) ≤ R0 b + 1) ∧ (ch = false → ∀ c, R c = R0 c)
theorem roI_0 {G : Int → Int → Int} {st : Int} {R : Int → Int} (hR : ∀ c, R c = if c = st then 0 else 25) : roI G st 0 R true := by
  refine ⟨fun c => by rw [hR]; split <;> omega, fun c h0 h1 h2 => ?_, fun n c hn hc => ?_, fun h => by cases h⟩
  · by_cases e : c = st
    · rw [hR, if_pos e]; exact e
    · rw [hR, if_neg e] at h2; exact absurd rfl h2
  · have e : n = 0 := by omega
    subst e
    have e2 : c = st := hc
    rw [hR, if_pos e2]
    omega
theorem rpI_0 {G : Int → Int → Int} {st r : Int} {R : Int → Int} {ch : Bool} (I : roI G st r R ch) : rpI G st 0 R R false := ⟨I.1, I.2.1, fun _ => Int.le_refl _, fun b d h0 h1 => by omega, fun _ _ => rfl⟩
theorem rpI_skip {G : Int → Int → Int} {st k : Int} {R0 R : Int → Int} {ch : Bool} (I : rpI G st k R0 R ch) (h : 25 ≤ R k) : rpI G st (k + 1) R0 R ch := by
  obtain ⟨a, b, c, d, e⟩ := I
  refine ⟨a, b, c, fun b9 d9 h0 h1 h2 h3 h4 => ?_, e⟩
  by_cases g : b9 = k
  · have := c k
    have := a (G b9 d9)
    rw [g] at this ⊢
    omega
  · exact d b9 d9 h0 (by omega) h2 h3 h4
theorem rpI_low {G : Int → Int → Int} {st k : Int} {R0 R R1 : Int → Int} {ch lb : Bool} (I : rpI G st k R0 R ch) (hk : 0 ≤ k ∧ k ≤ 24) (hl : R k < 25) (J : loI G k 4 R R1 lb) : rpI G st (k + 1) R0 R1 (if lb = true then true else ch) := by
  obtain ⟨a, b, c, d, e⟩ := I
  obtain ⟨p, q, r, s9⟩ := J
  have ak := a k
  refine ⟨fun c9 => ?_, fun c9 h0 h1 h2 => ?_, fun c9 => Int.le_trans (p c9) (c c9), fun b9 d9 h0 h1 h2 h3 h4 => ?_, fun h c9 => ?_⟩
  · have := a c9
    rcases r c9 with g | ⟨g, g2, -⟩ <;> omega
  · rcases r c9 with g | ⟨g, g2, d9, g3, g4, g5⟩
    · rw [g] at h2 ⊢; exact b c9 h0 h1 h2
    · rw [g]
      have e2 : (R k + 1).toNat = (R k).toNat + 1 := by omega
      rw [e2]
      exact ⟨k, d9, b k hk.1 hk.2 (by omega), g3, g4, g5⟩
  · by_cases g : b9 = k
    · rw [g] at h4 ⊢
      have := q d9 h2 (by omega) h4
      have := c k
      omega
    · have := d b9 d9 h0 (by omega) h2 h3 h4
      exact Int.le_trans (p _) this
  · cases lb with
    | true => simp at h
    | false =>
      simp at h
      rw [s9 rfl c9]
      exact e h c9
theorem roI_next {G : Int → Int → Int} (hG : gOK G) {st r : Int} (hst : 0 ≤ st ∧ st ≤ 24) {R0 R : Int → Int} {ch0 ch : Bool} (hr : 0 ≤ r) (I0 : roI G st r R0 ch0) (I : rpI G st 25 R0 R ch) : roI G st (r + 1) R ch := by
  obtain ⟨a, b, c, d, e⟩ := I
  refine ⟨a, b, fun n c9 hn hc => ?_, fun h b9 d9 h0 h1 h2 h3 h4 => ?_⟩
  · cases n with
    | zero => exact Int.le_trans (c c9) (I0.2.2.1 0 c9 (by omega) hc)
    | succ n =>
      obtain ⟨b9, d9, h1, h2, h3, h4⟩ := hc
      have h5 := I0.2.2.1 n b9 (by omega) h1
      have hb := wk_in hG hst h1
      have h6 := d b9 d9 hb.1 (by omega) h2.1 h2.2 (by rw [h3]; exact h4)
      rw [h3] at h6
      omega
  · have h5 := d b9 d9 h0 (by omega) h2 h3 h4
    rw [e h b9]
    exact h5
theorem roI_end {G : Int → Int → Int} (hG : gOK G) {st r : Int} (hst : 0 ≤ st ∧ st ≤ 24) {R : Int → Int} {ch : Bool} (I : roI G st r R ch) (hr : 0 ≤ r) (h : ch = false ∨ 25 ≤ r) : isD G st R := by
  obtain ⟨a, b, c, d⟩ := I
  have key : ∀ (n : Nat) (c9 : Int), n ≤ 24 → wk G n st c9 → R c9 ≤ n := by
    rcases h with h | h
    · intro n
      induction n with
      | zero => intro c9 _ hc; exact c 0 c9 (by omega) hc
      | succ n ih =>
        intro c9 hn ⟨b9, d9, h1, h2, h3, h4⟩
        have h5 := ih b9 (by omega) h1
        have hb := wk_in hG hst h1
        have h6 := d h b9 d9 hb.1 hb.2 h2.1 h2.2 (by rw [h3]; exact h4)
        rw [h3] at h6
        omega
    · intro n c9 hn hc
      exact c n c9 (by omega) hc
  obtain ⟨k, hk, hs⟩ := wk_24 hG hst
  intro c9 h0 h1
  refine ⟨fun h2 => ⟨by have := a c9; omega, b c9 h0 h1 h2⟩, fun n hn => ?_⟩
  obtain ⟨m, hm, hw⟩ := hs n c9 hn
  have h3 := key m c9 (by omega) hw
  refine ⟨?_, by omega⟩
  rcases Nat.lt_or_ge n 25 with g | g
  · exact key n c9 (by omega) hn
  · omega
noncomputable def walkF (op lk kp wc : Int → Int) (pn nw sh wk : Int) (w r c : Int) : Int × BT :=
  if ¬ ((0 ≤ w ∧ w < nw) ∧ okC r c) then (-1, op, lk, kp, wc, pn, nw, sh, wk) else if wc w = r * 5 + c then (-2, op, lk, kp, wc, pn, nw, sh, wk) else if 25 ≤ dz (Gw op lk kp w) (wc w) (r * 5 + c) then (-3, op, lk, kp, wc, pn, nw, sh, wk) else
    (dz (Gw op lk kp w) (wc w) (r * 5 + c), op, lk, brK kp (r * 5 + c) w 6, ui wc w (r * 5 + c), pn, nw, sh, wk + dz (Gw op lk kp w) (wc w) (r * 5 + c))
