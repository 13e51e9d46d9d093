/-! ===== the model's reading ===== -/
abbrev rOk (t : Int → Int) (n a b sp : Int) : Prop := sp < n ∧ a ≤ t sp ∧ t sp ≤ b
def rSp (t : Int → Int) (n a b sp wr : Int) : Int := if wr = -1 ∧ rOk t n a b sp then sp + 1 else sp
def rWr (t : Int → Int) (n a b sp wr : Int) : Int := if wr = -1 then (if rOk t n a b sp then -1 else sp) else wr
def rVl (t : Int → Int) (n a b sp wr : Int) : Int := if wr = -1 ∧ rOk t n a b sp then t sp - a else 0
theorem rd_y {t : Int → Int} {n a b sp wr : Int} (h : wr = -1) (h2 : rOk t n a b sp) : rSp t n a b sp wr = sp + 1 ∧ rWr t n a b sp wr = -1 ∧ rVl t n a b sp wr = t sp - a := by
  unfold rSp rWr rVl
  rw [if_pos ⟨h, h2⟩, if_pos h, if_pos h2, if_pos ⟨h, h2⟩]
  exact ⟨rfl, rfl, rfl⟩
theorem rd_n {t : Int → Int} {n a b sp wr : Int} (h : wr = -1) (h2 : ¬ rOk t n a b sp) : rSp t n a b sp wr = sp ∧ rWr t n a b sp wr = sp ∧ rVl t n a b sp wr = 0 := by
  unfold rSp rWr rVl
  rw [if_neg (fun q => h2 q.2), if_pos h, if_neg h2, if_neg (fun q => h2 q.2)]
  exact ⟨rfl, rfl, rfl⟩
theorem rd_w {t : Int → Int} {n a b sp wr : Int} (h : ¬ wr = -1) : rSp t n a b sp wr = sp ∧ rWr t n a b sp wr = wr ∧ rVl t n a b sp wr = 0 := by
  unfold rSp rWr rVl
  rw [if_neg (fun q => h q.1), if_neg h, if_neg (fun q => h q.1)]
  exact ⟨rfl, rfl, rfl⟩
def leZ (t : Int → Int) (n sp : Int) : Int := if sp < n then t sp else -1
theorem le_ok {t : Int → Int} {n a b sp : Int} (ha : 0 ≤ a) : (a ≤ leZ t n sp ∧ leZ t n sp ≤ b) ↔ rOk t n a b sp := by
  unfold leZ
  split <;> omega
theorem leZ_b {t : Int → Int} {n sp : Int} (h : ∀ j, 0 ≤ t j ∧ t j ≤ 65535) : -1 ≤ leZ t n sp ∧ leZ t n sp ≤ 65535 := by
  have := h sp
  unfold leZ
  split <;> omega
/-- in the middle of a pattern -/
def RelI (t : Int → Int) (n : Int) (M : Int × List Int) (ks : List Int) (s w : Int) (vs : List Int) : Prop := (w = -1 ∧ (0 ≤ s ∧ s ≤ n) ∧ M = mtL t n ks s vs) ∨ ((0 ≤ w ∧ w ≤ n) ∧ (0 ≤ s ∧ s ≤ n) ∧ M.1 = -1 - w)
theorem RelI_b {t : Int → Int} {n : Int} {M : Int × List Int} {ks : List Int} {s w : Int} {vs : List Int} (h : RelI t n M ks s w vs) : (0 ≤ s ∧ s ≤ n) ∧ -1 ≤ w ∧ w ≤ n ∨ n < 0 := by
  rcases h with ⟨h1, h2, _⟩ | ⟨h1, h2, _⟩ <;> omega
theorem mt_1 {t : Int → Int} {n k a b s : Int} {ks vs : List Int} (hk : ¬ k = 78) (h : ftB k (t s) = true ↔ a ≤ t s ∧ t s ≤ b) : mtL t n (k :: ks) s vs = if rOk t n a b s then mtL t n ks (s + 1) (if phP k then vs ++ [vlZ k (t s)] else vs) else (-1 - s, vs) := by
  rw [mtL_cs]
  by_cases q : rOk t n a b s
  · rw [if_pos q, if_pos ⟨q.1, h.mpr q.2⟩, if_neg (fun z => hk z.1)]
  · rw [if_neg q, if_neg (fun z => q ⟨z.1, h.mp z.2⟩)]
theorem rel_1 {t : Int → Int} {n k a b s w : Int} {M : Int × List Int} {ks vs : List Int} (hk : ¬ k = 78) (h : ftB k (t s) = true ↔ a ≤ t s ∧ t s ≤ b) (I : RelI t n M (k :: ks) s w vs) : RelI t n M ks (rSp t n a b s w) (rWr t n a b s w) (if phP k then vs ++ [vlZ k (t s)] else vs) ∧ (¬ rWr t n a b s w = -1 ∨ (w = -1 ∧ rOk t n a b s)) := by
  rcases I with ⟨h1, h2, h3⟩ | ⟨h1, h2, h3⟩
  · rw [mt_1 hk h] at h3
    by_cases q : rOk t n a b s
    · obtain ⟨e1, e2, e3⟩ := rd_y h1 q
      rw [e1, e2]
      rw [if_pos q] at h3
      exact ⟨Or.inl ⟨rfl, by omega, h3⟩, Or.inr ⟨h1, q⟩⟩
    · obtain ⟨e1, e2, e3⟩ := rd_n h1 q
      rw [e1, e2]
      rw [if_neg q] at h3
      exact ⟨Or.inr ⟨by omega, by omega, by rw [h3]⟩, Or.inl (by omega)⟩
  · obtain ⟨e1, e2, e3⟩ := rd_w (t := t) (n := n) (a := a) (b := b) (sp := s) (show ¬ w = -1 by omega)
    rw [e1, e2]
    exact ⟨Or.inr ⟨h1, h2, h3⟩, Or.inl (by omega)⟩
/-- what is read stays beside the values as long as nothing is wrong -/
theorem RelI_vs {t : Int → Int} {n s w : Int} {M : Int × List Int} {ks vs us : List Int} (h : RelI t n M ks s w vs) (e : w = -1 → vs = us) : RelI t n M ks s w us := by
  rcases h with ⟨h1, h2, h3⟩ | ⟨h1, h2, h3⟩
  · exact Or.inl ⟨h1, h2, by rw [← e h1]; exact h3⟩
  · exact Or.inr ⟨h1, h2, h3⟩
theorem rel_D {t : Int → Int} {n s w : Int} {M : Int × List Int} {ks vs : List Int} (I : RelI t n M (68 :: ks) s w vs) : RelI t n M ks (rSp t n 48 57 s w) (rWr t n 48 57 s w) (vs ++ [rVl t n 48 57 s w]) := by
  have h := rel_1 (a := 48) (b := 57) (by decide) ftD I
  refine RelI_vs h.1 (fun e => ?_)
  rcases h.2 with q | ⟨q1, q2⟩
  · exact absurd e q
  · rw [if_pos (Or.inl rfl), (rd_y q1 q2).2.2, vlD]
theorem rel_B {t : Int → Int} {n s w : Int} {M : Int × List Int} {ks vs : List Int} (I : RelI t n M (32 :: ks) s w vs) : RelI t n M ks (rSp t n 32 32 s w) (rWr t n 32 32 s w) vs := by
  have h := rel_1 (a := 32) (b := 32) (by decide) (by rw [ftO (by decide)]; omega) I
  rw [if_neg (by decide)] at h
  exact h.1
theorem rel_L {t : Int → Int} {n s w : Int} {M : Int × List Int} {ks vs : List Int} (I : RelI t n M (76 :: ks) s w vs) : RelI t n M ks (rSp t n 97 102 s w) (rWr t n 97 102 s w) (vs ++ [97 + rVl t n 97 102 s w]) := by
  have h := rel_1 (a := 97) (b := 102) (by decide) (by rw [ftL]; omega) I
  refine RelI_vs h.1 (fun e => ?_)
  rcases h.2 with q | ⟨q1, q2⟩
  · exact absurd e q
  · rw [if_pos (Or.inr (Or.inr (Or.inr rfl))), (rd_y q1 q2).2.2, vlL, show 97 + (t s - 97) = t s by omega]
theorem rel_S {t : Int → Int} {n s w : Int} {M : Int × List Int} {ks vs : List Int} (I : RelI t n M (83 :: ks) s w vs) : (leZ t n s = 43 → RelI t n M ks (rSp t n 43 43 s w) (rWr t n 43 43 s w) (vs ++ [1])) ∧ (¬ leZ t n s = 43 → RelI t n M ks (rSp t n 45 45 s w) (rWr t n 45 45 s w) (vs ++ [-1])) := by
  have hl : leZ t n s = if s < n then t s else -1 := rfl
  rcases I with ⟨h1, h2, h3⟩ | ⟨h1, h2, h3⟩
  · rw [mtL_cs] at h3
    constructor
    · intro g
      have q : s < n ∧ t s = 43 := by
        split at hl <;> omega
      rw [if_pos ⟨q.1, ftS.mpr (Or.inl q.2)⟩, if_neg (fun z => absurd z.1 (by decide)), if_pos (Or.inr (Or.inr (Or.inl rfl))), vlS, if_pos q.2] at h3
      obtain ⟨e1, e2, e3⟩ := rd_y (t := t) (n := n) (a := 43) (b := 43) (sp := s) h1 ⟨q.1, by omega, by omega⟩
      rw [e1, e2]
      exact Or.inl ⟨rfl, by omega, h3⟩
    · intro g
      by_cases q : s < n ∧ t s = 45
      · rw [if_pos ⟨q.1, ftS.mpr (Or.inr q.2)⟩, if_neg (fun z => absurd z.1 (by decide)), if_pos (Or.inr (Or.inr (Or.inl rfl))), vlS, if_neg (by omega)] at h3
        obtain ⟨e1, e2, e3⟩ := rd_y (t := t) (n := n) (a := 45) (b := 45) (sp := s) h1 ⟨q.1, by omega, by omega⟩
        rw [e1, e2]
        exact Or.inl ⟨rfl, by omega, h3⟩
      · have q2 : ¬ (s < n ∧ ftB 83 (t s) = true) := by
          rintro ⟨z1, z2⟩
          rcases ftS.mp z2 with y | y
          · rw [if_pos z1] at hl
            exact g (hl.trans y)
          · exact q ⟨z1, y⟩
        rw [if_neg q2] at h3
        obtain ⟨e1, e2, e3⟩ := rd_n (t := t) (n := n) (a := 45) (b := 45) (sp := s) h1 (fun z => q ⟨z.1, by omega⟩)
        rw [e1, e2]
        exact Or.inr ⟨by omega, by omega, by rw [h3]⟩
  · constructor
    · intro _
      obtain ⟨e1, e2, e3⟩ := rd_w (t := t) (n := n) (a := 43) (b := 43) (sp := s) (show ¬ w = -1 by omega)
      rw [e1, e2]
      exact Or.inr ⟨h1, h2, h3⟩
    · intro _
      obtain ⟨e1, e2, e3⟩ := rd_w (t := t) (n := n) (a := 45) (b := 45) (sp := s) (show ¬ w = -1 by omega)
      rw [e1, e2]
      exact Or.inr ⟨h1, h2, h3⟩
/-- a number of one digit, or of two -/
theorem rel_N {t : Int → Int} {n s w : Int} {M : Int × List Int} {vs : List Int} (I : RelI t n M [78] s w vs) :
    (¬ (rWr t n 48 57 s w = -1 ∧ rOk t n 48 57 (rSp t n 48 57 s w)) → RelI t n M [] (rSp t n 48 57 s w) (rWr t n 48 57 s w) (vs ++ [rVl t n 48 57 s w])) ∧
    ((rWr t n 48 57 s w = -1 ∧ rOk t n 48 57 (rSp t n 48 57 s w)) → RelI t n M [] (rSp t n 48 57 (rSp t n 48 57 s w) (rWr t n 48 57 s w)) (rWr t n 48 57 (rSp t n 48 57 s w) (rWr t n 48 57 s w)) (vs ++ [10 * rVl t n 48 57 s w + rVl t n 48 57 (rSp t n 48 57 s w) (rWr t n 48 57 s w)])) := by
  rcases I with ⟨h1, h2, h3⟩ | ⟨h1, h2, h3⟩
  · rw [mtL_cs] at h3
    by_cases q : rOk t n 48 57 s
    · obtain ⟨e1, e2, e3⟩ := rd_y h1 q
      rw [e1, e2, e3]
      rw [if_pos ⟨q.1, ftN.mpr q.2⟩] at h3
      constructor
      · intro g
        rw [if_neg (fun z => g ⟨rfl, z.2.1, ftD.mp z.2.2⟩), if_pos (Or.inr (Or.inl rfl)), vlN] at h3
        exact Or.inl ⟨rfl, by omega, h3⟩
      · intro g
        obtain ⟨f1, f2, f3⟩ := rd_y (t := t) (n := n) (a := 48) (b := 57) (sp := s + 1) (wr := -1) rfl g.2
        rw [f1, f2, f3]
        rw [if_pos ⟨rfl, g.2.1, ftD.mpr g.2.2⟩, vlN, vlD] at h3
        exact Or.inl ⟨rfl, by have := g.2.1; omega, h3⟩
    · obtain ⟨e1, e2, e3⟩ := rd_n h1 q
      rw [e1, e2, e3]
      rw [if_neg (fun z => q ⟨z.1, ftN.mp z.2⟩)] at h3
      exact ⟨fun _ => Or.inr ⟨by omega, by omega, by rw [h3]⟩, fun g => by omega⟩
  · obtain ⟨e1, e2, e3⟩ := rd_w (t := t) (n := n) (a := 48) (b := 57) (sp := s) (show ¬ w = -1 by omega)
    rw [e1, e2, e3]
    exact ⟨fun _ => Or.inr ⟨h1, h2, h3⟩, fun g => by omega⟩
theorem rVl_b {t : Int → Int} {n a b sp wr : Int} (h : a ≤ b) : 0 ≤ rVl t n a b sp wr ∧ rVl t n a b sp wr ≤ b - a := by
  unfold rVl
  split
  · rename_i q
    have := q.2.2
    omega
  · omega
theorem rel_0 {t : Int → Int} {n s w : Int} {M : Int × List Int} {vs : List Int} (I : RelI t n M [] s w vs) : (M.1 < 0 → w = -1 - M.1) ∧ (0 ≤ M.1 → w = -1 ∧ s = M.1 ∧ M.2 = vs) := by
  rcases I with ⟨h1, h2, h3⟩ | ⟨h1, h2, h3⟩
  · rw [h3]
    show (s < 0 → w = -1 - s) ∧ (0 ≤ s → w = -1 ∧ s = s ∧ vs = vs)
    exact ⟨fun _ => by omega, fun _ => ⟨h1, rfl, rfl⟩⟩
  · exact ⟨fun _ => by omega, fun _ => by omega⟩
/-! ===== the words ===== -/
def stZ (k : Int) : Int := if k = 0 then 0 else if k = 1 then 5 else if k = 2 then 10 else if k = 3 then 14 else if k = 4 then 20 else if k = 5 then 24 else if k = 6 then 31 else if k = 7 then 35 else if k = 8 then 40 else if k = 9 then 45 else if k = 10 then 51 else 56
def sWrd (i : Int) : List Int := ((sStr.getD 11 []).drop (stZ i).toNat).take (stZ (i + 1) - stZ i).toNat
def sArg (i : Int) : List Int := (sPat i).drop (sWrd i).length
theorem sWrd_tab : ∀ i : Nat, i < 11 → sPat (i : Int) = sWrd (i : Int) ++ sArg (i : Int) ∧ (∀ c ∈ sWrd (i : Int), ¬ phP c) ∧ ((sWrd (i : Int)).length : Int) = stZ ((i : Int) + 1) - stZ (i : Int) ∧ (0 ≤ stZ (i : Int) ∧ stZ (i : Int) < stZ ((i : Int) + 1) ∧ stZ ((i : Int) + 1) ≤ 56) ∧ ∀ k : Nat, k < (sWrd (i : Int)).length → (sWrd (i : Int)).getD k 0 = scZ 11 (stZ (i : Int) + (k : Int)) := by decide +kernel
theorem sWrd_t {i : Int} (h0 : 0 ≤ i) (h1 : i < 11) : sPat i = sWrd i ++ sArg i ∧ (∀ c ∈ sWrd i, ¬ phP c) ∧ ((sWrd i).length : Int) = stZ (i + 1) - stZ i ∧ (0 ≤ stZ i ∧ stZ i < stZ (i + 1) ∧ stZ (i + 1) ≤ 56) ∧ ∀ k : Nat, k < (sWrd i).length → (sWrd i).getD k 0 = scZ 11 (stZ i + (k : Int)) := by
  have h := sWrd_tab i.toNat (by omega)
  rw [Int.toNat_of_nonneg h0] at h
  exact h
/-- two words differ somewhere within both -/
theorem sWrd_ne : ∀ i : Nat, i < 11 → ∀ j : Nat, j < 11 → i ≠ j → ∃ d : Nat, d < 7 ∧ (d < (sWrd (i : Int)).length ∧ d < (sWrd (j : Int)).length ∧ ¬ (sWrd (i : Int)).getD d 0 = (sWrd (j : Int)).getD d 0) := by decide +kernel
/-- how many letters of a word stand here -/
def pfL (t : Int → Int) (n : Int) : Int → List Int → Int
  | _, [] => 0
  | a, c :: cs => if a < n ∧ t a = c then 1 + pfL t n (a + 1) cs else 0
theorem pfL_b {t : Int → Int} {n : Int} : ∀ (L : List Int) (a : Int), 0 ≤ pfL t n a L ∧ pfL t n a L ≤ L.length ∧ (a ≤ n → a + pfL t n a L ≤ n)
  | [], a => by
    show (0 : Int) ≤ 0 ∧ (0 : Int) ≤ ((0 : Nat) : Int) ∧ (a ≤ n → a + 0 ≤ n)
    omega
  | c :: cs, a => by
    have ih := pfL_b (t := t) (n := n) cs (a + 1)
    have hl : ((c :: cs).length : Int) = (cs.length : Int) + 1 := by simp
    unfold pfL
    split
    · rename_i h
      have := h.1
      omega
    · omega
theorem pfL_at {t : Int → Int} {n : Int} : ∀ (L : List Int) (a : Int) (j : Nat), (j : Int) < pfL t n a L → a + j < n ∧ t (a + j) = L.getD j 0
  | [], a, j, h => by
    have h : (j : Int) < 0 := h
    omega
  | c :: cs, a, j, h => by
    unfold pfL at h
    split at h
    · rename_i q
      match j, h with
      | 0, _ =>
        rw [show a + ((0 : Nat) : Int) = a by omega]
        exact q
      | j + 1, h =>
        have ih := pfL_at (t := t) (n := n) cs (a + 1) j (by omega)
        rw [show a + ((j + 1 : Nat) : Int) = a + 1 + (j : Int) by omega]
        exact ih
    · omega
theorem pfL_is {t : Int → Int} {n : Int} : ∀ (L : List Int) (a : Int) (k : Nat), k ≤ L.length → (∀ j : Nat, j < k → a + j < n ∧ t (a + j) = L.getD j 0) → (k = L.length ∨ ¬ (a + k < n ∧ t (a + k) = L.getD k 0)) → pfL t n a L = k
  | [], a, k, h0, _, _ => by
    have h0 : k ≤ 0 := h0
    show (0 : Int) = k
    omega
  | c :: cs, a, 0, _, _, h2 => by
    unfold pfL
    rw [if_neg]
    · rfl
    · intro q
      rcases h2 with z | z
      · exact absurd z (by simp)
      · rw [show a + ((0 : Nat) : Int) = a by omega] at z
        exact z q
  | c :: cs, a, k + 1, h0, h1, h2 => by
    have q0 := h1 0 (by omega)
    rw [show a + ((0 : Nat) : Int) = a by omega] at q0
    have q : a < n ∧ t a = c := q0
    have ih := pfL_is (t := t) (n := n) cs (a + 1) k (by simpa using h0) (fun j hj => by
      have := h1 (j + 1) (by omega)
      rw [show a + ((j + 1 : Nat) : Int) = a + 1 + (j : Int) by omega] at this
      exact this) (by
      rcases h2 with z | z
      · exact Or.inl (by simpa using z)
      · right
        rw [show a + ((k + 1 : Nat) : Int) = a + 1 + (k : Int) by omega] at z
        exact z)
    unfold pfL
    rw [if_pos q, ih]
    omega
/-- a word, then the rest -/
theorem mt_wrd {t : Int → Int} {n : Int} {A vs : List Int} : ∀ (L : List Int) (a : Int), (∀ c ∈ L, ¬ phP c) → mtL t n (L ++ A) a vs = if pfL t n a L = L.length then mtL t n A (a + L.length) vs else (-1 - (a + pfL t n a L), vs)
  | [], a, _ => by
    show mtL t n A a vs = _
    rw [if_pos (show pfL t n a [] = (([] : List Int).length : Int) from rfl)]
    show mtL t n A a vs = mtL t n A (a + ((0 : Nat) : Int)) vs
    rw [show a + ((0 : Nat) : Int) = a by omega]
  | c :: cs, a, h => by
    have hc := h c List.mem_cons_self
    have ih := mt_wrd (t := t) (n := n) (A := A) (vs := vs) cs (a + 1) (fun x hx => h x (List.mem_cons_of_mem _ hx))
    have hl : ((c :: cs).length : Int) = (cs.length : Int) + 1 := by simp
    rw [List.cons_append, mtL_cs, hl]
    unfold pfL
    by_cases q : a < n ∧ t a = c
    · rw [if_pos ⟨q.1, (ftO hc).mpr q.2⟩, if_neg (fun z => hc (Or.inr (Or.inl z.1))), if_neg hc, ih, if_pos q]
      by_cases z : pfL t n (a + 1) cs = cs.length
      · rw [if_pos z, if_pos (by omega), show a + 1 + (cs.length : Int) = a + ((cs.length : Int) + 1) by omega]
      · rw [if_neg z, if_neg (by omega), show a + 1 + pfL t n (a + 1) cs = a + (1 + pfL t n (a + 1) cs) by omega]
    · rw [if_neg (fun z => q ⟨z.1, (ftO hc).mp z.2⟩), if_neg q, if_neg (by omega), show a + 0 = a by omega]
