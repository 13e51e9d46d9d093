/-! ===== reading a program ===== -/
abbrev phP (k : Int) : Prop := k = 68 ∨ k = 78 ∨ k = 83 ∨ k = 76
def mtL (t : Int → Int) (n : Int) : List Int → Int → List Int → Int × List Int
  | [], at9, vs => (at9, vs)
  | k :: ks, at9, vs =>
    if at9 < n ∧ ftB k (t at9) = true then
      (if k = 78 ∧ at9 + 1 < n ∧ ftB 68 (t (at9 + 1)) = true then mtL t n ks (at9 + 1 + 1) (vs ++ [10 * vlZ k (t at9) + vlZ 68 (t (at9 + 1))])
       else mtL t n ks (at9 + 1) (if phP k then vs ++ [vlZ k (t at9)] else vs))
    else (-1 - at9, vs)
def phN : List Int → Int
  | [] => 0
  | k :: ks => phN ks + (if phP k then 1 else 0)
theorem phN_0 : ∀ L : List Int, 0 ≤ phN L
  | [] => Int.le_refl 0
  | k :: ks => by
    have h := phN_0 ks
    unfold phN
    split <;> omega
def sPat (i : Int) : List Int := sStr.getD i.toNat []
theorem sPat_tab : ∀ i : Nat, i < 11 → phN (sStr.getD i []) ≤ 3 ∧ 6 ≤ (sStr.getD i []).length := by decide +kernel
theorem sPat_ph {i : Int} (h0 : 0 ≤ i) (h1 : i < 11) : phN (sPat i) ≤ 3 := (sPat_tab i.toNat (by omega)).1
theorem sPat_len {i : Int} (h0 : 0 ≤ i) (h1 : i < 12) : ((sPat i).length : Int) = slZ i := by
  have h := (slZ_tab i.toNat (by omega)).2.1
  unfold sPat slZ
  omega
theorem vlZ_ph {k ch : Int} (hp : phP k) (hf : ftB k ch = true) : -1 ≤ vlZ k ch ∧ vlZ k ch ≤ 102 := by
  unfold ftB at hf
  unfold vlZ
  rcases hp with rfl | rfl | rfl | rfl
  · rw [if_pos (by decide)] at hf
    have := of_decide_eq_true hf
    rw [if_pos (by decide)]
    omega
  · rw [if_pos (by decide)] at hf
    have := of_decide_eq_true hf
    rw [if_pos (by decide)]
    omega
  · rw [if_neg (by decide), if_pos (by decide)]
    split <;> omega
  · rw [if_neg (by decide), if_neg (by decide), if_pos (by decide)] at hf
    have := of_decide_eq_true hf
    rw [if_neg (by decide), if_neg (by decide)]
    omega
theorem ftD {ch : Int} : ftB 68 ch = true ↔ 48 ≤ ch ∧ ch ≤ 57 := by
  unfold ftB
  rw [if_pos (by decide)]
  exact decide_eq_true_iff
theorem ftN {ch : Int} : ftB 78 ch = true ↔ 48 ≤ ch ∧ ch ≤ 57 := by
  unfold ftB
  rw [if_pos (by decide)]
  exact decide_eq_true_iff
theorem ftS {ch : Int} : ftB 83 ch = true ↔ ch = 43 ∨ ch = 45 := by
  unfold ftB
  rw [if_neg (by decide), if_pos (by decide)]
  exact decide_eq_true_iff
theorem ftL {ch : Int} : ftB 76 ch = true ↔ 97 ≤ ch ∧ ch < 103 := by
  unfold ftB
  rw [if_neg (by decide), if_neg (by decide), if_pos (by decide)]
  exact decide_eq_true_iff
theorem ftO {k ch : Int} (h : ¬ phP k) : ftB k ch = true ↔ ch = k := by
  unfold ftB
  rw [if_neg (fun q => h (q.elim Or.inl (fun z => Or.inr (Or.inl z)))), if_neg (fun q => h (Or.inr (Or.inr (Or.inl q)))), if_neg (fun q => h (Or.inr (Or.inr (Or.inr q))))]
  exact decide_eq_true_iff
theorem vlD {ch : Int} : vlZ 68 ch = ch - 48 := by unfold vlZ; rw [if_pos (by decide)]
theorem vlN {ch : Int} : vlZ 78 ch = ch - 48 := by unfold vlZ; rw [if_pos (by decide)]
theorem vlS {ch : Int} : vlZ 83 ch = if ch = 43 then 1 else -1 := by unfold vlZ; rw [if_neg (by decide), if_pos (by decide)]
theorem vlL {ch : Int} : vlZ 76 ch = ch := by unfold vlZ; rw [if_neg (by decide), if_neg (by decide)]
theorem mtL_cs {t : Int → Int} {n k a : Int} {ks vs : List Int} : mtL t n (k :: ks) a vs = if a < n ∧ ftB k (t a) = true then
      (if k = 78 ∧ a + 1 < n ∧ ftB 68 (t (a + 1)) = true then mtL t n ks (a + 1 + 1) (vs ++ [10 * vlZ k (t a) + vlZ 68 (t (a + 1))])
       else mtL t n ks (a + 1) (if phP k then vs ++ [vlZ k (t a)] else vs))
    else (-1 - a, vs) := rfl
/-- where a match ends -/
theorem mtL_b {t : Int → Int} {n : Int} : ∀ (P : List Int) (a : Int) (vs : List Int), 0 ≤ a → a ≤ n → (mtL t n P a vs).1 ≤ n ∧ -1 - n ≤ (mtL t n P a vs).1 ∧ (0 ≤ (mtL t n P a vs).1 → a + P.length ≤ (mtL t n P a vs).1) ∧ ((mtL t n P a vs).1 < 0 → a ≤ -1 - (mtL t n P a vs).1)
  | [], a, vs, h0, h1 => by
    show a ≤ n ∧ -1 - n ≤ a ∧ (0 ≤ a → a + ((0 : Nat) : Int) ≤ a) ∧ (a < 0 → a ≤ -1 - a)
    omega
  | k :: ks, a, vs, h0, h1 => by
    have hl : ((k :: ks).length : Int) = (ks.length : Int) + 1 := by simp
    unfold mtL
    split
    · rename_i h
      split
      · rename_i h2
        have := mtL_b (t := t) (n := n) ks (a + 1 + 1) (vs ++ [10 * vlZ k (t a) + vlZ 68 (t (a + 1))]) (by omega) (by omega)
        omega
      · have := mtL_b (t := t) (n := n) ks (a + 1) (if phP k then vs ++ [vlZ k (t a)] else vs) (by omega) (by omega)
        omega
    · show -1 - a ≤ n ∧ -1 - n ≤ -1 - a ∧ (0 ≤ -1 - a → a + ((k :: ks).length : Int) ≤ -1 - a) ∧ (-1 - a < 0 → a ≤ -1 - (-1 - a))
      omega
def mtI (t : Int → Int) (n : Int) (P : List Int) (st idx a cnt : Int) (va : Int → Int) : Prop := ∃ vs : List Int, mtL t n (P.drop idx.toNat) a vs = mtL t n P st [] ∧ (vs.length : Int) = cnt ∧ (∀ j : Nat, j < vs.length → va j = vs.getD j 0) ∧ (vs.length : Int) + phN (P.drop idx.toNat) ≤ 3
theorem mtI_0 {t : Int → Int} {n st : Int} {P : List Int} {va : Int → Int} (h : phN P ≤ 3) : mtI t n P st 0 st 0 va := ⟨[], rfl, rfl, fun j hj => absurd hj (by simp), by show (0 : Int) + phN P ≤ 3; omega⟩
theorem drop_c {P : List Int} {idx : Int} (h0 : 0 ≤ idx) (h1 : idx < P.length) : P.drop idx.toNat = P.getD idx.toNat 0 :: P.drop (idx + 1).toNat := by
  have hl : idx.toNat < P.length := by omega
  rw [List.drop_eq_getElem_cons hl, show (idx + 1).toNat = idx.toNat + 1 by omega]
  congr 1
  rw [List.getD_eq_getElem?_getD, List.getElem?_eq_getElem hl]
  rfl
section MTI
variable {t : Int → Int} {n st idx a cnt k : Int} {P : List Int} {va : Int → Int}
theorem mtI_c (I : mtI t n P st idx a cnt va) (h0 : 0 ≤ idx) (h1 : idx < P.length) (hk : P.getD idx.toNat 0 = k) (hp : phP k) : 0 ≤ cnt ∧ cnt ≤ 2 := by
  obtain ⟨vs, -, e2, -, e4⟩ := I
  rw [drop_c h0 h1, hk] at e4
  have q : phN (k :: P.drop (idx + 1).toNat) = phN (P.drop (idx + 1).toNat) + 1 := by
    show phN (P.drop (idx + 1).toNat) + (if phP k then 1 else 0) = _
    rw [if_pos hp]
  have := phN_0 (P.drop (idx + 1).toNat)
  omega
theorem mtI_lit (I : mtI t n P st idx a cnt va) (h0 : 0 ≤ idx) (h1 : idx < P.length) (hk : P.getD idx.toNat 0 = k) (hp : ¬ phP k) (ha : a < n) (hf : ftB k (t a) = true) : mtI t n P st (idx + 1) (a + 1) cnt va := by
  obtain ⟨vs, e1, e2, e3, e4⟩ := I
  rw [drop_c h0 h1, hk] at e1 e4
  rw [mtL_cs] at e1
  rw [if_pos ⟨ha, hf⟩, if_neg (fun q => hp (Or.inr (Or.inl q.1))), if_neg hp] at e1
  refine ⟨vs, e1, e2, e3, ?_⟩
  unfold phN at e4
  rw [if_neg hp] at e4
  omega
theorem va_app {vs : List Int} {x : Int} (e2 : (vs.length : Int) = cnt) (e3 : ∀ j : Nat, j < vs.length → va j = vs.getD j 0) : ∀ j : Nat, j < (vs ++ [x]).length → ui va cnt x j = (vs ++ [x]).getD j 0 := by
  intro j hj
  rw [List.length_append, List.length_singleton] at hj
  by_cases e : j = vs.length
  · have e5 : (j : Int) = cnt := by omega
    rw [e5, ui_s, e, List.getD_eq_getElem?_getD, List.getElem?_append_right (Nat.le_refl _), Nat.sub_self]
    rfl
  · rw [ui_n (by omega), e3 j (by omega), List.getD_eq_getElem?_getD, List.getD_eq_getElem?_getD, List.getElem?_append_left (by omega)]
theorem mtI_ph (I : mtI t n P st idx a cnt va) (h0 : 0 ≤ idx) (h1 : idx < P.length) (hk : P.getD idx.toNat 0 = k) (hp : phP k) (ha : a < n) (hf : ftB k (t a) = true) (hN : ¬ (k = 78 ∧ a + 1 < n ∧ ftB 68 (t (a + 1)) = true)) : mtI t n P st (idx + 1) (a + 1) (cnt + 1) (ui va cnt (vlZ k (t a))) := by
  obtain ⟨vs, e1, e2, e3, e4⟩ := I
  rw [drop_c h0 h1, hk] at e1 e4
  rw [mtL_cs] at e1
  rw [if_pos ⟨ha, hf⟩, if_neg hN, if_pos hp] at e1
  unfold phN at e4
  rw [if_pos hp] at e4
  refine ⟨vs ++ [vlZ k (t a)], e1, by rw [List.length_append, List.length_singleton]; omega, va_app e2 e3, by rw [List.length_append, List.length_singleton]; omega⟩
theorem mtI_n2 (I : mtI t n P st idx a cnt va) (h0 : 0 ≤ idx) (h1 : idx < P.length) (hk : P.getD idx.toNat 0 = k) (hp : k = 78) (ha : a < n) (hf : ftB k (t a) = true) (ha2 : a + 1 < n) (hf2 : ftB 68 (t (a + 1)) = true) : mtI t n P st (idx + 1) (a + 1 + 1) (cnt + 1) (ui va cnt (10 * vlZ k (t a) + vlZ 68 (t (a + 1)))) := by
  obtain ⟨vs, e1, e2, e3, e4⟩ := I
  rw [drop_c h0 h1, hk] at e1 e4
  rw [mtL_cs] at e1
  rw [if_pos ⟨ha, hf⟩, if_pos ⟨hp, ha2, hf2⟩] at e1
  unfold phN at e4
  rw [if_pos (Or.inr (Or.inl hp))] at e4
  refine ⟨vs ++ [10 * vlZ k (t a) + vlZ 68 (t (a + 1))], e1, by rw [List.length_append, List.length_singleton]; omega, va_app e2 e3, by rw [List.length_append, List.length_singleton]; omega⟩
theorem mtI_bad (I : mtI t n P st idx a cnt va) (h0 : 0 ≤ idx) (h1 : idx < P.length) (hk : P.getD idx.toNat 0 = k) (hf : ¬ (a < n ∧ ftB k (t a) = true)) : -1 - a = (mtL t n P st []).1 ∧ ∀ j : Nat, j < (mtL t n P st []).2.length → va j = (mtL t n P st []).2.getD j 0 := by
  obtain ⟨vs, e1, e2, e3, e4⟩ := I
  rw [drop_c h0 h1, hk] at e1
  rw [mtL_cs] at e1
  rw [if_neg hf] at e1
  rw [← e1]
  exact ⟨rfl, e3⟩
theorem mtI_end (I : mtI t n P st idx a cnt va) (h1 : (P.length : Int) ≤ idx) : a = (mtL t n P st []).1 ∧ ∀ j : Nat, j < (mtL t n P st []).2.length → va j = (mtL t n P st []).2.getD j 0 := by
  obtain ⟨vs, e1, e2, e3, e4⟩ := I
  rw [List.drop_of_length_le (by omega)] at e1
  rw [← e1]
  exact ⟨rfl, e3⟩
end MTI
/-! the command that stands at a place -/
def rdL (t : Int → Int) (n st : Int) : List (List Int) → Int → Int → Int × Int × List Int
  | [], _, f => (-1 - f, -1, [])
  | P :: Ps, i, f => if 0 ≤ (mtL t n P st []).1 then ((mtL t n P st []).1, i, (mtL t n P st []).2) else rdL t n st Ps (i + 1) (if f < -1 - (mtL t n P st []).1 then -1 - (mtL t n P st []).1 else f)
def sPats : List (List Int) := sStr.take 11
def rdR (t : Int → Int) (n st : Int) : Int × Int × List Int := rdL t n st sPats 0 st
theorem sPats_drop : ∀ i : Nat, i < 11 → sPats.drop i = sStr.getD i [] :: sPats.drop (i + 1) := by decide +kernel
theorem sPats_d {i : Int} (h0 : 0 ≤ i) (h1 : i < 11) : sPats.drop i.toNat = sPat i :: sPats.drop (i + 1).toNat := by
  rw [show (i + 1).toNat = i.toNat + 1 by omega]
  exact sPats_drop i.toNat (by omega)
def rdI (t : Int → Int) (n st i f : Int) : Prop := rdL t n st (sPats.drop i.toNat) i f = rdR t n st ∧ st ≤ f ∧ f ≤ n
theorem rdI_0 {t : Int → Int} {n st : Int} (h : st ≤ n) : rdI t n st 0 st := ⟨rfl, Int.le_refl _, h⟩
theorem rdI_ok {t : Int → Int} {n st i f : Int} (I : rdI t n st i f) (h0 : 0 ≤ i) (h1 : i < 11) (hm : 0 ≤ (mtL t n (sPat i) st []).1) : rdR t n st = ((mtL t n (sPat i) st []).1, i, (mtL t n (sPat i) st []).2) := by
  have e := I.1
  rw [sPats_d h0 h1] at e
  unfold rdL at e
  rw [if_pos hm] at e
  exact e.symm
theorem rdI_no {t : Int → Int} {n st i f : Int} (I : rdI t n st i f) (h0 : 0 ≤ i) (h1 : i < 11) (hs : 0 ≤ st ∧ st ≤ n) (hm : ¬ 0 ≤ (mtL t n (sPat i) st []).1) : rdI t n st (i + 1) (if f < -1 - (mtL t n (sPat i) st []).1 then -1 - (mtL t n (sPat i) st []).1 else f) := by
  obtain ⟨e, e2, e3⟩ := I
  have hb := mtL_b (t := t) (n := n) (sPat i) st [] hs.1 hs.2
  rw [sPats_d h0 h1] at e
  unfold rdL at e
  rw [if_neg hm] at e
  refine ⟨e, ?_, ?_⟩ <;> split <;> omega
theorem rdI_end {t : Int → Int} {n st f : Int} (I : rdI t n st 11 f) : rdR t n st = (-1 - f, -1, []) := by
  have e := I.1
  rw [show sPats.drop (11 : Int).toNat = [] from rfl] at e
  exact e.symm
theorem rdL_b {t : Int → Int} {n st : Int} (hs : 0 ≤ st ∧ st ≤ n) : ∀ (Ps : List (List Int)) (i f : Int), (∀ P ∈ Ps, 6 ≤ P.length) → st ≤ f → f ≤ n → (rdL t n st Ps i f).1 ≤ n ∧ -1 - n ≤ (rdL t n st Ps i f).1 ∧ (0 ≤ (rdL t n st Ps i f).1 → st + 6 ≤ (rdL t n st Ps i f).1 ∧ i ≤ (rdL t n st Ps i f).2.1 ∧ (rdL t n st Ps i f).2.1 < i + Ps.length)
  | [], i, f, _, h0, h1 => by
    show -1 - f ≤ n ∧ -1 - n ≤ -1 - f ∧ (0 ≤ -1 - f → _)
    refine ⟨by omega, by omega, fun h => by omega⟩
  | P :: Ps, i, f, hP, h0, h1 => by
    have hb := mtL_b (t := t) (n := n) P st [] hs.1 hs.2
    have h6 := hP P List.mem_cons_self
    have hl : ((P :: Ps).length : Int) = (Ps.length : Int) + 1 := by simp
    unfold rdL
    split
    · rename_i hm
      refine ⟨hb.1, hb.2.1, fun _ => ?_⟩
      have h7 := hb.2.2.1 hm
      show st + 6 ≤ (mtL t n P st []).1 ∧ i ≤ i ∧ i < i + ((P :: Ps).length : Int)
      omega
    · rename_i hm
      have h7 := hb.2.2.2 (by omega)
      have ih := rdL_b (t := t) hs Ps (i + 1) (if f < -1 - (mtL t n P st []).1 then -1 - (mtL t n P st []).1 else f) (fun Q hQ => hP Q (List.mem_cons_of_mem _ hQ)) (by split <;> omega) (by split <;> omega)
      refine ⟨ih.1, ih.2.1, fun h => ?_⟩
      have := ih.2.2 h
      omega
theorem sPats_6 : ∀ P ∈ sPats, 6 ≤ P.length := by decide +kernel
theorem rdR_b {t : Int → Int} {n st : Int} (hs : 0 ≤ st ∧ st ≤ n) : (rdR t n st).1 ≤ n ∧ -1 - n ≤ (rdR t n st).1 ∧ (0 ≤ (rdR t n st).1 → st + 6 ≤ (rdR t n st).1 ∧ 0 ≤ (rdR t n st).2.1 ∧ (rdR t n st).2.1 < 11) := by
  have h := rdL_b (t := t) hs sPats 0 st sPats_6 (Int.le_refl _) hs.2
  have hl : (sPats.length : Int) = 11 := rfl
  rw [hl] at h
  exact h
/-! the commands, one behind the other -/
def atN (t : Int → Int) (n : Int) : Nat → Int
  | 0 => 0
  | k + 1 => (rdR t n (atN t n k)).1 + 1
def atZ (t : Int → Int) (n k : Int) : Int := atN t n k.toNat
def enZ (t : Int → Int) (n k : Int) : Int := (rdR t n (atZ t n k)).1
theorem atZ_s {t : Int → Int} {n k : Int} (h : 0 ≤ k) : atZ t n (k + 1) = enZ t n k + 1 := by
  unfold enZ atZ
  rw [show (k + 1).toNat = k.toNat + 1 by omega]
  rfl
def preP (t : Int → Int) (n k : Int) : Prop := ∀ i : Int, 0 ≤ i → i < k → 0 ≤ enZ t n i ∧ enZ t n i < n ∧ t (enZ t n i) = 59
theorem preP_0 {t : Int → Int} {n : Int} : preP t n 0 := fun i h0 h1 => by omega
theorem preP_s {t : Int → Int} {n k : Int} (h : preP t n k) (h1 : 0 ≤ enZ t n k ∧ enZ t n k < n ∧ t (enZ t n k) = 59) : preP t n (k + 1) := fun i i0 i1 => by
  by_cases e : i = k
  · rw [e]
    exact h1
  · exact h i i0 (by omega)
theorem preP_at {t : Int → Int} {n : Int} (hn : 0 ≤ n) : ∀ k : Nat, preP t n k → 7 * (k : Int) ≤ atZ t n k ∧ atZ t n k ≤ n
  | 0, _ => by
    show 7 * (0 : Int) ≤ 0 ∧ (0 : Int) ≤ n
    omega
  | k + 1, h => by
    have ih := preP_at hn k (fun i i0 i1 => h i i0 (by omega))
    have hk := h k (by omega) (by omega)
    have e : atZ t n ((k + 1 : Nat) : Int) = enZ t n k + 1 := atZ_s (t := t) (n := n) (k := (k : Int)) (by omega)
    have hb := (rdR_b (t := t) (n := n) (st := atZ t n k) ⟨by omega, by omega⟩).2.2 hk.1
    have hb2 : atZ t n k + 6 ≤ enZ t n k := hb.1
    omega
theorem preP_b {t : Int → Int} {n k : Int} (hn : 0 ≤ n) (hk : 0 ≤ k) (h : preP t n k) : 7 * k ≤ atZ t n k ∧ atZ t n k ≤ n := by
  have e : ((k.toNat : Nat) : Int) = k := Int.toNat_of_nonneg hk
  have q := preP_at (t := t) hn k.toNat (by rw [e]; exact h)
  rw [e] at q
  exact q
/-- what a text is: an error, or so many commands -/
def feP (t : Int → Int) (n err c : Int) : Prop := ∃ k : Int, 0 ≤ k ∧ preP t n k ∧ ((enZ t n k < 0 ∧ err = -1 - enZ t n k) ∨ (0 ≤ enZ t n k ∧ n ≤ enZ t n k ∧ err = -1 ∧ c = k + 1) ∨ (0 ≤ enZ t n k ∧ enZ t n k < n ∧ ¬ t (enZ t n k) = 59 ∧ err = enZ t n k))
theorem feP_uniq {t : Int → Int} {n e1 c1 e2 c2 : Int} (h1 : feP t n e1 c1) (h2 : feP t n e2 c2) : e1 = e2 ∧ (e1 = -1 → c1 = c2) := by
  obtain ⟨k, k0, kp, kc⟩ := h1
  obtain ⟨j, j0, jp, jc⟩ := h2
  have e : k = j := by
    rcases Int.lt_or_le k j with q | q
    · have z := jp k k0 q
      omega
    · rcases Int.lt_or_le j k with y | y
      · have z := kp j j0 y
        omega
      · omega
  subst e
  omega
theorem feP_ok {t : Int → Int} {n c : Int} (h : feP t n (-1) c) : 1 ≤ c ∧ preP t n (c - 1) ∧ 0 ≤ enZ t n (c - 1) ∧ n ≤ enZ t n (c - 1) := by
  obtain ⟨k, k0, kp, kc⟩ := h
  rcases kc with q | q | q
  · omega
  · obtain ⟨q1, q2, -, rfl⟩ := q
    rw [show k + 1 - 1 = k by omega]
    exact ⟨by omega, kp, q1, q2⟩
  · omega
theorem feP_en {t : Int → Int} {n c i : Int} (h : feP t n (-1) c) (h0 : 0 ≤ i) (h1 : i < c) : preP t n i ∧ 0 ≤ enZ t n i ∧ (i + 1 < c → enZ t n i < n) := by
  have h2 := feP_ok h
  refine ⟨fun j j0 j1 => h2.2.1 j j0 (by omega), ?_, fun h3 => (h2.2.1 i h0 (by omega)).2.1⟩
  by_cases e : i = c - 1
  · rw [e]
    exact h2.2.2.1
  · exact (h2.2.1 i h0 (by omega)).1
theorem vlN2 {k x y : Int} (hk : k = 78) (hx : ftB k x = true) (hy : ftB 68 y = true) : -1 ≤ 10 * vlZ k x + vlZ 68 y ∧ 10 * vlZ k x + vlZ 68 y ≤ 102 := by
  subst hk
  have h1 := ftN.mp hx
  have h2 := ftD.mp hy
  rw [vlN, vlD]
  omega
