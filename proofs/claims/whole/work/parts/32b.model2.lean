/-! pinning and unpinning -/
def pinF (op lk kp wc : Int → Int) (pn nw sh wk : Int) (pi r c : Int) : Int × BT := if pi = 1 then fixF op lk kp wc pn nw sh wk r c else freeF op lk kp wc pn nw sh wk r c
def pinZ (pn pi c : Int) : Int := if pi = 1 then iorZ pn (ishlZ 1 c) else iandZ pn (ixorZ (ishlZ 1 c) (-1))
def fxZ (pn c : Int) : Int := if fixP pn c then 1 else 0
theorem pinZ_rg {pn pi c : Int} (h : 0 ≤ pn ∧ pn < 33554432) (h0 : 0 ≤ c) (h1 : c ≤ 24) : 0 ≤ pinZ pn pi c ∧ pinZ pn pi c < 33554432 := by
  unfold pinZ
  split
  · exact fix_rg h h0 h1
  · exact free_rg h h0 h1
theorem pin_ok {op lk kp wc : Int → Int} {pn nw sh wk pi r c : Int} (hp : pi = 0 ∨ pi = 1) (hpn : 0 ≤ pn ∧ pn < 33554432) (h : okC r c) (hf : ¬ fxZ pn (r * 5 + c) = pi) : pinF op lk kp wc pn nw sh wk pi r c = (cnbK (fun d => decide (fixP (pinZ pn pi (r * 5 + c)) d)) 25, op, lk, kp, wc, pinZ pn pi (r * 5 + c), nw, sh, wk) := by
  have hq := pinZ_rg (pi := pi) (c := r * 5 + c) hpn (by omega) (by omega)
  rw [← bc_cnt hq]
  unfold pinF pinZ
  unfold fxZ at hf
  rcases hp with rfl | rfl
  · rw [if_neg (by decide), if_neg (by decide)]
    unfold freeF
    rw [if_neg (fun q => q h), if_neg (fun q => hf (if_neg q))]
  · rw [if_pos rfl, if_pos rfl]
    unfold fixF
    rw [if_neg (fun q => q h), if_neg (fun q => hf (if_pos q))]
theorem pin_no {op lk kp wc : Int → Int} {pn nw sh wk pi r c : Int} (hp : pi = 0 ∨ pi = 1) (h : ¬ (okC r c ∧ ¬ fxZ pn (r * 5 + c) = pi)) : (pinF op lk kp wc pn nw sh wk pi r c).1 < 0 ∧ (pinF op lk kp wc pn nw sh wk pi r c).2 = (op, lk, kp, wc, pn, nw, sh, wk) := by
  unfold pinF
  unfold fxZ at h
  rcases hp with rfl | rfl
  · rw [if_neg (by decide)]
    unfold freeF
    split
    · exact ⟨by simp, rfl⟩
    · split
      · exact ⟨by simp, rfl⟩
      · rename_i h1 h2
        exact absurd ⟨Classical.not_not.mp h1, by rw [if_pos (Classical.not_not.mp h2)]; decide⟩ h
  · rw [if_pos rfl]
    unfold fixF
    split
    · exact ⟨by simp, rfl⟩
    · split
      · exact ⟨by simp, rfl⟩
      · rename_i h1 h2
        exact absurd ⟨Classical.not_not.mp h1, by rw [if_neg h2]; decide⟩ h
theorem cnb_0 {P : Int → Bool} : 0 ≤ cnbK P 25 := (cnbN_le P _).1
theorem th_pin (op lk kp wc : Int → Int) (pn nw sh wk pi r c : Int) (b : Bool) (hp : pi = 0 ∨ pi = 1) (hpn : 0 ≤ pn ∧ pn < 33554432) (hb : okC r c → (b = true ↔ ¬ fxZ pn (r * 5 + c) = pi)) : thZ (decide ((0 ≤ r ∧ r ≤ 4) ∧ (0 ≤ c ∧ c ≤ 4))) b true = tP (pinF op lk kp wc pn nw sh wk pi r c).1 := by
  by_cases h : okC r c
  · by_cases h2 : fxZ pn (r * 5 + c) = pi
    · rw [thZ_2 (decide_eq_true (by omega)) (fun q => (hb h).mp q h2)]
      unfold pinF
      unfold fxZ at h2
      rcases hp with rfl | rfl
      · rw [if_neg (by decide)]
        unfold freeF
        rw [if_neg (fun q => q h), if_pos (fun q => by rw [if_pos q] at h2; exact absurd h2 (by decide))]
        rfl
      · rw [if_pos rfl]
        unfold fixF
        rw [if_neg (fun q => q h), if_pos (Classical.byContradiction fun q => by rw [if_neg q] at h2; exact absurd h2 (by decide))]
        rfl
    · rw [pin_ok hp hpn h h2, tP_0 cnb_0]
      exact thZ_0 (decide_eq_true (by omega)) ((hb h).mpr h2) rfl
  · rw [thZ_1 (fun q => h (by have := of_decide_eq_true q; omega))]
    unfold pinF fixF freeF
    split
    · first | rfl | (rw [if_pos h]; rfl)
    · first | rfl | (rw [if_pos h]; rfl)
theorem Cp_pin {v op lk kp wc : Int → Int} {pn nw sh wk pi c : Int} (h : Cp v op lk kp wc pn nw sh wk) (hn : nw ≤ 3) (h0 : 0 ≤ c) (h1 : c ≤ 24) (hp : pi = 0 ∨ pi = 1) : Cp (ui v (12 + 3 * c + 1) pi) op lk kp wc (pinZ pn pi c) nw sh wk := by
  refine Cp_pn h hn h0 h1 (by unfold rg; omega) ?_ (fun d d0 d1 hd => ?_)
  · unfold pinZ
    rcases hp with rfl | rfl
    · rw [if_neg (show ¬ (0 : Int) = 1 by decide), if_neg (fun q => ((fixP_free h0 h1 h0 h1).mp q).2 rfl)]
    · rw [if_pos (show (1 : Int) = 1 from rfl), if_pos ((fixP_fix h0 h1 h0 h1).mpr (Or.inr rfl))]
  · unfold pinZ
    split
    · rw [fixP_fix h0 h1 d0 d1]
      exact ⟨fun q => q.elim id (fun z => absurd z hd), Or.inl⟩
    · rw [fixP_free h0 h1 d0 d1]
      exact ⟨fun q => q.1, fun q => ⟨q, hd⟩⟩
theorem tw_pn {v op lk kp wc : Int → Int} {pn nw sh wk : Int} (h : Cp v op lk kp wc pn nw sh wk) : cnbK (fun c => decide (1 ≤ v (12 + 3 * c + 1))) 25 = cnbK (fun c => decide (fixP pn c)) 25 := by
  refine cnbN_congr 25 (fun j j0 j1 => ?_)
  have e := (h.2.2.2.1 j j0 (by omega)).2.1
  show decide (1 ≤ v (12 + 3 * j + 1)) = decide (fixP pn j)
  refine decide_eq_decide.mpr ?_
  rw [e]
  by_cases q : fixP pn j
  · rw [if_pos q]
    exact ⟨fun _ => q, fun _ => by decide⟩
  · rw [if_neg q]
    exact ⟨fun z => absurd z (by decide), fun z => absurd z q⟩
theorem tw_lk {v op lk kp wc : Int → Int} {pn nw sh wk : Int} (h : Cp v op lk kp wc pn nw sh wk) (hl : ∀ j, -1 ≤ lk j ∧ lk j ≤ 5) : cnbK (fun c => decide (0 ≤ v (12 + 3 * c + 2))) 25 = lkN lk := by
  refine cnbN_congr 25 (fun j j0 j1 => ?_)
  have e := (h.2.2.2.1 j j0 (by omega)).2.2
  have e2 := hl j
  show decide (0 ≤ v (12 + 3 * j + 2)) = decide (¬ lk j = -1)
  refine decide_eq_decide.mpr ?_
  rw [e]
  omega
/-! laying a key -/
def plZ (kp : Int → Int) (k : Int) : Int := if 97 ≤ k ∧ k ≤ 102 then kM (kp (k - 97)) else -1
theorem kM_m1 {x : Int} : kM x = -1 ↔ x = -1 := by unfold kM; split <;> omega
theorem lay_ok {op lk kp wc : Int → Int} {pn nw sh wk k r c : Int} (hk : 97 ≤ k ∧ k ≤ 102) (h : okC r c) (hp : kp (k - 97) = -1) : layF op lk kp wc pn nw sh wk k r c = (cntK (ui kp (k - 97) (r * 5 + c)) (r * 5 + c) 6, op, lk, ui kp (k - 97) (r * 5 + c), wc, pn, nw, sh, wk) := by
  unfold layF
  rw [if_neg (by omega), if_neg (fun q => q h), if_neg (fun q => q hp)]
theorem lay_no {op lk kp wc : Int → Int} {pn nw sh wk k r c : Int} (h : ¬ ((97 ≤ k ∧ k ≤ 102) ∧ okC r c ∧ kp (k - 97) = -1)) : (layF op lk kp wc pn nw sh wk k r c).1 < 0 ∧ (layF op lk kp wc pn nw sh wk k r c).2 = (op, lk, kp, wc, pn, nw, sh, wk) := by
  unfold layF
  split
  · exact ⟨by simp, rfl⟩
  · split
    · exact ⟨by simp, rfl⟩
    · split
      · exact ⟨by simp, rfl⟩
      · rename_i h1 h2 h3
        exact absurd ⟨by omega, Classical.not_not.mp h2, Classical.not_not.mp h3⟩ h
theorem th_lay (op lk kp wc : Int → Int) (pn nw sh wk k r c : Int) (b : Bool) (hb : (97 ≤ k ∧ k ≤ 102) → (b = true ↔ kp (k - 97) = -1)) : thZ (decide (97 ≤ k ∧ k ≤ 102)) (decide ((0 ≤ r ∧ r ≤ 4) ∧ (0 ≤ c ∧ c ≤ 4))) b = tL (layF op lk kp wc pn nw sh wk k r c).1 := by
  unfold layF
  split
  · exact thZ_1 (fun q => absurd (of_decide_eq_true q) (by omega))
  · split
    · rename_i h1 h2
      exact thZ_2 (decide_eq_true (by omega)) (fun q => h2 (by have := of_decide_eq_true q; omega))
    · split
      · rename_i h1 h2 h3
        exact thZ_3 (decide_eq_true (by omega)) (decide_eq_true (by omega)) (fun q => h3 ((hb (by omega)).mp q))
      · rename_i h1 h2 h3
        rw [tL_0 (cntK_b (by decide)).1]
        exact thZ_0 (decide_eq_true (by omega)) (decide_eq_true (by omega)) ((hb (by omega)).mpr (Classical.not_not.mp h3))
/-! hanging and taking a lock -/
theorem lkN_0 {lk : Int → Int} : 0 ≤ lkN lk := cnb_0
theorem hang_ok {op lk kp wc : Int → Int} {pn nw sh wk k r c : Int} (h : okC r c) (hk : 97 ≤ k ∧ k ≤ 102) (hp : lk (r * 5 + c) = -1) : hangF op lk kp wc pn nw sh wk r c k = (lkN (ui lk (r * 5 + c) (k - 97)), op, ui lk (r * 5 + c) (k - 97), kp, wc, pn, nw, sh, wk) := by
  unfold hangF
  rw [if_neg (fun q => q h), if_neg (by omega), if_neg (fun q => q hp)]
theorem hang_no {op lk kp wc : Int → Int} {pn nw sh wk k r c : Int} (h : ¬ (okC r c ∧ (97 ≤ k ∧ k ≤ 102) ∧ lk (r * 5 + c) = -1)) : (hangF op lk kp wc pn nw sh wk r c k).1 < 0 ∧ (hangF op lk kp wc pn nw sh wk r c k).2 = (op, lk, kp, wc, pn, nw, sh, wk) := by
  unfold hangF
  split
  · exact ⟨by simp, rfl⟩
  · split
    · exact ⟨by simp, rfl⟩
    · split
      · exact ⟨by simp, rfl⟩
      · rename_i h1 h2 h3
        exact absurd ⟨Classical.not_not.mp h1, by omega, Classical.not_not.mp h3⟩ h
theorem th_hang (op lk kp wc : Int → Int) (pn nw sh wk k r c : Int) (b : Bool) (hb : okC r c → (b = true ↔ lk (r * 5 + c) = -1)) : thZ (decide ((0 ≤ r ∧ r ≤ 4) ∧ (0 ≤ c ∧ c ≤ 4))) (decide (97 ≤ k ∧ k ≤ 102)) b = tA (hangF op lk kp wc pn nw sh wk r c k).1 := by
  unfold hangF
  split
  · exact thZ_1 (fun q => absurd (of_decide_eq_true q) (by omega))
  · rename_i h1
    have h2 : okC r c := Classical.not_not.mp h1
    split
    · exact thZ_2 (decide_eq_true (by omega)) (fun q => absurd (of_decide_eq_true q) (by omega))
    · split
      · rename_i h3 h4
        exact thZ_3 (decide_eq_true (by omega)) (decide_eq_true (by omega)) (fun q => h4 ((hb h2).mp q))
      · rename_i h3 h4
        rw [tA_0 lkN_0]
        exact thZ_0 (decide_eq_true (by omega)) (decide_eq_true (by omega)) ((hb h2).mpr (Classical.not_not.mp h4))
theorem take_ok {op lk kp wc : Int → Int} {pn nw sh wk r c : Int} (h : okC r c) (hp : ¬ lk (r * 5 + c) = -1) : takeF op lk kp wc pn nw sh wk r c = (97 + lk (r * 5 + c), op, ui lk (r * 5 + c) (-1), kp, wc, pn, nw, sh, wk) := by
  unfold takeF
  rw [if_neg (fun q => q h), if_neg hp]
theorem take_no {op lk kp wc : Int → Int} {pn nw sh wk r c : Int} (h : ¬ (okC r c ∧ ¬ lk (r * 5 + c) = -1)) : (takeF op lk kp wc pn nw sh wk r c).1 < 0 ∧ (takeF op lk kp wc pn nw sh wk r c).2 = (op, lk, kp, wc, pn, nw, sh, wk) := by
  unfold takeF
  split
  · exact ⟨by simp, rfl⟩
  · split
    · exact ⟨by simp, rfl⟩
    · rename_i h1 h2
      exact absurd ⟨Classical.not_not.mp h1, h2⟩ h
theorem th_take (op lk kp wc : Int → Int) (pn nw sh wk r c : Int) (b : Bool) (hl : ∀ j, -1 ≤ lk j ∧ lk j ≤ 5) (hb : okC r c → (b = true ↔ ¬ lk (r * 5 + c) = -1)) : thZ (decide ((0 ≤ r ∧ r ≤ 4) ∧ (0 ≤ c ∧ c ≤ 4))) b true = tT (takeF op lk kp wc pn nw sh wk r c).1 := by
  unfold takeF
  split
  · exact thZ_1 (fun q => absurd (of_decide_eq_true q) (by omega))
  · rename_i h1
    have h2 : okC r c := Classical.not_not.mp h1
    split
    · rename_i h3
      exact thZ_2 (decide_eq_true (by omega)) (fun q => (hb h2).mp q h3)
    · rename_i h3
      have e := hl (r * 5 + c)
      rw [tT_0 (by show 0 ≤ 97 + lk (r * 5 + c); omega)]
      exact thZ_0 (decide_eq_true (by omega)) ((hb h2).mpr h3) rfl
/-! a walker who comes to a cell -/
def bmK (u : Int → Int) (w cell n : Int) : Int → Int := fun j => if (3 ≤ j ∧ j < 3 + n) ∧ u j = cell then 100 + w else u j
theorem bmK_0 {u : Int → Int} {w cell : Int} : bmK u w cell 0 = u := by
  funext j
  unfold bmK
  rw [if_neg (by omega)]
theorem bmK_at {u : Int → Int} {w cell n : Int} : bmK u w cell n (3 + n) = u (3 + n) := by
  unfold bmK
  rw [if_neg (by omega)]
theorem bmK_t {u : Int → Int} {w cell n : Int} (h : 0 ≤ n) (hk : u (3 + n) = cell) : ui (bmK u w cell n) (3 + n) (100 + w) = bmK u w cell (n + 1) := by
  funext j
  simp only [bmK, ui]
  by_cases e : j = 3 + n
  · rw [if_pos e, if_pos ⟨by omega, by rw [e]; exact hk⟩]
  · rw [if_neg e]
    by_cases h2 : (3 ≤ j ∧ j < 3 + n) ∧ u j = cell
    · rw [if_pos h2, if_pos ⟨by omega, h2.2⟩]
    · rw [if_neg h2, if_neg (fun q => h2 ⟨by omega, q.2⟩)]
theorem bmK_f {u : Int → Int} {w cell n : Int} (h : 0 ≤ n) (hk : ¬ u (3 + n) = cell) : ui (bmK u w cell n) (3 + n) (u (3 + n)) = bmK u w cell (n + 1) := by
  funext j
  simp only [bmK, ui]
  by_cases e : j = 3 + n
  · rw [if_pos e, if_neg (fun q => hk (by rw [← e]; exact q.2)), e]
  · rw [if_neg e]
    by_cases h2 : (3 ≤ j ∧ j < 3 + n) ∧ u j = cell
    · rw [if_pos h2, if_pos ⟨by omega, h2.2⟩]
    · rw [if_neg h2, if_neg (fun q => h2 ⟨by omega, q.2⟩)]
theorem bmK_rg {u : Int → Int} {w cell n : Int} (h : ∀ j : Int, rg (u j)) (hw : 0 ≤ w ∧ w ≤ 2) (j : Int) : rg (bmK u w cell n j) := by
  unfold bmK
  split
  · unfold rg
    omega
  · exact h j
theorem Cp_br {u op lk kp wc : Int → Int} {pn nw sh wk w cell : Int} (h : Cp u op lk kp wc pn nw sh wk) (hn : nw ≤ 3) (hw : 0 ≤ w ∧ w ≤ 2) (hc : 0 ≤ cell ∧ cell ≤ 24) : Cp (bmK u w cell 6) op lk (brK kp cell w 6) wc pn nw sh wk := by
  obtain ⟨⟨a1, a2, a3⟩, a4, a5, a6, a7⟩ := h
  have o : ∀ j : Int, (j < 3 ∨ 9 ≤ j) → bmK u w cell 6 j = u j := fun j hj => if_neg (by omega)
  refine ⟨⟨?_, ?_, ?_⟩, fun k k0 k1 => ?_, fun i w0 w1 => ?_, fun d c0 c1 => ⟨?_, ?_, ?_⟩, bmK_rg a7 hw⟩
  · rw [o _ (by omega)]; exact a1
  · rw [o _ (by omega)]; exact a2
  · rw [o _ (by omega)]; exact a3
  · unfold bmK brK
    rw [a4 k k0 k1]
    by_cases e : kp k = cell
    · rw [if_pos ⟨by omega, by rw [e]; unfold kM; rw [if_neg (by omega)]⟩, if_pos ⟨by omega, e⟩]
      unfold kM
      rw [if_pos (by omega)]
      omega
    · rw [if_neg (fun q => e (by have q2 := q.2; unfold kM at q2; split at q2 <;> omega)), if_neg (fun q => e q.2)]
  · rw [o _ (by omega)]; exact a5 i w0 w1
  · rw [o _ (by omega)]; exact (a6 d c0 c1).1
  · rw [o _ (by omega)]; exact (a6 d c0 c1).2.1
  · rw [o _ (by omega)]; exact (a6 d c0 c1).2.2
theorem enter_ok {op lk kp wc : Int → Int} {pn nw sh wk r c : Int} (h : okC r c) (hn : nw < 3) (hp : lk (r * 5 + c) = -1) : enterF op lk kp wc pn nw sh wk r c = (nw, op, lk, brK kp (r * 5 + c) nw 6, ui wc nw (r * 5 + c), pn, nw + 1, sh, wk) := by
  unfold enterF
  rw [if_neg (fun q => q h), if_neg (by omega), if_neg (fun q => q hp)]
theorem enter_no {op lk kp wc : Int → Int} {pn nw sh wk r c : Int} (h : ¬ (okC r c ∧ nw < 3 ∧ lk (r * 5 + c) = -1)) : (enterF op lk kp wc pn nw sh wk r c).1 < 0 ∧ (enterF op lk kp wc pn nw sh wk r c).2 = (op, lk, kp, wc, pn, nw, sh, wk) := by
  unfold enterF
  split
  · exact ⟨by simp, rfl⟩
  · split
    · exact ⟨by simp, rfl⟩
    · split
      · exact ⟨by simp, rfl⟩
      · rename_i h1 h2 h3
        exact absurd ⟨Classical.not_not.mp h1, by omega, Classical.not_not.mp h3⟩ h
theorem th_enter (op lk kp wc : Int → Int) (pn nw sh wk r c : Int) (b b' : Bool) (hn : 0 ≤ nw) (hb : b = true ↔ nw < 3) (hb' : okC r c → (b' = true ↔ lk (r * 5 + c) = -1)) : thZ (decide ((0 ≤ r ∧ r ≤ 4) ∧ (0 ≤ c ∧ c ≤ 4))) b b' = tE (enterF op lk kp wc pn nw sh wk r c).1 := by
  unfold enterF
  split
  · exact thZ_1 (fun q => absurd (of_decide_eq_true q) (by omega))
  · rename_i h1
    have h2 : okC r c := Classical.not_not.mp h1
    split
    · rename_i h3
      exact thZ_2 (decide_eq_true (by omega)) (fun q => by have := hb.mp q; omega)
    · split
      · rename_i h3 h4
        exact thZ_3 (decide_eq_true (by omega)) (hb.mpr (by omega)) (fun q => h4 ((hb' h2).mp q))
      · rename_i h3 h4
        rw [tE_0 hn]
        exact thZ_0 (decide_eq_true (by omega)) (hb.mpr (by omega)) ((hb' h2).mpr (Classical.not_not.mp h4))
/-! walking -/
def mD (x : Int) : Int := if 25 ≤ x then -1 else x
theorem walk_ok {op lk kp wc : Int → Int} {pn nw sh wk w r c : Int} (h : (0 ≤ w ∧ w < nw) ∧ okC r c) (h2 : ¬ wc w = r * 5 + c) (h3 : dz (Gw op lk kp w) (wc w) (r * 5 + c) < 25) : walkF op lk kp wc pn nw sh wk w r c = (dz (Gw op lk kp w) (wc w) (r * 5 + c), op, lk, brK kp (r * 5 + c) w 6, ui wc w (r * 5 + c), pn, nw, sh, wk + dz (Gw op lk kp w) (wc w) (r * 5 + c)) := by
  unfold walkF
  rw [if_neg (fun q => q h), if_neg h2, if_neg (by omega)]
theorem walk_no {op lk kp wc : Int → Int} {pn nw sh wk w r c : Int} (h : ¬ (((0 ≤ w ∧ w < nw) ∧ okC r c) ∧ ¬ wc w = r * 5 + c ∧ dz (Gw op lk kp w) (wc w) (r * 5 + c) < 25)) : (walkF op lk kp wc pn nw sh wk w r c).1 < 0 ∧ (walkF op lk kp wc pn nw sh wk w r c).2 = (op, lk, kp, wc, pn, nw, sh, wk) := by
  unfold walkF
  split
  · exact ⟨by simp, rfl⟩
  · split
    · exact ⟨by simp, rfl⟩
    · split
      · exact ⟨by simp, rfl⟩
      · rename_i h1 h2 h3
        exact absurd ⟨Classical.not_not.mp h1, h2, by omega⟩ h
theorem th_walk (op lk kp wc : Int → Int) (pn nw sh wk w r c : Int) (b b1 b2 : Bool) (hwc : ∀ j, 0 ≤ wc j ∧ wc j ≤ 24) (hb : b = true ↔ (0 ≤ w ∧ w < nw) ∧ okC r c) (hb1 : b = true → (b1 = true ↔ ¬ wc w = r * 5 + c)) (hb2 : b = true → b1 = true → (b2 = true ↔ dz (Gw op lk kp w) (wc w) (r * 5 + c) < 25)) : thZ b b1 b2 = tA (walkF op lk kp wc pn nw sh wk w r c).1 := by
  unfold walkF
  split
  · rename_i h1
    exact thZ_1 (fun q => h1 (hb.mp q))
  · rename_i h1
    have h2 := hb.mpr (Classical.not_not.mp h1)
    split
    · rename_i h3
      exact thZ_2 h2 (fun q => (hb1 h2).mp q h3)
    · rename_i h3
      have h4 := (hb1 h2).mpr h3
      split
      · rename_i h5
        exact thZ_3 h2 h4 (fun q => by have := (hb2 h2 h4).mp q; omega)
      · rename_i h5
        rw [tA_0 (dz_rg Gw_ok (hwc w) _).1]
        exact thZ_0 h2 h4 ((hb2 h2 h4).mpr (by omega))
