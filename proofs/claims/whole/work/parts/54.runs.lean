/-! ===== a text of the model ===== -/
def raI (t : Int → Int) (n sp wr to9 : Int) (nu : Int → Int) : Prop := preP t n (to9 - 1) ∧ (∀ i : Int, 0 ≤ i → i < to9 - 1 → nmC t n nu i) ∧
  ((wr = -1 ∧ 0 ≤ enZ t n (to9 - 1) ∧ sp = enZ t n (to9 - 1) ∧ nmC t n nu (to9 - 1)) ∨ (¬ wr = -1 ∧ ((enZ t n (to9 - 1) < 0 ∧ wr = -1 - enZ t n (to9 - 1)) ∨ (0 ≤ enZ t n (to9 - 1) ∧ enZ t n (to9 - 1) < n ∧ ¬ t (enZ t n (to9 - 1)) = 59 ∧ wr = enZ t n (to9 - 1)))))
theorem ra_rc {t : Int → Int} {n sp sp1 wr1 k : Int} {nu nu1 : Int → Int} (hn : 0 ≤ n) (hk : 0 ≤ k) (hp : preP t n k) (hm : ∀ i : Int, 0 ≤ i → i < k → nmC t n nu i) (hs : sp = atZ t n k) (h : rcP t n sp sp1 wr1 nu1 (4 * k)) (hkeep : ∀ j : Int, j < 4 * k → nu1 j = nu j) : raI t n sp1 wr1 (k + 1) nu1 := by
  have e : k + 1 - 1 = k := by omega
  have hat := preP_b (t := t) hn hk hp
  have hb := rdR_b (t := t) (n := n) (st := sp) ⟨by omega, by omega⟩
  have hen : (rdR t n sp).1 = enZ t n k := by rw [hs]; rfl
  unfold raI
  rw [e]
  refine ⟨hp, fun i i0 i1 => nmC_keep (hm i i0 i1) (fun j hj => hkeep j (by omega)), ?_⟩
  rcases Int.lt_or_le (rdR t n sp).1 0 with q | q
  · have h1 := h.1 q
    exact Or.inr ⟨by omega, Or.inl ⟨by omega, by omega⟩⟩
  · have h1 := h.2 q
    refine Or.inl ⟨h1.1, by omega, by omega, ?_⟩
    unfold nmC cdZ
    rw [← hs]
    exact h1.2.2
theorem ra_to {t : Int → Int} {n sp wr to9 : Int} {nu : Int → Int} (hn : 0 ≤ n ∧ n ≤ 60) (h1 : 1 ≤ to9) (I : raI t n sp wr to9 nu) : to9 ≤ 9 := by
  have := preP_b (t := t) hn.1 (show 0 ≤ to9 - 1 by omega) I.1
  omega
theorem ra_no {t : Int → Int} {n sp wr to9 s1 : Int} {nu : Int → Int} (hn : 0 ≤ n) (I : raI t n sp wr to9 nu) (hw : wr = -1) (hsp : 0 ≤ sp ∧ sp < n) (h : ¬ rOk t n 59 59 sp) : raI t n s1 sp to9 nu := by
  obtain ⟨a1, a2, a3⟩ := I
  refine ⟨a1, a2, Or.inr ⟨by omega, Or.inr ?_⟩⟩
  rcases a3 with ⟨b1, b2, b3, b4⟩ | ⟨b1, _⟩
  · refine ⟨b2, by omega, fun q => h ⟨hsp.2, ?_⟩, b3⟩
    rw [b3, q]
    exact ⟨Int.le_refl _, Int.le_refl _⟩
  · exact absurd hw b1
theorem ra_at {t : Int → Int} {n sp wr to9 : Int} {nu : Int → Int} (I : raI t n sp wr to9 nu) (h1 : 1 ≤ to9) (hw : wr = -1) (h : rOk t n 59 59 sp) : preP t n to9 ∧ (∀ i : Int, 0 ≤ i → i < to9 → nmC t n nu i) ∧ sp + 1 = atZ t n to9 := by
  obtain ⟨a1, a2, a3⟩ := I
  have e : to9 = (to9 - 1) + 1 := by omega
  rcases a3 with ⟨b1, b2, b3, b4⟩ | ⟨b1, _⟩
  · have h59 : t (enZ t n (to9 - 1)) = 59 := by
      rw [← b3]
      have := h.2
      omega
    have hlt : enZ t n (to9 - 1) < n := by
      have := h.1
      omega
    refine ⟨?_, fun i i0 i1 => ?_, ?_⟩
    · rw [e]
      exact preP_s a1 ⟨b2, hlt, h59⟩
    · by_cases q : i = to9 - 1
      · rw [q]
        exact b4
      · exact a2 i i0 (by omega)
    · have q := atZ_s (t := t) (n := n) (k := to9 - 1) (by omega)
      rw [← e] at q
      omega
  · exact absurd hw b1
theorem ra_fe {t : Int → Int} {n sp wr to9 : Int} {nu : Int → Int} (I : raI t n sp wr to9 nu) (h1 : 1 ≤ to9) (h : ¬ wr = -1 ∨ n ≤ sp) : feP t n wr to9 ∧ (wr = -1 → ∀ i : Int, 0 ≤ i → i < to9 → nmC t n nu i) := by
  obtain ⟨a1, a2, a3⟩ := I
  rcases a3 with ⟨b1, b2, b3, b4⟩ | ⟨b1, b2⟩
  · refine ⟨⟨to9 - 1, by omega, a1, Or.inr (Or.inl ⟨b2, by omega, b1, by omega⟩)⟩, fun _ i i0 i1 => ?_⟩
    by_cases q : i = to9 - 1
    · rw [q]
      exact b4
    · exact a2 i i0 (by omega)
  · refine ⟨⟨to9 - 1, by omega, a1, ?_⟩, fun q => absurd q b1⟩
    rcases b2 with q | q
    · exact Or.inl q
    · exact Or.inr (Or.inr q)
/-! what is thrown tells whether it went -/
section TZ
variable {op lk kp wc : Int → Int} {pn nw sh wk : Int}
theorem tz_set {r c o : Int} (hB : BI op lk kp wc pn nw) : tA (setF op lk kp wc pn nw sh wk r c o).1 = 0 ↔ 0 ≤ (setF op lk kp wc pn nw sh wk r c o).1 := by
  unfold setF
  split
  · show tA (-1) = 0 ↔ (0 : Int) ≤ -1
    decide
  · split
    · show tA (-2) = 0 ↔ (0 : Int) ≤ -2
      decide
    · have h := (hB.1 (r * 5 + c)).1
      exact ⟨fun _ => h, fun _ => tA_0 h⟩
theorem tz_turn {r c q : Int} (hB : BI op lk kp wc pn nw) : tA (turnF op lk kp wc pn nw sh wk r c q).1 = 0 ↔ 0 ≤ (turnF op lk kp wc pn nw sh wk r c q).1 := by
  unfold turnF
  split
  · show tA (-1) = 0 ↔ (0 : Int) ≤ -1
    decide
  · split
    · show tA (-2) = 0 ↔ (0 : Int) ≤ -2
      decide
    · split
      · show tA (-3) = 0 ↔ (0 : Int) ≤ -3
        decide
      · have h := (rot_eq (x := op (r * 5 + c)) (q := q) (hB.1 _) (by omega)).2.1
        exact ⟨fun _ => h, fun _ => tA_0 h⟩
theorem tz_pin {pi r c : Int} (hB : BI op lk kp wc pn nw) : tP (pinF op lk kp wc pn nw sh wk pi r c).1 = 0 ↔ 0 ≤ (pinF op lk kp wc pn nw sh wk pi r c).1 := by
  have hpn := hB.2.2.2.2.1
  unfold pinF
  split
  · unfold fixF
    split
    · show tP (-1) = 0 ↔ (0 : Int) ≤ -1
      decide
    · split
      · show tP (-3) = 0 ↔ (0 : Int) ≤ -3
        decide
      · have h7 := fix_rg (c := r * 5 + c) hpn (by omega) (by omega)
        have h9 := cnbK_b (P := fun d => decide (fixP (iorZ pn (ishlZ 1 (r * 5 + c))) d)) (n := 25) (by decide)
        rw [← bc_cnt h7] at h9
        exact ⟨fun _ => h9.1, fun _ => tP_0 h9.1⟩
  · unfold freeF
    split
    · show tP (-1) = 0 ↔ (0 : Int) ≤ -1
      decide
    · split
      · show tP (-3) = 0 ↔ (0 : Int) ≤ -3
        decide
      · have h7 := free_rg (c := r * 5 + c) hpn (by omega) (by omega)
        have h9 := cnbK_b (P := fun d => decide (fixP (iandZ pn (ixorZ (ishlZ 1 (r * 5 + c)) (-1))) d)) (n := 25) (by decide)
        rw [← bc_cnt h7] at h9
        exact ⟨fun _ => h9.1, fun _ => tP_0 h9.1⟩
theorem tz_lay {k r c : Int} : tL (layF op lk kp wc pn nw sh wk k r c).1 = 0 ↔ 0 ≤ (layF op lk kp wc pn nw sh wk k r c).1 := by
  unfold layF
  split
  · show tL (-2) = 0 ↔ (0 : Int) ≤ -2
    decide
  · split
    · show tL (-1) = 0 ↔ (0 : Int) ≤ -1
      decide
    · split
      · show tL (-3) = 0 ↔ (0 : Int) ≤ -3
        decide
      · have h := (cntK_b (f := ui kp (k - 97) (r * 5 + c)) (x := r * 5 + c) (n := 6) (by decide)).1
        exact ⟨fun _ => h, fun _ => tL_0 h⟩
theorem tz_hang {r c k : Int} : tA (hangF op lk kp wc pn nw sh wk r c k).1 = 0 ↔ 0 ≤ (hangF op lk kp wc pn nw sh wk r c k).1 := by
  unfold hangF
  split
  · show tA (-1) = 0 ↔ (0 : Int) ≤ -1
    decide
  · split
    · show tA (-2) = 0 ↔ (0 : Int) ≤ -2
      decide
    · split
      · show tA (-3) = 0 ↔ (0 : Int) ≤ -3
        decide
      · have h := (cnbK_b (P := fun j => decide (¬ ui lk (r * 5 + c) (k - 97) j = -1)) (n := 25) (by decide)).1
        exact ⟨fun _ => h, fun _ => tA_0 h⟩
theorem tz_take {r c : Int} (hB : BI op lk kp wc pn nw) : tT (takeF op lk kp wc pn nw sh wk r c).1 = 0 ↔ 0 ≤ (takeF op lk kp wc pn nw sh wk r c).1 := by
  unfold takeF
  split
  · show tT (-1) = 0 ↔ (0 : Int) ≤ -1
    decide
  · split
    · show tT (-5) = 0 ↔ (0 : Int) ≤ -5
      decide
    · have h := (hB.2.1 (r * 5 + c)).1
      have h2 : (0 : Int) ≤ 97 + lk (r * 5 + c) := by omega
      exact ⟨fun _ => h2, fun _ => tT_0 h2⟩
theorem tz_enter {r c : Int} (hB : BI op lk kp wc pn nw) : tE (enterF op lk kp wc pn nw sh wk r c).1 = 0 ↔ 0 ≤ (enterF op lk kp wc pn nw sh wk r c).1 := by
  unfold enterF
  split
  · show tE (-1) = 0 ↔ (0 : Int) ≤ -1
    decide
  · split
    · show tE (-3) = 0 ↔ (0 : Int) ≤ -3
      decide
    · split
      · show tE (-4) = 0 ↔ (0 : Int) ≤ -4
        decide
      · have h := hB.2.2.2.2.2.1
        exact ⟨fun _ => h, fun _ => tE_0 h⟩
theorem tz_walk {w r c : Int} (hB : BI op lk kp wc pn nw) : tA (walkF op lk kp wc pn nw sh wk w r c).1 = 0 ↔ 0 ≤ (walkF op lk kp wc pn nw sh wk w r c).1 := by
  unfold walkF
  split
  · show tA (-1) = 0 ↔ (0 : Int) ≤ -1
    decide
  · split
    · show tA (-2) = 0 ↔ (0 : Int) ≤ -2
      decide
    · split
      · show tA (-3) = 0 ↔ (0 : Int) ≤ -3
        decide
      · have h := (dz_rg (G := Gw op lk kp w) (st := wc w) Gw_ok (hB.2.2.2.1 w) (r * 5 + c)).1
        exact ⟨fun _ => h, fun _ => tA_0 h⟩
theorem tz_ln {b : Bool} {r st : Int} (hB : BI op lk kp wc pn nw) : tA (lnF op lk kp wc pn nw sh wk b r st).1 = 0 ↔ 0 ≤ (lnF op lk kp wc pn nw sh wk b r st).1 := by
  by_cases q : 0 ≤ r ∧ r ≤ 4
  · by_cases q2 : ¬ st = 0 ∧ -4 ≤ st ∧ st ≤ 4
    · cases e : frB pn b r
      · rw [ln_3 q q2 e]
        show tA (-3) = 0 ↔ (0 : Int) ≤ -3
        decide
      · rw [ln_0 hB.2.2.2.1 q q2 e]
        have h := (lnC_b (wc := wc) (b := b) (ln := r) hB.2.2.2.2.2.1).1
        exact ⟨fun _ => h, fun _ => tA_0 h⟩
    · rw [ln_2 q q2]
      show tA (-2) = 0 ↔ (0 : Int) ≤ -2
      decide
  · rw [ln_1 q]
    show tA (-1) = 0 ↔ (0 : Int) ≤ -1
    decide
theorem tX_b (a : Int) : (0 ≤ tA a ∧ tA a ≤ 3) ∧ (0 ≤ tP a ∧ tP a ≤ 3) ∧ (0 ≤ tL a ∧ tL a ≤ 3) ∧ (0 ≤ tT a ∧ tT a ≤ 3) ∧ 0 ≤ tE a ∧ tE a ≤ 3 := by
  refine ⟨?_, ?_, ?_, ?_, ?_⟩
  · unfold tA; (repeat' split) <;> omega
  · unfold tP; (repeat' split) <;> omega
  · unfold tL; (repeat' split) <;> omega
  · unfold tT; (repeat' split) <;> omega
  · unfold tE; (repeat' split) <;> omega
variable {kd n1 n2 n3 : Int}
theorem dx_0 (h : kd = 0) : dxT (op, lk, kp, wc, pn, nw, sh, wk) kd n1 n2 n3 = setF op lk kp wc pn nw sh wk n1 n2 n3 := by subst h; rfl
theorem dx_1 (h : kd = 1) : dxT (op, lk, kp, wc, pn, nw, sh, wk) kd n1 n2 n3 = turnF op lk kp wc pn nw sh wk n1 n2 n3 := by subst h; rfl
theorem dx_2 (h : kd = 2) : dxT (op, lk, kp, wc, pn, nw, sh, wk) kd n1 n2 n3 = pinF op lk kp wc pn nw sh wk (3 - kd) n1 n2 := by
  unfold dxT pinF
  rw [if_neg (show ¬ (kd = 4 ∨ kd = 5) by omega), if_neg (show ¬ (kd = 6 ∨ kd = 10) by omega), if_pos (show (3 - kd) = 1 by omega)]
  exact ex_2 h
theorem dx_3 (h : kd = 3) : dxT (op, lk, kp, wc, pn, nw, sh, wk) kd n1 n2 n3 = pinF op lk kp wc pn nw sh wk (3 - kd) n1 n2 := by
  unfold dxT pinF
  rw [if_neg (show ¬ (kd = 4 ∨ kd = 5) by omega), if_neg (show ¬ (kd = 6 ∨ kd = 10) by omega), if_neg (show ¬ (3 - kd) = 1 by omega)]
  exact ex_3 h
theorem dx_4 (h : kd = 4) : dxT (op, lk, kp, wc, pn, nw, sh, wk) kd n1 n2 n3 = lnF op lk kp wc pn nw sh wk true n1 n2 := by
  subst h
  show rowF op lk kp wc pn nw sh wk n1 (1 * n2) = _
  rw [Int.one_mul]
  rfl
theorem dx_5 (h : kd = 5) : dxT (op, lk, kp, wc, pn, nw, sh, wk) kd n1 n2 n3 = lnF op lk kp wc pn nw sh wk false n1 n2 := by
  subst h
  show colF op lk kp wc pn nw sh wk n1 (1 * n2) = _
  rw [Int.one_mul]
  rfl
theorem dx_6 (h : kd = 6) : dxT (op, lk, kp, wc, pn, nw, sh, wk) kd n1 n2 n3 = layF op lk kp wc pn nw sh wk n3 n1 n2 := by subst h; rfl
theorem dx_7 (h : kd = 7) : dxT (op, lk, kp, wc, pn, nw, sh, wk) kd n1 n2 n3 = hangF op lk kp wc pn nw sh wk n1 n2 n3 := by subst h; rfl
theorem dx_8 (h : kd = 8) : dxT (op, lk, kp, wc, pn, nw, sh, wk) kd n1 n2 n3 = takeF op lk kp wc pn nw sh wk n1 n2 := by subst h; rfl
theorem dx_9 (h : kd = 9) : dxT (op, lk, kp, wc, pn, nw, sh, wk) kd n1 n2 n3 = enterF op lk kp wc pn nw sh wk n1 n2 := by subst h; rfl
theorem dx_10 (h : kd = 10) : dxT (op, lk, kp, wc, pn, nw, sh, wk) kd n1 n2 n3 = walkF op lk kp wc pn nw sh wk n3 n1 n2 := by subst h; rfl
end TZ
/-- what a run of the model leaves -/
def roP (t : Int → Int) (n : Int) (B : BT) (v hF : Int → Int) (re ea fa z : Int) (v1 h1 : Int → Int) (re1 ea1 fa1 th1 c9 : Int) : Prop :=
  (feP t n ea1 c9 ∧ ¬ ea1 = -1 ∧ th1 = 1 ∧ fa1 = fa ∧ re1 = re ∧ v1 = v ∧ h1 = hF) ∨
  (feP t n (-1) c9 ∧ ffP t n B c9 fa1 ∧ (0 ≤ fa1 ∧ fa1 < c9) ∧ th1 = 2 ∧ ea1 = ea ∧ re1 = re ∧ v1 = v ∧ h1 = hF) ∨
  (feP t n (-1) c9 ∧ ffP t n B c9 (-1) ∧ th1 = 0 ∧ z = c9 ∧ ea1 = ea ∧ fa1 = fa ∧ re1 = re8 re ∧ h1 = rmF hF v re ∧ CpT v1 (exB t n B c9))
