/-! ===== the output line ===== -/
abbrev lnQ : Type := (Int → Int) × Int
def ptF (q : lnQ) (ch : Int) : lnQ := (ui q.1 q.2 ch, q.2 + 1)
def tlC (o : Int) : Int := if o < 10 then 48 + o else 65 + o - 10
def pinL (pn cell : Int) : List Int := if fixP pn cell then [42] else []
def lkL (lk : Int → Int) (cell : Int) : List Int := if lk cell = -1 then [] else [35, 97 + lk cell]
def wkL (wc : Int → Int) (nw cell : Int) : List Int := if 0 < cntK wc cell nw then [64] else []
def kyN (kp : Int → Int) (cell : Int) : Nat → List Int
  | 0 => []
  | n + 1 => kyN kp cell n ++ (if kp (n : Int) = cell then [97 + (n : Int)] else [])
def kyL (kp : Int → Int) (cell n : Int) : List Int := kyN kp cell n.toNat
def tlL (op lk kp wc : Int → Int) (pn nw cell : Int) : List Int := [tlC (op cell)] ++ pinL pn cell ++ lkL lk cell ++ wkL wc nw cell ++ kyL kp cell 6
def rwN (op lk kp wc : Int → Int) (pn nw r : Int) : Nat → List Int
  | 0 => []
  | n + 1 => rwN op lk kp wc pn nw r n ++ (if (n : Int) = 0 then [] else [32]) ++ tlL op lk kp wc pn nw (r * 5 + (n : Int))
def rwL (op lk kp wc : Int → Int) (pn nw r n : Int) : List Int := rwN op lk kp wc pn nw r n.toNat
theorem kyL_0 {kp : Int → Int} {cell : Int} : kyL kp cell 0 = [] := rfl
theorem kyL_s {kp : Int → Int} {cell n : Int} (h : 0 ≤ n) : kyL kp cell (n + 1) = kyL kp cell n ++ (if kp n = cell then [97 + n] else []) := by
  unfold kyL
  rw [show (n + 1).toNat = n.toNat + 1 by omega, kyN, Int.toNat_of_nonneg h]
theorem rwL_0 {op lk kp wc : Int → Int} {pn nw r : Int} : rwL op lk kp wc pn nw r 0 = [] := rfl
theorem rwL_s {op lk kp wc : Int → Int} {pn nw r n : Int} (h : 0 ≤ n) : rwL op lk kp wc pn nw r (n + 1) = rwL op lk kp wc pn nw r n ++ (if n = 0 then [] else [32]) ++ tlL op lk kp wc pn nw (r * 5 + n) := by
  unfold rwL
  rw [show (n + 1).toNat = n.toNat + 1 by omega, rwN, Int.toNat_of_nonneg h]
section FLD
variable {pt : lnQ → Int → lnQ} {q0 q q1 q2 : lnQ} {L : List Int} {ch ch2 : Int}
theorem fl_0 : q0 = List.foldl pt q0 [] := rfl
theorem fl_w (h : q = List.foldl pt q0 L) (h2 : q1 = pt q ch) : q1 = List.foldl pt q0 (L ++ [ch]) := by
  rw [List.foldl_append, ← h]
  exact h2
theorem fl_l {L2 : List Int} (h : q = List.foldl pt q0 L) (h2 : q1 = List.foldl pt q L2) : q1 = List.foldl pt q0 (L ++ L2) := by
  rw [List.foldl_append, ← h]
  exact h2
theorem fl_n (h : q = List.foldl pt q0 L) : q = List.foldl pt q0 (L ++ []) := by
  rw [List.append_nil]
  exact h
theorem fl_w2 (h : q = List.foldl pt q0 L) (h2 : q1 = pt q ch) (h3 : q2 = pt q1 ch2) : q2 = List.foldl pt q0 (L ++ [ch, ch2]) := by
  rw [List.foldl_append, ← h]
  show q2 = pt (pt q ch) ch2
  rw [← h2]
  exact h3
end FLD
theorem wr_b {f g : Int → Int} {n m ch : Int} (h : (g, m) = wrF (f, n) ch) (hn : 0 ≤ n ∧ n ≤ 35) : 0 ≤ m ∧ m ≤ 35 := by
  unfold wrF at h
  split at h
  · rename_i q
    have e : m = n + 1 := congrArg Prod.snd h
    have q2 : n < 35 := q
    omega
  · have e : m = n := congrArg Prod.snd h
    omega
theorem pt_len : ∀ (L : List Int) (q : lnQ), (List.foldl ptF q L).2 = q.2 + L.length
  | [], q => by show q.2 = q.2 + ((0 : Nat) : Int); omega
  | c :: L, q => by
    show (List.foldl ptF (ptF q c) L).2 = _
    rw [pt_len L]
    show q.2 + 1 + (L.length : Int) = q.2 + ((L.length + 1 : Nat) : Int)
    omega
theorem wr_pt : ∀ (L : List Int) (q : lnQ), q.2 + L.length ≤ 35 → List.foldl wrF q L = List.foldl ptF q L
  | [], _, _ => rfl
  | c :: L, q, h => by
    have hl : ((c :: L).length : Int) = (L.length : Int) + 1 := by simp
    have e : wrF q c = ptF q c := by
      unfold wrF
      rw [if_pos (by omega)]
      rfl
    show List.foldl wrF (wrF q c) L = List.foldl ptF (ptF q c) L
    rw [e]
    exact wr_pt L _ (by show q.2 + 1 + (L.length : Int) ≤ 35; omega)
/-- two lines that hold the same ahead, and get the same behind -/
theorem pt_same : ∀ (L : List Int) (f g : Int → Int) (n : Int), (∀ j : Int, 0 ≤ j → j < n → f j = g j) → ∀ j : Int, 0 ≤ j → j < n + L.length → (List.foldl ptF (f, n) L).1 j = (List.foldl ptF (g, n) L).1 j
  | [], f, g, n, h, j, h0, h1 => h j h0 (by simpa using h1)
  | c :: L, f, g, n, h, j, h0, h1 => by
    show (List.foldl ptF (ui f n c, n + 1) L).1 j = (List.foldl ptF (ui g n c, n + 1) L).1 j
    have hlen : ((c :: L).length : Int) = (L.length : Int) + 1 := by simp
    refine pt_same L _ _ _ (fun i i0 i1 => ?_) j h0 (by omega)
    by_cases e : i = n
    · rw [e, ui_s, ui_s]
    · rw [ui_n e, ui_n e]
      exact h i i0 (by omega)
def chR (x : Int) : Prop := 0 ≤ x ∧ x ≤ 65535
theorem pt_ch : ∀ (L : List Int) (q : lnQ), (∀ j : Int, chR (q.1 j)) → (∀ c ∈ L, chR c) → ∀ j : Int, chR ((List.foldl ptF q L).1 j)
  | [], _, h, _, j => h j
  | c :: L, q, h, h2, j => by
    refine pt_ch L (ptF q c) (fun i => ?_) (fun x hx => h2 x (List.mem_cons_of_mem _ hx)) j
    show chR (ui q.1 q.2 c i)
    unfold ui
    split
    · exact h2 c List.mem_cons_self
    · exact h i
theorem wr_ch : ∀ (L : List Int) (q : lnQ), (∀ j : Int, chR (q.1 j)) → (∀ c ∈ L, chR c) → ∀ j : Int, chR ((List.foldl wrF q L).1 j)
  | [], _, h, _, j => h j
  | c :: L, q, h, h2, j => by
    refine wr_ch L (wrF q c) (fun i => ?_) (fun x hx => h2 x (List.mem_cons_of_mem _ hx)) j
    unfold wrF
    split
    · show chR (ui q.1 q.2 c i)
      unfold ui
      split
      · exact h2 c List.mem_cons_self
      · exact h i
    · exact h i
theorem tlC_b {o : Int} (h : 0 ≤ o ∧ o ≤ 15) : 48 ≤ tlC o ∧ tlC o ≤ 70 := by
  unfold tlC
  split <;> omega
theorem kyN_ch {kp : Int → Int} {cell : Int} : ∀ n : Nat, n ≤ 6 → ∀ c ∈ kyN kp cell n, chR c
  | 0, _, c, hc => by cases hc
  | n + 1, hn, c, hc => by
    unfold kyN at hc
    rcases List.mem_append.mp hc with h | h
    · exact kyN_ch n (by omega) c h
    · split at h
      · rw [List.mem_singleton.mp h]
        unfold chR
        omega
      · cases h
theorem tlL_ch {op lk kp wc : Int → Int} {pn nw cell : Int} (h1 : 0 ≤ op cell ∧ op cell ≤ 15) (h2 : -1 ≤ lk cell ∧ lk cell ≤ 5) : ∀ c ∈ tlL op lk kp wc pn nw cell, chR c := by
  intro c hc
  unfold tlL at hc
  rcases List.mem_append.mp hc with hc | hc
  · rcases List.mem_append.mp hc with hc | hc
    · rcases List.mem_append.mp hc with hc | hc
      · rcases List.mem_append.mp hc with hc | hc
        · rw [List.mem_singleton.mp hc]
          have := tlC_b h1
          unfold chR
          omega
        · unfold pinL at hc
          split at hc
          · rw [List.mem_singleton.mp hc]
            unfold chR
            omega
          · cases hc
      · unfold lkL at hc
        split at hc
        · cases hc
        · rcases List.mem_cons.mp hc with e | hc
          · rw [e]
            unfold chR
            omega
          · rw [List.mem_singleton.mp hc]
            unfold chR
            omega
    · unfold wkL at hc
      split at hc
      · rw [List.mem_singleton.mp hc]
        unfold chR
        omega
      · cases hc
  · exact kyN_ch 6 (by omega) c hc
theorem rwN_ch {op lk kp wc : Int → Int} {pn nw r : Int} (h1 : ∀ j, 0 ≤ op j ∧ op j ≤ 15) (h2 : ∀ j, -1 ≤ lk j ∧ lk j ≤ 5) : ∀ n : Nat, ∀ c ∈ rwN op lk kp wc pn nw r n, chR c
  | 0, c, hc => by cases hc
  | n + 1, c, hc => by
    unfold rwN at hc
    rcases List.mem_append.mp hc with hc | hc
    · rcases List.mem_append.mp hc with hc | hc
      · exact rwN_ch h1 h2 n c hc
      · split at hc
        · cases hc
        · rw [List.mem_singleton.mp hc]
          unfold chR
          omega
    · exact tlL_ch (h1 _) (h2 _) c hc
theorem kyN_len {kp : Int → Int} {cell : Int} : ∀ n : Nat, ((kyN kp cell n).length : Int) = cntN kp cell n
  | 0 => rfl
  | n + 1 => by
    unfold kyN cntN
    rw [List.length_append]
    have := kyN_len (kp := kp) (cell := cell) n
    split
    · simp
      omega
    · simp
      omega
theorem tlL_len {op lk kp wc : Int → Int} {pn nw cell : Int} : ((tlL op lk kp wc pn nw cell).length : Int) ≤ 5 + cntN kp cell 6 ∧ 1 ≤ ((tlL op lk kp wc pn nw cell).length : Int) := by
  have h0 := kyN_len (kp := kp) (cell := cell) 6
  have h1 : ((pinL pn cell).length : Int) ≤ 1 := by
    unfold pinL
    split <;> simp
  have h2 : ((lkL lk cell).length : Int) ≤ 2 := by
    unfold lkL
    split <;> simp
  have h3 : ((wkL wc nw cell).length : Int) ≤ 1 := by
    unfold wkL
    split <;> simp
  have h4 : ((kyL kp cell 6).length : Int) = cntN kp cell 6 := h0
  unfold tlL
  rw [List.length_append, List.length_append, List.length_append, List.length_append, List.length_singleton]
  omega
theorem tlL_11 {op lk kp wc : Int → Int} {pn nw cell : Int} : ((tlL op lk kp wc pn nw cell).length : Int) ≤ 11 := by
  have h := (tlL_len (op := op) (lk := lk) (kp := kp) (wc := wc) (pn := pn) (nw := nw) (cell := cell)).1
  have h2 := cntN_b kp cell 6
  omega
theorem rwN_len {op lk kp wc : Int → Int} {pn nw r : Int} : ∀ n : Nat, ((rwN op lk kp wc pn nw r n).length : Int) ≤ 6 * n - (if n = 0 then 0 else 1) + smN (fun i => cntN kp (r * 5 + i) 6) n
  | 0 => by
    show ((0 : Nat) : Int) ≤ _
    rw [if_pos rfl]
    show (0 : Int) ≤ 6 * 0 - 0 + 0
    omega
  | n + 1 => by
    have ih := rwN_len (op := op) (lk := lk) (kp := kp) (wc := wc) (pn := pn) (nw := nw) (r := r) n
    have ht := (tlL_len (op := op) (lk := lk) (kp := kp) (wc := wc) (pn := pn) (nw := nw) (cell := r * 5 + (n : Int))).1
    unfold rwN smN
    rw [List.length_append, List.length_append]
    by_cases e : n = 0
    · subst e
      rw [if_pos rfl] at ih
      rw [if_pos (show ((0 : Nat) : Int) = 0 from rfl), if_neg (show ¬ 0 + 1 = 0 by decide), List.length_nil]
      omega
    · rw [if_neg e] at ih
      rw [if_neg (show ¬ (n : Int) = 0 by omega), if_neg (show ¬ n + 1 = 0 by omega), List.length_singleton]
      omega
theorem ifc {P Q : Prop} {i : Decidable P} {k : Decidable Q} (h : P ↔ Q) : (if P then (1 : Int) else 0) = (if Q then 1 else 0) := by
  by_cases q : Q
  · rw [if_pos q, if_pos (h.mpr q)]
  · rw [if_neg q, if_neg (fun z => q (h.mp z))]
theorem cntN_sm (f : Int → Int) (x : Int) : ∀ n : Nat, cntN f x n = smN (fun j => if f j = x then 1 else 0) n
  | 0 => rfl
  | n + 1 => by unfold cntN smN; rw [cntN_sm f x n]
theorem ln_one {y fs sd : Int} (hL : linP fs sd) : smN (fun i => if y = fs + i * sd then 1 else 0) 5 = if 0 ≤ lnI y fs sd ∧ lnI y fs sd < 5 then 1 else 0 := by
  by_cases q : 0 ≤ lnI y fs sd ∧ lnI y fs sd < 5
  · rw [if_pos q]
    have e := smN_one (k := lnI y fs sd) q.1 5
    rw [if_pos (show lnI y fs sd < ((5 : Nat) : Int) by omega)] at e
    refine (smN_congr 5 (fun j h0 h1 => ifc ⟨fun z => ?_, fun z => ?_⟩)).trans e
    · rw [z, lnI_at hL]
    · rw [z]
      exact lnI_of hL q.1 q.2
  · rw [if_neg q, ← smN_0 5]
    refine smN_congr 5 (fun j h0 h1 => if_neg (fun z => q ?_))
    rw [z, lnI_at hL]
    omega
theorem ky_row {kp : Int → Int} {r : Int} (h : 0 ≤ r ∧ r ≤ 4) : smN (fun i => cntN kp (r * 5 + i) 6) 5 ≤ 6 := by
  have hL : linP (r * 5) 1 := Or.inl ⟨rfl, by omega, by omega⟩
  have e1 : smN (fun i => cntN kp (r * 5 + i) 6) 5 = smN (fun i => smN (fun j => if kp j = r * 5 + i * 1 then 1 else 0) 6) 5 :=
    smN_congr 5 (fun j _ _ => by rw [show r * 5 + j * 1 = r * 5 + j by omega]; exact cntN_sm _ _ _)
  rw [e1, smN_swap]
  have e2 : ∀ n : Nat, smN (fun j => smN (fun i => if kp j = r * 5 + i * 1 then 1 else 0) 5) n ≤ n := by
    intro n
    induction n with
    | zero => exact Int.le_refl _
    | succ n ih =>
      unfold smN
      have q : smN (fun i => if kp (n : Int) = r * 5 + i * 1 then (1 : Int) else 0) 5 ≤ 1 := by
        rw [ln_one hL]
        split <;> omega
      have q2 : (fun j => smN (fun i => if kp j = r * 5 + i * 1 then (1 : Int) else 0) 5) (n : Int) ≤ 1 := q
      omega
  exact e2 6
theorem rwL_35 {op lk kp wc : Int → Int} {pn nw r : Int} (h : 0 ≤ r ∧ r ≤ 4) : ((rwL op lk kp wc pn nw r 5).length : Int) ≤ 35 := by
  have h1 := rwN_len (op := op) (lk := lk) (kp := kp) (wc := wc) (pn := pn) (nw := nw) (r := r) 5
  have h2 := ky_row (kp := kp) h
  rw [if_neg (by decide)] at h1
  show ((rwN op lk kp wc pn nw r 5).length : Int) ≤ 35
  omega
theorem cntK_p {f : Int → Int} {x n : Int} (hn : 0 ≤ n) : 0 < cntK f x (n + 1) ↔ 0 < cntK f x n ∨ f n = x := by
  have h := cntK_b (f := f) (x := x) hn
  rw [cntK_s hn]
  split
  · rename_i q
    exact ⟨fun _ => Or.inr q, fun _ => by omega⟩
  · rename_i q
    exact ⟨fun z => Or.inl (by omega), fun z => z.elim (fun y => by omega) (fun y => absurd y q)⟩
