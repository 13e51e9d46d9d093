theorem Cp.a0 {v op lk kp wc : Int → Int} {pn nw sh wk : Int} (h : Cp v op lk kp wc pn nw sh wk) {c : Int} (h0 : 0 ≤ c) (h1 : c ≤ 24) : v (12 + 3 * c + 0) = op c := (h.2.2.2.1 c h0 h1).1
theorem Cp.a1 {v op lk kp wc : Int → Int} {pn nw sh wk : Int} (h : Cp v op lk kp wc pn nw sh wk) {c : Int} (h0 : 0 ≤ c) (h1 : c ≤ 24) : v (12 + 3 * c + 1) = fxZ pn c := (h.2.2.2.1 c h0 h1).2.1
theorem Cp.a2 {v op lk kp wc : Int → Int} {pn nw sh wk : Int} (h : Cp v op lk kp wc pn nw sh wk) {c : Int} (h0 : 0 ≤ c) (h1 : c ≤ 24) : v (12 + 3 * c + 2) = lk c := (h.2.2.2.1 c h0 h1).2.2
theorem Cp.key {v op lk kp wc : Int → Int} {pn nw sh wk : Int} (h : Cp v op lk kp wc pn nw sh wk) {k : Int} (h0 : 0 ≤ k) (h1 : k ≤ 5) : v (3 + k) = kM (kp k) := h.2.1 k h0 h1
theorem Cp.wal {v op lk kp wc : Int → Int} {pn nw sh wk : Int} (h : Cp v op lk kp wc pn nw sh wk) {w : Int} (h0 : 0 ≤ w) (h1 : w < nw) : v (9 + w) = wc w := h.2.2.1 w h0 h1
theorem Cp.R {v op lk kp wc : Int → Int} {pn nw sh wk : Int} (h : Cp v op lk kp wc pn nw sh wk) : ∀ j : Int, rg (v j) := h.2.2.2.2
theorem fxZ_b {pn c : Int} : fxZ pn c = 0 ∨ fxZ pn c = 1 := by
  unfold fxZ
  split
  · exact Or.inr rfl
  · exact Or.inl rfl
theorem fxZ_0 {pn c : Int} : fxZ pn c = 0 ↔ ¬ fixP pn c := by
  unfold fxZ
  split
  · rename_i h
    exact ⟨fun q => absurd q (by decide), fun q => absurd h q⟩
  · rename_i h
    exact ⟨fun _ => h, fun _ => rfl⟩
theorem jo_iff {op : Int → Int} {c d : Int} : (¬ cnZ op c d = -1) ↔ ¬ nbZ c d = -1 ∧ opnP (op c) d ∧ opnP (op (nbZ c d)) ((d + 2) % 4) := by
  unfold cnZ
  split
  · rename_i h
    exact ⟨fun q => absurd rfl q, fun q => absurd h q.1⟩
  · rename_i h
    split
    · rename_i h2
      exact ⟨fun _ => ⟨h, h2⟩, fun _ => h⟩
    · rename_i h2
      exact ⟨fun q => absurd rfl q, fun q => absurd q.2 h2⟩
theorem jo_nb {op : Int → Int} {c d : Int} (h : ¬ cnZ op c d = -1) : cnZ op c d = nbZ c d := by
  have h2 := jo_iff.mp h
  unfold cnZ
  rw [if_neg h2.1, if_pos h2.2]
/-- the first n rows of the history, moved one row down -/
def shK (hF : Int → Int) (n : Int) : Int → Int := fun j => if 0 ≤ j ∧ j < n then hF (j + 87) else hF j
theorem shK_0 {hF : Int → Int} : shK hF 0 = hF := by
  funext j
  unfold shK
  rw [if_neg (by omega)]
theorem shK_s {hF : Int → Int} {n : Int} (h : 0 ≤ n) : ui (shK hF n) n (shK hF n (n + 87)) = shK hF (n + 1) := by
  funext j
  have e0 : shK hF n (n + 87) = hF (n + 87) := by
    unfold shK
    rw [if_neg (by omega)]
  rw [e0]
  simp only [shK, ui]
  by_cases e : j = n
  · rw [if_pos e, if_pos (by omega), e]
  · rw [if_neg e]
    by_cases e2 : 0 ≤ j ∧ j < n
    · rw [if_pos e2, if_pos (by omega)]
    · rw [if_neg e2, if_neg (by omega)]
/-! the changes: what they throw, what they answer, what they leave -/
theorem isC_t {r c : Int} (h : decide ((0 ≤ r ∧ r ≤ 4) ∧ (0 ≤ c ∧ c ≤ 4)) = true) : okC r c := by
  have := of_decide_eq_true h
  omega
theorem isC_d {r c : Int} (h : okC r c) : decide ((0 ≤ r ∧ r ≤ 4) ∧ (0 ≤ c ∧ c ≤ 4)) = true := decide_eq_true (by omega)
section CHG
variable {v op lk kp wc : Int → Int} {pn nw sh wk : Int}
theorem rs_no {F : Int × BT} {B : BT} (h : F.1 < 0 ∧ F.2 = B) : rg 0 ∧ (0 ≤ F.1 → 0 = F.1) := ⟨by decide, fun q => by omega⟩
theorem cp_no {F : Int × BT} (hC : Cp v op lk kp wc pn nw sh wk) (h : F.1 < 0 ∧ F.2 = (op, lk, kp, wc, pn, nw, sh, wk)) : CpT v F.2 := by
  rw [h.2]
  exact hC
theorem cp_ok {F : Int × BT} {u : Int → Int} {op1 lk1 kp1 wc1 : Int → Int} {pn1 nw1 sh1 wk1 a : Int} (hC : Cp u op1 lk1 kp1 wc1 pn1 nw1 sh1 wk1) (h : F = (a, op1, lk1, kp1, wc1, pn1, nw1, sh1, wk1)) : CpT u F.2 := by
  rw [h]
  exact hC
theorem rs_ok {F : Int × BT} {B : BT} {a z : Int} (h : F = (a, B)) (e : z = a) (hr : rg a) : rg z ∧ (0 ≤ F.1 → z = F.1) := by
  subst e
  exact ⟨hr, fun _ => by rw [h]⟩
theorem set_n {r c o : Int} (h : okZ (decide ((0 ≤ r ∧ r ≤ 4) ∧ (0 ≤ c ∧ c ≤ 4))) (decide (0 ≤ o ∧ o ≤ 15)) true = false) : (setF op lk kp wc pn nw sh wk r c o).1 < 0 ∧ (setF op lk kp wc pn nw sh wk r c o).2 = (op, lk, kp, wc, pn, nw, sh, wk) :=
  set_no (fun q => okZ_f.mp h ⟨isC_d q.1, decide_eq_true q.2, rfl⟩)
theorem set_y {r c o : Int} (h : okZ (decide ((0 ≤ r ∧ r ≤ 4) ∧ (0 ≤ c ∧ c ≤ 4))) (decide (0 ≤ o ∧ o ≤ 15)) true = true) : setF op lk kp wc pn nw sh wk r c o = (op (cellZ r c), ui op (cellZ r c) o, lk, kp, wc, pn, nw, sh, wk) := by
  have q := okZ_t.mp h
  rw [cellZ_ok (isC_t q.1)]
  exact set_ok (isC_t q.1) (of_decide_eq_true q.2.1)
theorem set_rs {r c o : Int} (hop : ∀ j, 0 ≤ op j ∧ op j ≤ 15) : rg (op (cellZ r c)) ∧ (0 ≤ (setF op lk kp wc pn nw sh wk r c o).1 → op (cellZ r c) = (setF op lk kp wc pn nw sh wk r c o).1) := by
  refine ⟨by have := hop (cellZ r c); unfold rg; omega, fun q => ?_⟩
  cases h : okZ (decide ((0 ≤ r ∧ r ≤ 4) ∧ (0 ≤ c ∧ c ≤ 4))) (decide (0 ≤ o ∧ o ≤ 15)) true
  · have := (set_n (op := op) (lk := lk) (kp := kp) (wc := wc) (pn := pn) (nw := nw) (sh := sh) (wk := wk) h).1
    omega
  · rw [set_y h]
theorem turn_n {r c q : Int} {b : Bool} (hb : b = true ↔ fxZ pn (cellZ r c) = 0) (h : okZ (decide ((0 ≤ r ∧ r ≤ 4) ∧ (0 ≤ c ∧ c ≤ 4))) (decide (1 ≤ q ∧ q ≤ 3)) b = false) : (turnF op lk kp wc pn nw sh wk r c q).1 < 0 ∧ (turnF op lk kp wc pn nw sh wk r c q).2 = (op, lk, kp, wc, pn, nw, sh, wk) :=
  turn_no (fun z => okZ_f.mp h ⟨isC_d z.1, decide_eq_true z.2.1, hb.mpr (fxZ_0.mpr (by rw [cellZ_ok z.1]; exact z.2.2))⟩)
theorem turn_y {r c q : Int} {b : Bool} (hop : ∀ j, 0 ≤ op j ∧ op j ≤ 15) (hb : b = true ↔ fxZ pn (cellZ r c) = 0) (h : okZ (decide ((0 ≤ r ∧ r ≤ 4) ∧ (0 ≤ c ∧ c ≤ 4))) (decide (1 ≤ q ∧ q ≤ 3)) b = true) : turnF op lk kp wc pn nw sh wk r c q = (iandZ (iorZ (ishlZ (op (cellZ r c)) q) (ishrZ (op (cellZ r c)) (4 - q))) 15, ui op (cellZ r c) (iandZ (iorZ (ishlZ (op (cellZ r c)) q) (ishrZ (op (cellZ r c)) (4 - q))) 15), lk, kp, wc, pn, nw, sh, wk) := by
  have z := okZ_t.mp h
  have hc := isC_t z.1
  have hq : 1 ≤ q ∧ q ≤ 3 := of_decide_eq_true z.2.1
  have hf := fxZ_0.mp (hb.mp z.2.2)
  rw [cellZ_ok hc] at hf ⊢
  rw [(rot_eq (hop _) hq).1]
  exact turn_ok hc hq hf
theorem turn_th {r c q : Int} {b : Bool} (hop : ∀ j, 0 ≤ op j ∧ op j ≤ 15) (hb : b = true ↔ fxZ pn (cellZ r c) = 0) : thZ (decide ((0 ≤ r ∧ r ≤ 4) ∧ (0 ≤ c ∧ c ≤ 4))) (decide (1 ≤ q ∧ q ≤ 3)) b = tA (turnF op lk kp wc pn nw sh wk r c q).1 :=
  th_turn op lk kp wc pn nw sh wk r c q b hop (fun h => by rw [hb, cellZ_ok h, fxZ_0])
theorem pin_n {pi r c : Int} {b : Bool} (hp : pi = 0 ∨ pi = 1) (hb : b = true ↔ ¬ fxZ pn (cellZ r c) = pi) (h : okZ (decide ((0 ≤ r ∧ r ≤ 4) ∧ (0 ≤ c ∧ c ≤ 4))) b true = false) : (pinF op lk kp wc pn nw sh wk pi r c).1 < 0 ∧ (pinF op lk kp wc pn nw sh wk pi r c).2 = (op, lk, kp, wc, pn, nw, sh, wk) :=
  pin_no hp (fun z => okZ_f.mp h ⟨isC_d z.1, hb.mpr (by rw [cellZ_ok z.1]; exact z.2), rfl⟩)
theorem pin_y {pi r c : Int} {b : Bool} (hp : pi = 0 ∨ pi = 1) (hpn : 0 ≤ pn ∧ pn < 33554432) (hb : b = true ↔ ¬ fxZ pn (cellZ r c) = pi) (h : okZ (decide ((0 ≤ r ∧ r ≤ 4) ∧ (0 ≤ c ∧ c ≤ 4))) b true = true) : pinF op lk kp wc pn nw sh wk pi r c = (cnbK (fun d => decide (fixP (pinZ pn pi (cellZ r c)) d)) 25, op, lk, kp, wc, pinZ pn pi (cellZ r c), nw, sh, wk) := by
  have z := okZ_t.mp h
  have hc := isC_t z.1
  have hf := hb.mp z.2.1
  rw [cellZ_ok hc] at hf ⊢
  exact pin_ok hp hpn hc hf
theorem pin_th {pi r c : Int} {b : Bool} (hp : pi = 0 ∨ pi = 1) (hpn : 0 ≤ pn ∧ pn < 33554432) (hb : b = true ↔ ¬ fxZ pn (cellZ r c) = pi) : thZ (decide ((0 ≤ r ∧ r ≤ 4) ∧ (0 ≤ c ∧ c ≤ 4))) b true = tP (pinF op lk kp wc pn nw sh wk pi r c).1 :=
  th_pin op lk kp wc pn nw sh wk pi r c b hp hpn (fun h => by rw [hb, cellZ_ok h])
theorem lay_n {k r c : Int} {b : Bool} (hb : b = true ↔ plZ kp k = -1) (h : okZ (decide (97 ≤ k ∧ k ≤ 102)) (decide ((0 ≤ r ∧ r ≤ 4) ∧ (0 ≤ c ∧ c ≤ 4))) b = false) : (layF op lk kp wc pn nw sh wk k r c).1 < 0 ∧ (layF op lk kp wc pn nw sh wk k r c).2 = (op, lk, kp, wc, pn, nw, sh, wk) :=
  lay_no (fun z => okZ_f.mp h ⟨decide_eq_true z.1, isC_d z.2.1, hb.mpr (by unfold plZ; rw [if_pos z.1]; exact kM_m1.mpr z.2.2)⟩)
theorem lay_y {k r c : Int} {b : Bool} (hb : b = true ↔ plZ kp k = -1) (h : okZ (decide (97 ≤ k ∧ k ≤ 102)) (decide ((0 ≤ r ∧ r ≤ 4) ∧ (0 ≤ c ∧ c ≤ 4))) b = true) : (97 ≤ k ∧ k ≤ 102) ∧ layF op lk kp wc pn nw sh wk k r c = (cntK (ui kp (k - 97) (cellZ r c)) (cellZ r c) 6, op, lk, ui kp (k - 97) (cellZ r c), wc, pn, nw, sh, wk) := by
  have z := okZ_t.mp h
  have hc := isC_t z.2.1
  have hk : 97 ≤ k ∧ k ≤ 102 := of_decide_eq_true z.1
  have hf := hb.mp z.2.2
  unfold plZ at hf
  rw [if_pos hk, kM_m1] at hf
  rw [cellZ_ok hc]
  exact ⟨hk, lay_ok hk hc hf⟩
theorem lay_th {k r c : Int} {b : Bool} (hb : b = true ↔ plZ kp k = -1) : thZ (decide (97 ≤ k ∧ k ≤ 102)) (decide ((0 ≤ r ∧ r ≤ 4) ∧ (0 ≤ c ∧ c ≤ 4))) b = tL (layF op lk kp wc pn nw sh wk k r c).1 :=
  th_lay op lk kp wc pn nw sh wk k r c b (fun h => by rw [hb]; unfold plZ; rw [if_pos h]; exact kM_m1)
theorem hang_n {k r c : Int} {b : Bool} (hb : b = true ↔ lk (cellZ r c) = -1) (h : okZ (decide ((0 ≤ r ∧ r ≤ 4) ∧ (0 ≤ c ∧ c ≤ 4))) (decide (97 ≤ k ∧ k ≤ 102)) b = false) : (hangF op lk kp wc pn nw sh wk r c k).1 < 0 ∧ (hangF op lk kp wc pn nw sh wk r c k).2 = (op, lk, kp, wc, pn, nw, sh, wk) :=
  hang_no (fun z => okZ_f.mp h ⟨isC_d z.1, decide_eq_true z.2.1, hb.mpr (by rw [cellZ_ok z.1]; exact z.2.2)⟩)
theorem hang_y {k r c : Int} {b : Bool} (hb : b = true ↔ lk (cellZ r c) = -1) (h : okZ (decide ((0 ≤ r ∧ r ≤ 4) ∧ (0 ≤ c ∧ c ≤ 4))) (decide (97 ≤ k ∧ k ≤ 102)) b = true) : (97 ≤ k ∧ k ≤ 102) ∧ hangF op lk kp wc pn nw sh wk r c k = (lkN (ui lk (cellZ r c) (k - 97)), op, ui lk (cellZ r c) (k - 97), kp, wc, pn, nw, sh, wk) := by
  have z := okZ_t.mp h
  have hc := isC_t z.1
  have hk : 97 ≤ k ∧ k ≤ 102 := of_decide_eq_true z.2.1
  have hf := hb.mp z.2.2
  rw [cellZ_ok hc] at hf ⊢
  exact ⟨hk, hang_ok hc hk hf⟩
theorem hang_th {k r c : Int} {b : Bool} (hb : b = true ↔ lk (cellZ r c) = -1) : thZ (decide ((0 ≤ r ∧ r ≤ 4) ∧ (0 ≤ c ∧ c ≤ 4))) (decide (97 ≤ k ∧ k ≤ 102)) b = tA (hangF op lk kp wc pn nw sh wk r c k).1 :=
  th_hang op lk kp wc pn nw sh wk k r c b (fun h => by rw [hb, cellZ_ok h])
theorem take_n {r c : Int} {b : Bool} (hb : b = true ↔ ¬ lk (cellZ r c) = -1) (h : okZ (decide ((0 ≤ r ∧ r ≤ 4) ∧ (0 ≤ c ∧ c ≤ 4))) b true = false) : (takeF op lk kp wc pn nw sh wk r c).1 < 0 ∧ (takeF op lk kp wc pn nw sh wk r c).2 = (op, lk, kp, wc, pn, nw, sh, wk) :=
  take_no (fun z => okZ_f.mp h ⟨isC_d z.1, hb.mpr (by rw [cellZ_ok z.1]; exact z.2), rfl⟩)
theorem take_y {r c : Int} {b : Bool} (hb : b = true ↔ ¬ lk (cellZ r c) = -1) (h : okZ (decide ((0 ≤ r ∧ r ≤ 4) ∧ (0 ≤ c ∧ c ≤ 4))) b true = true) : takeF op lk kp wc pn nw sh wk r c = (97 + lk (cellZ r c), op, ui lk (cellZ r c) (-1), kp, wc, pn, nw, sh, wk) := by
  have z := okZ_t.mp h
  have hc := isC_t z.1
  have hf := hb.mp z.2.1
  rw [cellZ_ok hc] at hf ⊢
  exact take_ok hc hf
theorem take_th {r c : Int} {b : Bool} (hl : ∀ j, -1 ≤ lk j ∧ lk j ≤ 5) (hb : b = true ↔ ¬ lk (cellZ r c) = -1) : thZ (decide ((0 ≤ r ∧ r ≤ 4) ∧ (0 ≤ c ∧ c ≤ 4))) b true = tT (takeF op lk kp wc pn nw sh wk r c).1 :=
  th_take op lk kp wc pn nw sh wk r c b hl (fun h => by rw [hb, cellZ_ok h])
theorem enter_n {r c : Int} {b b' : Bool} (hb : b = true ↔ nw < 3) (hb' : b' = true ↔ lk (cellZ r c) = -1) (h : okZ (decide ((0 ≤ r ∧ r ≤ 4) ∧ (0 ≤ c ∧ c ≤ 4))) b b' = false) : (enterF op lk kp wc pn nw sh wk r c).1 < 0 ∧ (enterF op lk kp wc pn nw sh wk r c).2 = (op, lk, kp, wc, pn, nw, sh, wk) :=
  enter_no (fun z => okZ_f.mp h ⟨isC_d z.1, hb.mpr z.2.1, hb'.mpr (by rw [cellZ_ok z.1]; exact z.2.2)⟩)
theorem enter_y {r c : Int} {b b' : Bool} (hb : b = true ↔ nw < 3) (hb' : b' = true ↔ lk (cellZ r c) = -1) (h : okZ (decide ((0 ≤ r ∧ r ≤ 4) ∧ (0 ≤ c ∧ c ≤ 4))) b b' = true) : nw < 3 ∧ enterF op lk kp wc pn nw sh wk r c = (nw, op, lk, brK kp (cellZ r c) nw 6, ui wc nw (cellZ r c), pn, nw + 1, sh, wk) := by
  have z := okZ_t.mp h
  have hc := isC_t z.1
  have hf := hb'.mp z.2.2
  rw [cellZ_ok hc] at hf ⊢
  exact ⟨hb.mp z.2.1, enter_ok hc (hb.mp z.2.1) hf⟩
theorem enter_th {r c : Int} {b b' : Bool} (hn : 0 ≤ nw) (hb : b = true ↔ nw < 3) (hb' : b' = true ↔ lk (cellZ r c) = -1) : thZ (decide ((0 ≤ r ∧ r ≤ 4) ∧ (0 ≤ c ∧ c ≤ 4))) b b' = tE (enterF op lk kp wc pn nw sh wk r c).1 :=
  th_enter op lk kp wc pn nw sh wk r c b b' hn hb (fun h => by rw [hb', cellZ_ok h])
theorem walk_n {w r c : Int} {b b1 b2 : Bool} (hwc : ∀ j, 0 ≤ wc j ∧ wc j ≤ 24) (hb : b = true ↔ (0 ≤ w ∧ w < nw) ∧ okC r c) (hb1 : b = true → (b1 = true ↔ ¬ mD (dz (Gw op lk kp w) (wc w) (cellZ r c)) = 0)) (hb2 : b = true → (b2 = true ↔ ¬ mD (dz (Gw op lk kp w) (wc w) (cellZ r c)) = -1)) (h : okZ b b1 b2 = false) : (walkF op lk kp wc pn nw sh wk w r c).1 < 0 ∧ (walkF op lk kp wc pn nw sh wk w r c).2 = (op, lk, kp, wc, pn, nw, sh, wk) := by
  refine walk_no (fun z => okZ_f.mp h ?_)
  have hbt := hb.mpr z.1
  have e := cellZ_ok z.1.2
  have d := dz_0 (Gw_ok (op := op) (lk := lk) (kp := kp) (w := w)) (hwc w) (c := r * 5 + c) (by omega) (by omega)
  have g := dz_rg (Gw_ok (op := op) (lk := lk) (kp := kp) (w := w)) (hwc w) (r * 5 + c)
  refine ⟨hbt, (hb1 hbt).mpr (fun q => ?_), (hb2 hbt).mpr (fun q => ?_)⟩
  · rw [e] at q
    unfold mD at q
    rw [if_neg (by omega)] at q
    exact z.2.1 (d.mp q)
  · rw [e] at q
    unfold mD at q
    rw [if_neg (by omega)] at q
    omega
theorem walk_y {w r c : Int} {b b1 b2 : Bool} (hwc : ∀ j, 0 ≤ wc j ∧ wc j ≤ 24) (hb : b = true ↔ (0 ≤ w ∧ w < nw) ∧ okC r c) (hb1 : b = true → (b1 = true ↔ ¬ mD (dz (Gw op lk kp w) (wc w) (cellZ r c)) = 0)) (hb2 : b = true → (b2 = true ↔ ¬ mD (dz (Gw op lk kp w) (wc w) (cellZ r c)) = -1)) (h : okZ b b1 b2 = true) : ((0 ≤ w ∧ w < nw) ∧ mD (dz (Gw op lk kp w) (wc w) (cellZ r c)) = dz (Gw op lk kp w) (wc w) (cellZ r c)) ∧ walkF op lk kp wc pn nw sh wk w r c = (dz (Gw op lk kp w) (wc w) (cellZ r c), op, lk, brK kp (cellZ r c) w 6, ui wc w (cellZ r c), pn, nw, sh, wk + dz (Gw op lk kp w) (wc w) (cellZ r c)) := by
  have z := okZ_t.mp h
  have hc := hb.mp z.1
  have q1 := (hb1 z.1).mp z.2.1
  have q2 := (hb2 z.1).mp z.2.2
  rw [cellZ_ok hc.2] at q1 q2 ⊢
  have d := dz_0 (Gw_ok (op := op) (lk := lk) (kp := kp) (w := w)) (hwc w) (c := r * 5 + c) (by omega) (by omega)
  have g := dz_rg (Gw_ok (op := op) (lk := lk) (kp := kp) (w := w)) (hwc w) (r * 5 + c)
  have g2 : dz (Gw op lk kp w) (wc w) (r * 5 + c) < 25 := by
    unfold mD at q2
    split at q2 <;> omega
  have g3 : mD (dz (Gw op lk kp w) (wc w) (r * 5 + c)) = dz (Gw op lk kp w) (wc w) (r * 5 + c) := by
    unfold mD
    rw [if_neg (by omega)]
  rw [g3] at q1
  exact ⟨⟨hc.1, g3⟩, walk_ok hc (fun q => q1 (d.mpr q)) g2⟩
theorem walk_th {w r c : Int} {b b1 b2 : Bool} (hwc : ∀ j, 0 ≤ wc j ∧ wc j ≤ 24) (hb : b = true ↔ (0 ≤ w ∧ w < nw) ∧ okC r c) (hb1 : b = true → (b1 = true ↔ ¬ mD (dz (Gw op lk kp w) (wc w) (cellZ r c)) = 0)) (hb2 : b = true → (b2 = true ↔ ¬ mD (dz (Gw op lk kp w) (wc w) (cellZ r c)) = -1)) : thZ b b1 b2 = tA (walkF op lk kp wc pn nw sh wk w r c).1 := by
  refine th_walk op lk kp wc pn nw sh wk w r c b b1 b2 hwc hb (fun h => ?_) (fun h h1 => ?_)
  · have hc := hb.mp h
    rw [hb1 h, cellZ_ok hc.2]
    have d := dz_0 (Gw_ok (op := op) (lk := lk) (kp := kp) (w := w)) (hwc w) (c := r * 5 + c) (by omega) (by omega)
    rw [← d]
    have g := dz_rg (Gw_ok (op := op) (lk := lk) (kp := kp) (w := w)) (hwc w) (r * 5 + c)
    unfold mD
    split <;> omega
  · have hc := hb.mp h
    rw [hb2 h, cellZ_ok hc.2]
    have g := dz_rg (Gw_ok (op := op) (lk := lk) (kp := kp) (w := w)) (hwc w) (r * 5 + c)
    unfold mD
    split <;> omega
end CHG
theorem BI_kp {op lk kp wc : Int → Int} {pn nw k c : Int} (h : BI op lk kp wc pn nw) (hc : 0 ≤ c ∧ c ≤ 24) : BI op lk (ui kp k c) wc pn nw := by
  obtain ⟨h1, h2, h3, h4, h5, h6⟩ := h
  refine ⟨h1, h2, fun j => ?_, h4, h5, h6⟩
  have h7 := h3 j
  unfold ui
  split <;> omega
theorem ui_lk {lk : Int → Int} {c k : Int} (h : ∀ j, -1 ≤ lk j ∧ lk j ≤ 5) (hk : 97 ≤ k ∧ k ≤ 102) (j : Int) : -1 ≤ ui lk c (k - 97) j ∧ ui lk c (k - 97) j ≤ 5 := by
  have h7 := h j
  unfold ui
  split <;> omega
theorem re8_a {re : Int} (h : re = 8) : re8 re = re - 1 + 1 := by
  unfold re8
  rw [if_pos h]
  omega
theorem re8_b {re : Int} (h : ¬ re = 8) : re8 re = re + 1 := by
  unfold re8
  rw [if_neg h]
