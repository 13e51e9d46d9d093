/-! ===== the model's row of numbers beside the class's board ===== -/
theorem ifc {P Q : Prop} {i : Decidable P} {k : Decidable Q} (h : P ↔ Q) : (if P then (1 : Int) else 0) = (if Q then 1 else 0) := by
  by_cases q : P
  · rw [if_pos q, if_pos (h.mp q)]
  · rw [if_neg q, if_neg (fun z => q (h.mpr z))]
def kM (x : Int) : Int := if 25 ≤ x then x + 75 else x
def Cp (v op lk kp wc : Int → Int) (pn nw sh wk : Int) : Prop := (v 0 = nw ∧ v 1 = sh ∧ v 2 = wk) ∧ (∀ k : Int, 0 ≤ k → k ≤ 5 → v (3 + k) = kM (kp k)) ∧ (∀ w : Int, 0 ≤ w → w < nw → v (9 + w) = wc w) ∧ (∀ c : Int, 0 ≤ c → c ≤ 24 → v (12 + 3 * c + 0) = op c ∧ v (12 + 3 * c + 1) = (if fixP pn c then 1 else 0) ∧ v (12 + 3 * c + 2) = lk c) ∧ ∀ j : Int, rg (v j)
def CpT (v : Int → Int) (t : BT) : Prop := Cp v t.1 t.2.1 t.2.2.1 t.2.2.2.1 t.2.2.2.2.1 t.2.2.2.2.2.1 t.2.2.2.2.2.2.1 t.2.2.2.2.2.2.2
theorem CpT.of {v op lk kp wc : Int → Int} {pn nw sh wk : Int} {t : BT} (h : CpT v t) (e : (op, lk, kp, wc, pn, nw, sh, wk) = t) : Cp v op lk kp wc pn nw sh wk := by
  subst e
  exact h
theorem Cp.congr {v u op lk kp wc : Int → Int} {pn nw sh wk : Int} (h : Cp v op lk kp wc pn nw sh wk) (hn : nw ≤ 3) (hu : ∀ j : Int, rg (u j)) (e : ∀ j : Int, 0 ≤ j → j < 87 → u j = v j) : Cp u op lk kp wc pn nw sh wk := by
  obtain ⟨⟨a1, a2, a3⟩, a4, a5, a6, a7⟩ := h
  refine ⟨⟨?_, ?_, ?_⟩, fun k k0 k1 => ?_, fun w w0 w1 => ?_, fun c c0 c1 => ⟨?_, ?_, ?_⟩, hu⟩
  · rw [e 0 (by omega) (by omega)]; exact a1
  · rw [e 1 (by omega) (by omega)]; exact a2
  · rw [e 2 (by omega) (by omega)]; exact a3
  · rw [e _ (by omega) (by omega)]; exact a4 k k0 k1
  · rw [e _ (by omega) (by omega)]; exact a5 w w0 w1
  · rw [e _ (by omega) (by omega)]; exact (a6 c c0 c1).1
  · rw [e _ (by omega) (by omega)]; exact (a6 c c0 c1).2.1
  · rw [e _ (by omega) (by omega)]; exact (a6 c c0 c1).2.2
theorem ui_rg {f : Int → Int} {k x : Int} (h : ∀ j : Int, rg (f j)) (hx : rg x) (j : Int) : rg (ui f k x j) := by
  unfold ui
  split
  · exact hx
  · exact h j
theorem Cp_op {v op lk kp wc : Int → Int} {pn nw sh wk c o : Int} (h : Cp v op lk kp wc pn nw sh wk) (hn : nw ≤ 3) (h0 : 0 ≤ c) (h1 : c ≤ 24) (ho : rg o) : Cp (ui v (12 + 3 * c + 0) o) (ui op c o) lk kp wc pn nw sh wk := by
  obtain ⟨⟨a1, a2, a3⟩, a4, a5, a6, a7⟩ := h
  refine ⟨⟨?_, ?_, ?_⟩, fun k k0 k1 => ?_, fun w w0 w1 => ?_, fun d c0 c1 => ⟨?_, ?_, ?_⟩, ui_rg a7 ho⟩
  · rw [ui_n (by omega)]; exact a1
  · rw [ui_n (by omega)]; exact a2
  · rw [ui_n (by omega)]; exact a3
  · rw [ui_n (by omega)]; exact a4 k k0 k1
  · rw [ui_n (by omega)]; exact a5 w w0 w1
  · by_cases e : d = c
    · rw [e, ui_s, ui_s]
    · rw [ui_n (by omega), ui_n e]; exact (a6 d c0 c1).1
  · rw [ui_n (by omega)]; exact (a6 d c0 c1).2.1
  · rw [ui_n (by omega)]; exact (a6 d c0 c1).2.2
theorem Cp_lk {v op lk kp wc : Int → Int} {pn nw sh wk c o : Int} (h : Cp v op lk kp wc pn nw sh wk) (hn : nw ≤ 3) (h0 : 0 ≤ c) (h1 : c ≤ 24) (ho : rg o) : Cp (ui v (12 + 3 * c + 2) o) op (ui lk c o) kp wc pn nw sh wk := by
  obtain ⟨⟨a1, a2, a3⟩, a4, a5, a6, a7⟩ := h
  refine ⟨⟨?_, ?_, ?_⟩, fun k k0 k1 => ?_, fun w w0 w1 => ?_, fun d c0 c1 => ⟨?_, ?_, ?_⟩, ui_rg a7 ho⟩
  · rw [ui_n (by omega)]; exact a1
  · rw [ui_n (by omega)]; exact a2
  · rw [ui_n (by omega)]; exact a3
  · rw [ui_n (by omega)]; exact a4 k k0 k1
  · rw [ui_n (by omega)]; exact a5 w w0 w1
  · rw [ui_n (by omega)]; exact (a6 d c0 c1).1
  · rw [ui_n (by omega)]; exact (a6 d c0 c1).2.1
  · by_cases e : d = c
    · rw [e, ui_s, ui_s]
    · rw [ui_n (by omega), ui_n e]; exact (a6 d c0 c1).2.2
theorem Cp_pn {v op lk kp wc : Int → Int} {pn qn nw sh wk c o : Int} (h : Cp v op lk kp wc pn nw sh wk) (hn : nw ≤ 3) (h0 : 0 ≤ c) (h1 : c ≤ 24) (ho : rg o) (hc : o = if fixP qn c then 1 else 0) (hq : ∀ d : Int, 0 ≤ d → d ≤ 24 → ¬ d = c → (fixP qn d ↔ fixP pn d)) : Cp (ui v (12 + 3 * c + 1) o) op lk kp wc qn nw sh wk := by
  obtain ⟨⟨a1, a2, a3⟩, a4, a5, a6, a7⟩ := h
  refine ⟨⟨?_, ?_, ?_⟩, fun k k0 k1 => ?_, fun w w0 w1 => ?_, fun d c0 c1 => ⟨?_, ?_, ?_⟩, ui_rg a7 ho⟩
  · rw [ui_n (by omega)]; exact a1
  · rw [ui_n (by omega)]; exact a2
  · rw [ui_n (by omega)]; exact a3
  · rw [ui_n (by omega)]; exact a4 k k0 k1
  · rw [ui_n (by omega)]; exact a5 w w0 w1
  · rw [ui_n (by omega)]; exact (a6 d c0 c1).1
  · by_cases e : d = c
    · rw [e, ui_s]; exact hc
    · rw [ui_n (by omega), (a6 d c0 c1).2.1]
      exact ifc (hq d c0 c1 e).symm
  · rw [ui_n (by omega)]; exact (a6 d c0 c1).2.2
theorem kM_rg {x : Int} (h : -1 ≤ x) (h1 : x ≤ 27) : rg (kM x) := by
  unfold kM rg
  split <;> omega
theorem Cp_kp {v op lk kp wc : Int → Int} {pn nw sh wk k x y : Int} (h : Cp v op lk kp wc pn nw sh wk) (hn : nw ≤ 3) (h0 : 0 ≤ k) (h1 : k ≤ 5) (hx : y = kM x) (hy : rg y) : Cp (ui v (3 + k) y) op lk (ui kp k x) wc pn nw sh wk := by
  obtain ⟨⟨a1, a2, a3⟩, a4, a5, a6, a7⟩ := h
  refine ⟨⟨?_, ?_, ?_⟩, fun i k0 k1 => ?_, fun w w0 w1 => ?_, fun d c0 c1 => ⟨?_, ?_, ?_⟩, ui_rg a7 hy⟩
  · rw [ui_n (by omega)]; exact a1
  · rw [ui_n (by omega)]; exact a2
  · rw [ui_n (by omega)]; exact a3
  · by_cases e : i = k
    · rw [e, ui_s, ui_s]; exact hx
    · rw [ui_n (by omega), ui_n e]; exact a4 i k0 k1
  · rw [ui_n (by omega)]; exact a5 w w0 w1
  · rw [ui_n (by omega)]; exact (a6 d c0 c1).1
  · rw [ui_n (by omega)]; exact (a6 d c0 c1).2.1
  · rw [ui_n (by omega)]; exact (a6 d c0 c1).2.2
theorem Cp_wc {v op lk kp wc : Int → Int} {pn nw sh wk w x : Int} (h : Cp v op lk kp wc pn nw sh wk) (hn : nw ≤ 3) (h0 : 0 ≤ w) (h1 : w ≤ 2) (hx : rg x) : Cp (ui v (9 + w) x) op lk kp (ui wc w x) pn nw sh wk := by
  obtain ⟨⟨a1, a2, a3⟩, a4, a5, a6, a7⟩ := h
  refine ⟨⟨?_, ?_, ?_⟩, fun i k0 k1 => ?_, fun i w0 w1 => ?_, fun d c0 c1 => ⟨?_, ?_, ?_⟩, ui_rg a7 hx⟩
  · rw [ui_n (by omega)]; exact a1
  · rw [ui_n (by omega)]; exact a2
  · rw [ui_n (by omega)]; exact a3
  · rw [ui_n (by omega)]; exact a4 i k0 k1
  · by_cases e : i = w
    · rw [e, ui_s, ui_s]
    · rw [ui_n (by omega), ui_n e]; exact a5 i w0 w1
  · rw [ui_n (by omega)]; exact (a6 d c0 c1).1
  · rw [ui_n (by omega)]; exact (a6 d c0 c1).2.1
  · rw [ui_n (by omega)]; exact (a6 d c0 c1).2.2
/-- one walker more, who stands where the row of walkers says -/
theorem Cp_nw {v op lk kp wc : Int → Int} {pn nw sh wk x : Int} (h : Cp v op lk kp wc pn nw sh wk) (hn : 0 ≤ nw ∧ nw ≤ 2) (hx : rg x) : Cp (ui (ui v 0 (nw + 1)) (9 + nw) x) op lk kp (ui wc nw x) pn (nw + 1) sh wk := by
  obtain ⟨⟨a1, a2, a3⟩, a4, a5, a6, a7⟩ := h
  refine ⟨⟨?_, ?_, ?_⟩, fun i k0 k1 => ?_, fun i w0 w1 => ?_, fun d c0 c1 => ⟨?_, ?_, ?_⟩, ui_rg (ui_rg a7 (by unfold rg; omega)) hx⟩
  · rw [ui_n (by omega), ui_s]
  · rw [ui_n (by omega), ui_n (by omega)]; exact a2
  · rw [ui_n (by omega), ui_n (by omega)]; exact a3
  · rw [ui_n (by omega), ui_n (by omega)]; exact a4 i k0 k1
  · by_cases e : i = nw
    · rw [e, ui_s, ui_s]
    · rw [ui_n (by omega), ui_n (by omega), ui_n e]; exact a5 i w0 (by omega)
  · rw [ui_n (by omega), ui_n (by omega)]; exact (a6 d c0 c1).1
  · rw [ui_n (by omega), ui_n (by omega)]; exact (a6 d c0 c1).2.1
  · rw [ui_n (by omega), ui_n (by omega)]; exact (a6 d c0 c1).2.2
theorem Cp_sh {v op lk kp wc : Int → Int} {pn nw sh wk x : Int} (h : Cp v op lk kp wc pn nw sh wk) (hn : nw ≤ 3) (hx : rg x) : Cp (ui v 1 x) op lk kp wc pn nw x wk := by
  obtain ⟨⟨a1, a2, a3⟩, a4, a5, a6, a7⟩ := h
  refine ⟨⟨?_, ?_, ?_⟩, fun i k0 k1 => ?_, fun i w0 w1 => ?_, fun d c0 c1 => ⟨?_, ?_, ?_⟩, ui_rg a7 hx⟩
  · rw [ui_n (by omega)]; exact a1
  · rw [ui_s]
  · rw [ui_n (by omega)]; exact a3
  · rw [ui_n (by omega)]; exact a4 i k0 k1
  · rw [ui_n (by omega)]; exact a5 i w0 w1
  · rw [ui_n (by omega)]; exact (a6 d c0 c1).1
  · rw [ui_n (by omega)]; exact (a6 d c0 c1).2.1
  · rw [ui_n (by omega)]; exact (a6 d c0 c1).2.2
theorem Cp_wk {v op lk kp wc : Int → Int} {pn nw sh wk x : Int} (h : Cp v op lk kp wc pn nw sh wk) (hn : nw ≤ 3) (hx : rg x) : Cp (ui v 2 x) op lk kp wc pn nw sh x := by
  obtain ⟨⟨a1, a2, a3⟩, a4, a5, a6, a7⟩ := h
  refine ⟨⟨?_, ?_, ?_⟩, fun i k0 k1 => ?_, fun i w0 w1 => ?_, fun d c0 c1 => ⟨?_, ?_, ?_⟩, ui_rg a7 hx⟩
  · rw [ui_n (by omega)]; exact a1
  · rw [ui_n (by omega)]; exact a2
  · rw [ui_s]
  · rw [ui_n (by omega)]; exact a4 i k0 k1
  · rw [ui_n (by omega)]; exact a5 i w0 w1
  · rw [ui_n (by omega)]; exact (a6 d c0 c1).1
  · rw [ui_n (by omega)]; exact (a6 d c0 c1).2.1
  · rw [ui_n (by omega)]; exact (a6 d c0 c1).2.2
/-! copies of rows -/
def cpK (f : Int → Int) (fr : Int) (g : Int → Int) (into n : Int) : Int → Int := fun j => if into ≤ j ∧ j < into + n then f (fr + (j - into)) else g j
theorem cpK_0 {f g : Int → Int} {fr into : Int} : cpK f fr g into 0 = g := by
  funext j
  unfold cpK
  rw [if_neg (by omega)]
theorem cpK_s {f g : Int → Int} {fr into n : Int} (h : 0 ≤ n) : ui (cpK f fr g into n) (into + n) (f (fr + n)) = cpK f fr g into (n + 1) := by
  funext j
  simp only [cpK, ui]
  by_cases e : j = into + n
  · rw [if_pos e, if_pos (by omega), show fr + (j - into) = fr + n by omega]
  · rw [if_neg e]
    by_cases e2 : into ≤ j ∧ j < into + n
    · rw [if_pos e2, if_pos (by omega)]
    · rw [if_neg e2, if_neg (by omega)]
/-- the rows that are had, once one more is had -/
def re8 (re : Int) : Int := if re = 8 then 8 else re + 1
def rmF (hF w : Int → Int) (re : Int) : Int → Int := fun j => if re = 8 then (if j < 609 then hF (j + 87) else w (j - 609)) else (if re * 87 ≤ j ∧ j < re * 87 + 87 then w (j - re * 87) else hF j)
/-! what is thrown -/
def thZ (a b c : Bool) : Int := if a = false then 1 else if b = false then 2 else if c = false then 3 else 0
def okZ (a b c : Bool) : Bool := decide (thZ a b c = 0)
theorem okZ_t {a b c : Bool} : okZ a b c = true ↔ a = true ∧ b = true ∧ c = true := by
  cases a <;> cases b <;> cases c <;> decide
theorem okZ_f {a b c : Bool} : okZ a b c = false ↔ ¬ (a = true ∧ b = true ∧ c = true) := by
  cases a <;> cases b <;> cases c <;> decide
def tA (a : Int) : Int := if a = -1 then 1 else if a = -2 then 2 else if a = -3 then 3 else 0
def tP (a : Int) : Int := if a = -1 then 1 else if a = -3 then 2 else 0
def tL (a : Int) : Int := if a = -2 then 1 else if a = -1 then 2 else if a = -3 then 3 else 0
def tT (a : Int) : Int := if a = -1 then 1 else if a = -5 then 2 else 0
def tE (a : Int) : Int := if a = -1 then 1 else if a = -3 then 2 else if a = -4 then 3 else 0
theorem tA_0 {a : Int} (h : 0 ≤ a) : tA a = 0 := by unfold tA; (repeat' split) <;> omega
theorem tP_0 {a : Int} (h : 0 ≤ a) : tP a = 0 := by unfold tP; (repeat' split) <;> omega
theorem tL_0 {a : Int} (h : 0 ≤ a) : tL a = 0 := by unfold tL; (repeat' split) <;> omega
theorem tT_0 {a : Int} (h : 0 ≤ a) : tT a = 0 := by unfold tT; (repeat' split) <;> omega
theorem tE_0 {a : Int} (h : 0 ≤ a) : tE a = 0 := by unfold tE; (repeat' split) <;> omega
theorem thZ_1 {a b c : Bool} (h : ¬ a = true) : thZ a b c = 1 := by cases a <;> first | rfl | exact absurd rfl h
theorem thZ_2 {a b c : Bool} (h : a = true) (h2 : ¬ b = true) : thZ a b c = 2 := by
  subst h
  cases b <;> first | rfl | exact absurd rfl h2
theorem thZ_3 {a b c : Bool} (h : a = true) (h2 : b = true) (h3 : ¬ c = true) : thZ a b c = 3 := by
  subst h
  subst h2
  cases c <;> first | rfl | exact absurd rfl h3
theorem thZ_0 {a b c : Bool} (h : a = true) (h2 : b = true) (h3 : c = true) : thZ a b c = 0 := by
  subst h
  subst h2
  subst h3
  rfl
theorem cellZ_rg {r c : Int} : 0 ≤ cellZ r c ∧ cellZ r c ≤ 24 := by
  unfold cellZ
  split <;> omega
theorem cellZ_ok {r c : Int} (h : okC r c) : cellZ r c = r * 5 + c := by
  unfold cellZ
  rw [if_pos (by omega)]
  omega
/-! counts -/
theorem cntN_congr {f g : Int → Int} {x y : Int} : ∀ n : Nat, (∀ j : Int, 0 ≤ j → j < n → (f j = x ↔ g j = y)) → cntN f x n = cntN g y n
  | 0, _ => rfl
  | n + 1, h => by
    rw [cntN, cntN, cntN_congr n (fun j h0 h1 => h j h0 (by omega))]
    congr 1
    exact ifc (h n (by omega) (by omega))
theorem cntK_kM {kp : Int → Int} {x : Int} (h : x < 25) : cntK (fun k => kM (kp k)) x 6 = cntK kp x 6 := by
  refine cntN_congr _ (fun j _ _ => ?_)
  show kM (kp j) = x ↔ kp j = x
  unfold kM
  split <;> omega
theorem cntK_kW {kp : Int → Int} {w : Int} (h : 0 ≤ w) : cntK (fun k => kM (kp k)) (100 + w) 6 = cntK kp (25 + w) 6 := by
  refine cntN_congr _ (fun j _ _ => ?_)
  show kM (kp j) = 100 + w ↔ kp j = 25 + w
  unfold kM
  split <;> omega
def cgP (f : Int → Int) (n : Int) : Prop := ∀ j : Int, 0 ≤ j → j < n → rg (f j)
/-! setting a tile -/
theorem th_set (op lk kp wc : Int → Int) (pn nw sh wk r c o : Int) (h : ∀ j, 0 ≤ op j ∧ op j ≤ 15) : thZ (decide ((0 ≤ r ∧ r ≤ 4) ∧ (0 ≤ c ∧ c ≤ 4))) (decide (0 ≤ o ∧ o ≤ 15)) true = tA (setF op lk kp wc pn nw sh wk r c o).1 := by
  unfold setF
  split
  · exact thZ_1 (fun q => absurd (of_decide_eq_true q) (by omega))
  · split
    · exact thZ_2 (decide_eq_true (by omega)) (fun q => absurd (of_decide_eq_true q) (by omega))
    · rw [tA_0 (h _).1]
      exact thZ_0 (decide_eq_true (by omega)) (decide_eq_true (by omega)) rfl
theorem set_ok {op lk kp wc : Int → Int} {pn nw sh wk r c o : Int} (h : okC r c) (ho : 0 ≤ o ∧ o ≤ 15) : setF op lk kp wc pn nw sh wk r c o = (op (r * 5 + c), ui op (r * 5 + c) o, lk, kp, wc, pn, nw, sh, wk) := by
  unfold setF
  rw [if_neg (fun q => q h), if_neg (by omega)]
theorem set_no {op lk kp wc : Int → Int} {pn nw sh wk r c o : Int} (h : ¬ (okC r c ∧ (0 ≤ o ∧ o ≤ 15))) : (setF op lk kp wc pn nw sh wk r c o).1 < 0 ∧ (setF op lk kp wc pn nw sh wk r c o).2 = (op, lk, kp, wc, pn, nw, sh, wk) := by
  unfold setF
  split
  · exact ⟨by simp, rfl⟩
  · rw [if_pos (by omega)]
    exact ⟨by simp, rfl⟩
/-! turning a tile -/
theorem rot_tab : ∀ x : Nat, x < 16 → ∀ q : Nat, q < 4 → 0 < q → iandZ (iorZ (ishlZ (x : Int) (q : Int)) (ishrZ (x : Int) (4 - (q : Int)))) 15 = rotZ (x : Int) (q : Int) ∧ 0 ≤ rotZ (x : Int) (q : Int) ∧ rotZ (x : Int) (q : Int) ≤ 15 := by decide +kernel
theorem rot_eq {x q : Int} (hx : 0 ≤ x ∧ x ≤ 15) (hq : 1 ≤ q ∧ q ≤ 3) : iandZ (iorZ (ishlZ x q) (ishrZ x (4 - q))) 15 = rotZ x q ∧ 0 ≤ rotZ x q ∧ rotZ x q ≤ 15 := by
  have h := rot_tab x.toNat (by omega) q.toNat (by omega) (by omega)
  rw [Int.toNat_of_nonneg hx.1, Int.toNat_of_nonneg (show 0 ≤ q by omega)] at h
  exact h
theorem th_turn (op lk kp wc : Int → Int) (pn nw sh wk r c q : Int) (b : Bool) (h : ∀ j, 0 ≤ op j ∧ op j ≤ 15) (hb : okC r c → (b = true ↔ ¬ fixP pn (r * 5 + c))) : thZ (decide ((0 ≤ r ∧ r ≤ 4) ∧ (0 ≤ c ∧ c ≤ 4))) (decide (1 ≤ q ∧ q ≤ 3)) b = tA (turnF op lk kp wc pn nw sh wk r c q).1 := by
  unfold turnF
  split
  · exact thZ_1 (fun q => absurd (of_decide_eq_true q) (by omega))
  · rename_i h1
    have h2 : okC r c := Classical.not_not.mp h1
    split
    · exact thZ_2 (decide_eq_true (by omega)) (fun q => absurd (of_decide_eq_true q) (by omega))
    · split
      · rename_i h3
        exact thZ_3 (decide_eq_true (by omega)) (decide_eq_true (by omega)) (fun q => (hb h2).mp q h3)
      · rename_i h3
        rw [tA_0 (rot_eq (h _) (by omega)).2.1]
        exact thZ_0 (decide_eq_true (by omega)) (decide_eq_true (by omega)) ((hb h2).mpr h3)
theorem turn_ok {op lk kp wc : Int → Int} {pn nw sh wk r c q : Int} (h : okC r c) (hq : 1 ≤ q ∧ q ≤ 3) (hf : ¬ fixP pn (r * 5 + c)) : turnF op lk kp wc pn nw sh wk r c q = (rotZ (op (r * 5 + c)) q, ui op (r * 5 + c) (rotZ (op (r * 5 + c)) q), lk, kp, wc, pn, nw, sh, wk) := by
  unfold turnF
  rw [if_neg (fun q => q h), if_neg (by omega), if_neg hf]
theorem turn_no {op lk kp wc : Int → Int} {pn nw sh wk r c q : Int} (h : ¬ (okC r c ∧ (1 ≤ q ∧ q ≤ 3) ∧ ¬ fixP pn (r * 5 + c))) : (turnF op lk kp wc pn nw sh wk r c q).1 < 0 ∧ (turnF op lk kp wc pn nw sh wk r c q).2 = (op, lk, kp, wc, pn, nw, sh, wk) := by
  unfold turnF
  split
  · exact ⟨by simp, rfl⟩
  · split
    · exact ⟨by simp, rfl⟩
    · split
      · exact ⟨by simp, rfl⟩
      · rename_i h1 h2 h3
        exact absurd ⟨Classical.not_not.mp h1, by omega, h3⟩ h
