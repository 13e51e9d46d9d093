/-! ===== both worlds: the class's, the model's, what ties them ===== -/
abbrev bdT (E : xE) (σ : xW) (b : Nat) (B : BT) : Prop := bd E σ b B.1 B.2.1 B.2.2.1 B.2.2.2.1 B.2.2.2.2.1 B.2.2.2.2.2.1 B.2.2.2.2.2.2.1 B.2.2.2.2.2.2.2
theorem bdT_fr {E : xE} {σ u : xW} {b : Nat} {B : BT} (h : bdT E σ b B) (f : ∀ j : Nat, b ≤ j → j < b + 6 → u j = σ j) : bdT E u b B := by
  obtain ⟨h0, h1, h2, h3, h4, ro, h5⟩ := h
  exact ⟨(f b (by omega) (by omega)).trans h0, (f (b + 1) (by omega) (by omega)).trans h1, (f (b + 2) (by omega) (by omega)).trans h2, (f (b + 3) (by omega) (by omega)).trans h3, (f (b + 4) (by omega) (by omega)).trans h4, ro, (f (b + 5) (by omega) (by omega)).trans h5⟩
def hbS (HB : Int → BT) (nx : Int) (B : BT) : Int → BT := fun i => if i = nx then B else HB i
def ctN (ct : Int) : Int := if 8 < (ct + 1) then 8 else (ct + 1)
def srX (E : xE) (σ : xW) : Prop := ∃ (le rl fs qu gr : Int → Int), sr E σ le rl fs qu gr
def pgX (E : xE) (σ : xW) (tx : Int → Int) (ln : Int) : Prop := ∃ (cs : Int) (cm : Value) (va : Int → Int), pg E σ tx ln cs cm va ∧ ∀ j : Int, -1 ≤ va j ∧ va j ≤ 102
theorem srX_fr {E : xE} {σ u : xW} (h : srX E σ) (f : ∀ j : Nat, 75 ≤ j → j < 81 → u j = σ j) : srX E u := by
  obtain ⟨le, rl, fs, qu, gr, h0, h1, h2, h3, h4, h5⟩ := h
  exact ⟨le, rl, fs, qu, gr, (f 75 (by omega) (by omega)).trans h0, (f 76 (by omega) (by omega)).trans h1, (f 77 (by omega) (by omega)).trans h2, (f 78 (by omega) (by omega)).trans h3, (f 79 (by omega) (by omega)).trans h4, (f 80 (by omega) (by omega)).trans h5⟩
theorem pgX_fr {E : xE} {σ u : xW} {tx : Int → Int} {ln : Int} (h : pgX E σ tx ln) (f : ∀ j : Nat, 81 ≤ j → j < 84 → u j = σ j) : pgX E u tx ln := by
  obtain ⟨cs, cm, va, ⟨h0, h1, h2⟩, hv⟩ := h
  exact ⟨cs, cm, va, ⟨(f 81 (by omega) (by omega)).trans h0, (f 82 (by omega) (by omega)).trans h1, (f 83 (by omega) (by omega)).trans h2⟩, hv⟩
theorem hi_fr {E : xE} {σ u : xW} {nx ct : Int} (h : hi E σ nx ct) (f : ∀ j : Nat, 73 ≤ j → j < 75 → u j = σ j) : hi E u nx ct := ⟨(f 73 (by omega) (by omega)).trans h.1, (f 74 (by omega) (by omega)).trans h.2⟩
def CLS (E : xE) (σ : xW) (hv : Bool) (se sf ll nx ct : Int) (B S : BT) (HB : Int → BT) (tx : Int → Int) (ln : Int) (lq : Int → Int) : Prop :=
  mn E σ hv se sf ll ∧ hi E σ nx ct ∧ bdT E σ 1 B ∧ (∃ X : BT, bdT E σ 7 X) ∧ (∃ X : BT, bdT E σ 13 X) ∧ bdT E σ 19 S ∧ (∀ i : Int, 0 ≤ i → i < 8 → bdT E σ (hsl i) (HB i)) ∧ srX E σ ∧ pgX E σ tx ln ∧ cln E σ lq
section CLSS
variable {E : xE} {σ u : xW} {hv : Bool} {se sf ll nx ct : Int} {B S B1 : BT} {HB : Int → BT} {tx tx1 : Int → Int} {ln ln1 : Int} {lq : Int → Int}
theorem hist_fr (h : ∀ i : Int, 0 ≤ i → i < 8 → bdT E σ (hsl i) (HB i)) (f : ∀ j : Nat, 25 ≤ j → j < 73 → u j = σ j) : ∀ i : Int, 0 ≤ i → i < 8 → bdT E u (hsl i) (HB i) := fun i i0 i1 => by
  have hb := hsl_rg i0 i1
  exact bdT_fr (h i i0 i1) (fun j h0 h1 => f j (by omega) (by omega))
theorem CLS.fr (h : CLS E σ hv se sf ll nx ct B S HB tx ln lq) (f : ∀ j : Nat, j < 85 → u j = σ j) : CLS E u hv se sf ll nx ct B S HB tx ln lq := by
  obtain ⟨h0, h1, h2, ⟨X7, h3⟩, ⟨X13, h4⟩, h5, h6, h7, h8, h9⟩ := h
  exact ⟨(f 0 (by omega)).trans h0, hi_fr h1 (fun j a b => f j (by omega)), bdT_fr h2 (fun j a b => f j (by omega)), ⟨X7, bdT_fr h3 (fun j a b => f j (by omega))⟩, ⟨X13, bdT_fr h4 (fun j a b => f j (by omega))⟩, bdT_fr h5 (fun j a b => f j (by omega)), hist_fr h6 (fun j a b => f j (by omega)), srX_fr h7 (fun j a b => f j (by omega)), pgX_fr h8 (fun j a b => f j (by omega)), (f 84 (by omega)).trans h9⟩
/-- behind a query that may search, also over the trial board -/
theorem CLS.qry (h : CLS E σ hv se sf ll nx ct B S HB tx ln lq) (q4 : ∃ X : BT, bdT E u 13 X) (q5 : srX E u) (f : ∀ j : Nat, j < 85 → (j < 13 ∨ 13 + 6 ≤ j) → (j < 75 ∨ 75 + 6 ≤ j) → u j = σ j) : CLS E u hv se sf ll nx ct B S HB tx ln lq := by
  obtain ⟨h0, h1, h2, ⟨X7, h3⟩, -, h5, h6, -, h8, h9⟩ := h
  exact ⟨(f 0 (by omega) (by omega) (by omega)).trans h0, hi_fr h1 (fun j a b => f j (by omega) (by omega) (by omega)), bdT_fr h2 (fun j a b => f j (by omega) (by omega) (by omega)), ⟨X7, bdT_fr h3 (fun j a b => f j (by omega) (by omega) (by omega))⟩, q4, bdT_fr h5 (fun j a b => f j (by omega) (by omega) (by omega)), hist_fr h6 (fun j a b => f j (by omega) (by omega) (by omega)), q5, pgX_fr h8 (fun j a b => f j (by omega) (by omega) (by omega)), (f 84 (by omega) (by omega) (by omega)).trans h9⟩
theorem CLS.sq (h : CLS E σ hv se sf ll nx ct B S HB tx ln lq) (q5 : srX E u) (f : ∀ j : Nat, j < 85 → (j < 75 ∨ 75 + 6 ≤ j) → u j = σ j) : CLS E u hv se sf ll nx ct B S HB tx ln lq := by
  obtain ⟨X13, h4⟩ := h.2.2.2.2.1
  exact CLS.qry h ⟨X13, bdT_fr h4 (fun j a b => f j (by omega) (by omega))⟩ q5 (fun j a b c => f j a c)
/-- behind a change -/
theorem CLS.done (h : CLS E σ hv se sf ll nx ct B S HB tx ln lq) (hnx : 0 ≤ nx ∧ nx < 8) (q0 : mn E u hv se sf ll) (q1 : hi E u ((nx + 1) % 8) (if 8 < (ct + 1) then 8 else (ct + 1))) (q2 : bdT E u (hsl nx) B) (q3 : bdT E u 1 B1) (q4 : bdT E u 7 B) (q5 : srX E u) (q6 : pgX E u tx1 ln1)
    (f : ∀ j : Nat, j ≠ 73 → (j < hsl nx ∨ hsl nx + 6 ≤ j) → (j < 1 ∨ 1 + 12 ≤ j) → (j < 75 ∨ 75 + 6 ≤ j) → (j < 81 ∨ 81 + 3 ≤ j) → u j = σ j) : CLS E u hv se sf ll ((nx + 1) % 8) (ctN ct) B1 S (hbS HB nx B) tx1 ln1 lq := by
  obtain ⟨-, -, -, -, ⟨X13, h13⟩, h19, hH, -, -, hcl⟩ := h
  have hb := hsl_rg hnx.1 hnx.2
  refine ⟨q0, q1, q3, ⟨B, q4⟩, ⟨X13, bdT_fr h13 (fun j h0 h1 => f j (by omega) (by omega) (by omega) (by omega) (by omega))⟩, bdT_fr h19 (fun j h0 h1 => f j (by omega) (by omega) (by omega) (by omega) (by omega)), fun i i0 i1 => ?_, q5, q6, (f 84 (by omega) (by omega) (by omega) (by omega) (by omega)).trans hcl⟩
  unfold hbS
  by_cases e : i = nx
  · rw [if_pos e, e]
    exact q2
  · rw [if_neg e]
    have hi9 := hsl_rg i0 i1
    have hne := hsl_ne i0 hnx.1 e
    exact bdT_fr (hH i i0 i1) (fun j h0 h1 => f j (by omega) (by omega) (by omega) (by omega) (by omega))
/-- behind a change that was refused -/
theorem CLS.fail {se1 sf1 : Int} (h : CLS E σ hv se sf ll nx ct B S HB tx ln lq) (q0 : mn E u hv se1 sf1 ll) (q3 : bdT E u 1 B) (q4 : ∃ X : BT, bdT E u 7 X) (q5 : srX E u) (q6 : pgX E u tx1 ln1)
    (f : ∀ j : Nat, j ≠ 0 → (j < 1 ∨ 1 + 12 ≤ j) → (j < 75 ∨ 75 + 6 ≤ j) → (j < 81 ∨ 81 + 3 ≤ j) → u j = σ j) : CLS E u hv se1 sf1 ll nx ct B S HB tx1 ln1 lq := by
  obtain ⟨-, h1, -, -, ⟨X13, h13⟩, h19, hH, -, -, hcl⟩ := h
  exact ⟨q0, hi_fr h1 (fun j a b => f j (by omega) (by omega) (by omega) (by omega)), q3, q4, ⟨X13, bdT_fr h13 (fun j h0 h1 => f j (by omega) (by omega) (by omega) (by omega))⟩, bdT_fr h19 (fun j h0 h1 => f j (by omega) (by omega) (by omega) (by omega)), hist_fr hH (fun j a b => f j (by omega) (by omega) (by omega) (by omega)), q5, q6, (f 84 (by omega) (by omega) (by omega) (by omega)).trans hcl⟩
end CLSS
def MDL (E : xE) (σ : xW) (sv : Bool) (re ea fa ty li th : Int) (v vs hF tx lf : Int → Int) : Prop :=
  (∃ sz sp wr to : Int, mo E σ sv re ea fa ty li th sz sp wr to) ∧ now E σ v ∧ (∃ w : Int → Int, bef E σ w) ∧ (∃ w : Int → Int, tri E σ w) ∧ sav E σ vs ∧ his E σ hF ∧ (∃ w : Int → Int, mov E σ w) ∧ (∃ F : Int → Int, far E σ F ∧ ∀ j : Int, rg (F j)) ∧ txt E σ tx ∧ lin E σ lf ∧ ∃ nu : Int → Int, num E σ nu ∧ nuR nu
theorem MDL.fr {E : xE} {σ u : xW} {sv : Bool} {re ea fa ty li th : Int} {v vs hF tx lf : Int → Int} (h : MDL E σ sv re ea fa ty li th v vs hF tx lf) (f : ∀ j : Nat, 85 ≤ j → j < 96 → u j = σ j) : MDL E u sv re ea fa ty li th v vs hF tx lf := by
  obtain ⟨⟨sz, sp, wr, to, h0⟩, h1, ⟨w2, h2⟩, ⟨w3, h3⟩, h4, h5, ⟨w6, h6⟩, ⟨F, h7, h8⟩, h9, h10, nu, h11, h12⟩ := h
  exact ⟨⟨sz, sp, wr, to, (f 85 (by omega) (by omega)).trans h0⟩, (f 86 (by omega) (by omega)).trans h1, ⟨w2, (f 87 (by omega) (by omega)).trans h2⟩, ⟨w3, (f 88 (by omega) (by omega)).trans h3⟩, (f 89 (by omega) (by omega)).trans h4, (f 90 (by omega) (by omega)).trans h5, ⟨w6, (f 91 (by omega) (by omega)).trans h6⟩, ⟨F, (f 92 (by omega) (by omega)).trans h7, h8⟩, (f 93 (by omega) (by omega)).trans h9, (f 94 (by omega) (by omega)).trans h10, nu, (f 95 (by omega) (by omega)).trans h11, h12⟩
def OUT (E : xE) (σ : xW) : Prop := (∃ f : Nat → Int64, σ 96 = .inl (xJ E, 1, .inr (.inl f))) ∧ ∃ f : Nat → UInt64, σ 97 = .inl (xDb E, 1, .inr (.inr (.inr (.inl f))))
theorem OUT.fr {E : xE} {σ u : xW} (h : OUT E σ) (f : ∀ j : Nat, 96 ≤ j → u j = σ j) : OUT E u := by
  obtain ⟨⟨g, h0⟩, g1, h1⟩ := h
  exact ⟨⟨g, (f 96 (by omega)).trans h0⟩, g1, (f 97 (by omega)).trans h1⟩
theorem OUT.put {E : xE} {σ u : xW} {x : Int64} (h : OUT E σ) (e : u 96 = oJ E x) (f : u 97 = σ 97) : OUT E u := ⟨⟨_, e⟩, h.2.choose, f.trans h.2.choose_spec⟩
theorem OUT.putD {E : xE} {σ u : xW} {x : UInt64} (h : OUT E σ) (e : u 97 = oD E x) (f : u 96 = σ 96) : OUT E u := ⟨⟨h.1.choose, f.trans h.1.choose_spec⟩, _, e⟩
/-! what ties them, behind n calls -/
def bnd (n : Int) (B : BT) : Prop := (0 ≤ shB B ∧ shB B ≤ 1000 * n) ∧ (0 ≤ wkB B ∧ wkB B ≤ 1000 * n)
def CpB (n : Int) (v : Int → Int) (B : BT) : Prop := BIT B ∧ CpT v B ∧ bnd n B
def CPL (n : Int) (hv : Bool) (se sf ll nx ct : Int) (B S : BT) (HB : Int → BT) (tx : Int → Int) (ln : Int) (lq : Int → Int) (sv : Bool) (re ea fa ty li : Int) (v vs hF lf : Int → Int) : Prop :=
  CpB n v B ∧ (sv = hv ∧ (hv = true → CpB n vs S)) ∧ ((0 ≤ nx ∧ nx < 8) ∧ (0 ≤ ct ∧ ct ≤ 8) ∧ re = ct ∧ (∀ j : Int, rg (hF j)) ∧ ∀ i : Int, 0 ≤ i → i < ct → CpB n (fun j => hF (i * 87 + j)) (HB ((nx + 8 - ct + i) % 8))) ∧ (ea = se ∧ fa = sf ∧ (-1 ≤ se ∧ se ≤ 60) ∧ (-1 ≤ sf ∧ sf ≤ 60)) ∧ (ty = ln ∧ (0 ≤ ln ∧ ln ≤ 60) ∧ ∀ j : Int, 0 ≤ tx j ∧ tx j ≤ 65535) ∧ (li = ll ∧ (0 ≤ ll ∧ ll ≤ 35) ∧ (∀ j : Int, 0 ≤ j → j < ll → lq j = lf j) ∧ (∀ j : Int, chR (lq j)) ∧ ∀ j : Int, chR (lf j))
theorem bnd.up {n : Int} {B : BT} (h : bnd n B) : bnd (n + 1) B := by
  obtain ⟨⟨h0, h1⟩, h2, h3⟩ := h
  exact ⟨⟨h0, by omega⟩, h2, by omega⟩
theorem CpB.up {n : Int} {v : Int → Int} {B : BT} (h : CpB n v B) : CpB (n + 1) v B := ⟨h.1, h.2.1, h.2.2.up⟩
theorem CpB.eq {n : Int} {v u : Int → Int} {B : BT} (h : CpB n v B) (hu : ∀ j : Int, rg (u j)) (e : ∀ j : Int, 0 ≤ j → j < 87 → u j = v j) : CpB n u B := ⟨h.1, Cp.congr h.2.1 h.1.2.2.2.2.2.2 hu e, h.2.2⟩
section CPLS
variable {n : Int} {hv : Bool} {se sf ll nx ct : Int} {B S B1 : BT} {HB : Int → BT} {tx : Int → Int} {ln : Int} {lq : Int → Int} {sv : Bool} {re ea fa ty li : Int} {v vs hF lf v1 : Int → Int}
theorem CPL.up (h : CPL n hv se sf ll nx ct B S HB tx ln lq sv re ea fa ty li v vs hF lf) : CPL (n + 1) hv se sf ll nx ct B S HB tx ln lq sv re ea fa ty li v vs hF lf := by
  obtain ⟨h1, ⟨h2, h3⟩, ⟨h4, h5, h6, h7, h8⟩, h9, h10, h11⟩ := h
  exact ⟨h1.up, ⟨h2, fun q => (h3 q).up⟩, ⟨h4, h5, h6, h7, fun i i0 i1 => (h8 i i0 i1).up⟩, h9, h10, h11⟩
theorem CpT.rgs {v : Int → Int} {B : BT} (h : CpT v B) (j : Int) : rg (v j) := h.2.2.2.2 j
theorem rmF_rg (h : ∀ j : Int, rg (hF j)) (h2 : ∀ j : Int, rg (v j)) (j : Int) : rg (rmF hF v re j) := by
  unfold rmF
  (repeat' split) <;> first | exact h _ | exact h2 _
theorem CPL.his (h : CPL n hv se sf ll nx ct B S HB tx ln lq sv re ea fa ty li v vs hF lf) : ((0 ≤ (nx + 1) % 8 ∧ (nx + 1) % 8 < 8) ∧ (0 ≤ ctN ct ∧ ctN ct ≤ 8) ∧ re8 re = ctN ct ∧ (∀ j : Int, rg (rmF hF v re j)) ∧ ∀ i : Int, 0 ≤ i → i < ctN ct → CpB n (fun j => rmF hF v re (i * 87 + j)) (hbS HB nx B (((nx + 1) % 8 + 8 - ctN ct + i) % 8))) := by
  obtain ⟨h1, -, ⟨h4, h5, h6, h7, h8⟩, -, -, -⟩ := h
  have hrg := rmF_rg (re := re) h7 h1.2.1.rgs
  subst h6
  by_cases e : re = 8
  · subst e
    refine ⟨by omega, by decide, by decide, hrg, fun i i0 i1 => ?_⟩
    have e8 : ctN 8 = 8 := by decide
    rw [e8] at i1 ⊢
    by_cases q : i = 7
    · subst q
      have e9 : ((nx + 1) % 8 + 8 - 8 + 7) % 8 = nx := by omega
      rw [e9]
      unfold hbS
      rw [if_pos rfl]
      refine h1.eq (fun j => hrg _) (fun j j0 j1 => ?_)
      unfold rmF
      rw [if_pos rfl, if_neg (by omega)]
      exact congrArg v (by omega)
    · have e9 : ((nx + 1) % 8 + 8 - 8 + i) % 8 = (nx + 8 - 8 + (i + 1)) % 8 := by omega
      rw [e9]
      unfold hbS
      rw [if_neg (by omega)]
      refine (h8 (i + 1) (by omega) (by omega)).eq (fun j => hrg _) (fun j j0 j1 => ?_)
      unfold rmF
      rw [if_pos rfl, if_pos (by omega)]
      exact congrArg hF (by omega)
  · have e8 : ctN re = re + 1 := by
      unfold ctN
      rw [if_neg (by omega)]
    refine ⟨by omega, by omega, by unfold re8; rw [if_neg e, e8], hrg, fun i i0 i1 => ?_⟩
    rw [e8] at i1 ⊢
    by_cases q : i = re
    · subst q
      have e9 : ((nx + 1) % 8 + 8 - (i + 1) + i) % 8 = nx := by omega
      rw [e9]
      unfold hbS
      rw [if_pos rfl]
      refine h1.eq (fun j => hrg _) (fun j j0 j1 => ?_)
      unfold rmF
      rw [if_neg e, if_pos (by omega)]
      exact congrArg v (by omega)
    · have e9 : ((nx + 1) % 8 + 8 - (re + 1) + i) % 8 = (nx + 8 - re + i) % 8 := by omega
      rw [e9]
      unfold hbS
      rw [if_neg (by omega)]
      refine (h8 i (by omega) (by omega)).eq (fun j => hrg _) (fun j j0 j1 => ?_)
      unfold rmF
      rw [if_neg e, if_neg (by omega)]
theorem CPL.doneB (h : CPL n hv se sf ll nx ct B S HB tx ln lq sv re ea fa ty li v vs hF lf) (f1 : BIT B1) (f4 : shB B ≤ shB B1 ∧ shB B1 ≤ shB B + 100) (f5 : wkB B ≤ wkB B1 ∧ wkB B1 ≤ wkB B + 1000) (hv1 : CpT v1 B1) : CPL (n + 1) hv se sf ll ((nx + 1) % 8) (ctN ct) B1 S (hbS HB nx B) tx ln lq sv (re8 re) ea fa ty li v1 vs (rmF hF v re) lf := by
  have hh := CPL.his h
  obtain ⟨h1, ⟨h2, h3⟩, ⟨h4, h5, h6, h7, h8⟩, h9, h10, h11⟩ := h
  obtain ⟨-, -, ⟨b1, b2⟩, b3, b4⟩ := h1
  exact ⟨⟨f1, hv1, ⟨by omega, by omega⟩, by omega, by omega⟩, ⟨h2, fun q => (h3 q).up⟩, ⟨hh.1, hh.2.1, hh.2.2.1, hh.2.2.2.1, fun i i0 i1 => (hh.2.2.2.2 i i0 i1).up⟩, h9, h10, h11⟩
theorem CPL.done {F : Int × BT} (h : CPL n hv se sf ll nx ct B S HB tx ln lq sv re ea fa ty li v vs hF lf) (hF9 : FOK B F) (hv1 : CpT v1 F.2) : CPL (n + 1) hv se sf ll ((nx + 1) % 8) (ctN ct) F.2 S (hbS HB nx B) tx ln lq sv (re8 re) ea fa ty li v1 vs (rmF hF v re) lf := by
  obtain ⟨f1, f2, f3, f4, f5⟩ := hF9
  exact CPL.doneB h f1 ⟨f4.1, by omega⟩ ⟨f5.1, by omega⟩ hv1
end CPLS
def INVT (n : Int) (E : xE) (σ : xW) (th : Int) : Prop := ∃ (hv : Bool) (se sf ll nx ct : Int) (B S : BT) (HB : Int → BT) (tx : Int → Int) (ln : Int) (lq : Int → Int) (sv : Bool) (re ea fa ty li : Int) (v vs hF lf : Int → Int),
  CLS E σ hv se sf ll nx ct B S HB tx ln lq ∧ MDL E σ sv re ea fa ty li th v vs hF tx lf ∧ OUT E σ ∧ CPL n hv se sf ll nx ct B S HB tx ln lq sv re ea fa ty li v vs hF lf
def INV (n : Int) (E : xE) (σ : xW) : Prop := ∃ th : Int, rg th ∧ INVT n E σ th
/-- behind both calls: k was told of the class, the model has it as thrown; b is what both answer -/
def FIN (n : Int) (E : xE) (t : xW) (k b : Int) : Prop := INVT (n + 1) E t k ∧ rg k ∧ (k = 0 → t 96 = oJ E (iZ b).toInt64)
def FINF (n : Int) (E : xE) (t : xW) (k : Int) (b : UInt32) : Prop := INVT (n + 1) E t k ∧ rg k ∧ (k = 0 → t 97 = oD E (FP.f2d b) ∧ vf_n64 (FP.f2d b) ∧ Op.cmpValue (FP.dcmp (FP.f2d b) (FP.f2d b)) .l = 0)
theorem INVT.mo {n th : Int} {E : xE} {σ : xW} (h : INVT n E σ th) : ∃ (sv : Bool) (re ea fa ty li sz sp wr to : Int), mo E σ sv re ea fa ty li th sz sp wr to := by
  obtain ⟨hv, se, sf, ll, nx, ct, B, S, HB, tx, ln, lq, sv, re, ea, fa, ty, li, v, vs, hF, lf, -, ⟨⟨sz, sp, wr, to, h0⟩, -⟩, -⟩ := h
  exact ⟨sv, re, ea, fa, ty, li, sz, sp, wr, to, h0⟩
theorem INVT.ob {n th : Int} {E : xE} {σ : xW} (h : INVT n E σ th) : (∃ fs : List Value, σ 0 = oB 4 fs) ∧ ∃ fs : List Value, σ 85 = oB 5 fs := by
  obtain ⟨hv, se, sf, ll, nx, ct, B, S, HB, tx, ln, lq, sv, re, ea, fa, ty, li, v, vs, hF, lf, ⟨h1, -⟩, ⟨⟨sz, sp, wr, to, h0⟩, -⟩, -⟩ := h
  exact ⟨⟨_, h1⟩, _, h0⟩
/-! a change, first in the class -/
def MIDC (E : xE) (σ u : xW) (k : Int) (tX : Int → Int) (F : Int × BT) (g : Int) (hv : Bool) (se sf ll nx ct : Int) (B S : BT) (HB : Int → BT) (tx : Int → Int) (ln : Int) (lq : Int → Int) : Prop :=
  ((0 ≤ F.1 ∧ k = 0 ∧ CLS E u hv se sf ll ((nx + 1) % 8) (ctN ct) F.2 S (hbS HB nx B) tx ln lq ∧ u 96 = oJ E (iZ g).toInt64) ∨ (F.1 < 0 ∧ k = tX F.1 ∧ CLS E u hv se sf ll nx ct B S HB tx ln lq ∧ u 96 = σ 96)) ∧ (∀ j : Nat, 85 ≤ j → j ≠ 96 → u j = σ j)
section MIDS
variable {E : xE} {σ u u0 t : xW} {n k z g b : Int} {tX : Int → Int} {F : Int × BT} {hv : Bool} {se sf ll nx ct : Int} {op lk kp wc op1 lk1 kp1 wc1 : Int → Int} {pn nw sh wk pn1 nw1 sh1 wk1 : Int} {B S : BT} {HB : Int → BT} {tx : Int → Int} {ln : Int} {lq : Int → Int} {sv : Bool} {re ea fa ty li : Int} {v vs hF lf v1 : Int → Int}
theorem mid_ok (hC : CLS E σ hv se sf ll nx ct (op, lk, kp, wc, pn, nw, sh, wk) S HB tx ln lq) (hnx : 0 ≤ nx ∧ nx < 8) (hfok : FOK (op, lk, kp, wc, pn, nw, sh, wk) F) (q0 : mn E u0 hv se sf ll) (q1 : hi E u0 ((nx + 1) % 8) (if 8 < (ct + 1) then 8 else (ct + 1))) (q2 : bd E u0 (hsl nx) op lk kp wc pn nw sh wk) (q3 : bd E u0 1 op1 lk1 kp1 wc1 pn1 nw1 sh1 wk1) (q4 : bd E u0 7 op lk kp wc pn nw sh wk) (q5 : srX E u0) (e : (op1, lk1, kp1, wc1, pn1, nw1, sh1, wk1) = F.2) (hz : F.1 < -5 ∨ -1 < F.1)
    (fr : ∀ j : Nat, j ≠ 73 → (j < hsl nx ∨ hsl nx + 6 ≤ j) → (j < 1 ∨ 1 + 12 ≤ j) → (j < 75 ∨ 75 + 6 ≤ j) → u0 j = σ j) (hzg : z = g) (e96 : u 96 = oJ E (iZ z).toInt64) (f96 : ∀ j : Nat, j ≠ 96 → u j = u0 j) : MIDC E σ u 0 tX F g hv se sf ll nx ct (op, lk, kp, wc, pn, nw, sh, wk) S HB tx ln lq := by
  have hb := hsl_rg hnx.1 hnx.2
  have h5 := hfok.2.2.1.1
  refine ⟨Or.inl ⟨by omega, rfl, ?_, by rw [← hzg]; exact e96⟩, fun j h0 h1 => (f96 j h1).trans (fr j (by omega) (by omega) (by omega) (by omega))⟩
  have q3b : bdT E u0 1 F.2 := by
    rw [← e]
    exact q3
  exact (CLS.done hC hnx q0 q1 q2 q3b q4 q5 (pgX_fr hC.2.2.2.2.2.2.2.2.1 (fun j a b => fr j (by omega) (by omega) (by omega) (by omega))) (fun j a b c d _ => fr j a b c d)).fr (fun j hj => f96 j (by omega))
theorem mid_no (hC : CLS E σ hv se sf ll nx ct (op, lk, kp, wc, pn, nw, sh, wk) S HB tx ln lq) (hfok : FOK (op, lk, kp, wc, pn, nw, sh, wk) F) (hneg : F.1 < 0) (q0 : mn E u hv se sf ll) (q3 : bd E u 1 op1 lk1 kp1 wc1 pn1 nw1 sh1 wk1) (q4 : bd E u 7 op lk kp wc pn nw sh wk) (q5 : srX E u) (e : (op1, lk1, kp1, wc1, pn1, nw1, sh1, wk1) = F.2)
    (fr : ∀ j : Nat, (j < 1 ∨ 1 + 12 ≤ j) → (j < 75 ∨ 75 + 6 ≤ j) → u j = σ j) (hk : k = tX F.1) : MIDC E σ u k tX F g hv se sf ll nx ct (op, lk, kp, wc, pn, nw, sh, wk) S HB tx ln lq := by
  refine ⟨Or.inr ⟨hneg, hk, ?_, fr 96 (by omega) (by omega)⟩, fun j h0 h1 => fr j (by omega) (by omega)⟩
  have q3b : bdT E u 1 (op, lk, kp, wc, pn, nw, sh, wk) := by
    rw [← hfok.2.1 hneg, ← e]
    exact q3
  exact CLS.fail hC q0 q3b ⟨_, (show bdT E u 7 (op, lk, kp, wc, pn, nw, sh, wk) from q4)⟩ q5 (pgX_fr hC.2.2.2.2.2.2.2.2.1 (fun j a b => fr j (by omega) (by omega))) (fun j a b c _ => fr j b c)
theorem MIDC.mdl (hm : MIDC E σ u k tX F g hv se sf ll nx ct B S HB tx ln lq) {th : Int} (hM : MDL E σ sv re ea fa ty li th v vs hF tx lf) : MDL E u sv re ea fa ty li th v vs hF tx lf := hM.fr (fun j h0 h1 => hm.2 j h0 (by omega))
theorem chg_fin (hK : CPL n hv se sf ll nx ct B S HB tx ln lq sv re ea fa ty li v vs hF lf) (hfok : FOK B F) (htz : tX F.1 = 0 ↔ 0 ≤ F.1) (htb : 0 ≤ tX F.1 ∧ tX F.1 ≤ 3) (hm : MIDC E σ u k tX F g hv se sf ll nx ct B S HB tx ln lq) (hO : OUT E σ) (qb : 0 ≤ F.1 → b = g) (hM : MDL E t sv (if tX F.1 = 0 then re8 re else re) ea fa ty li (tX F.1) (if tX F.1 = 0 then v1 else v) vs (if tX F.1 = 0 then rmF hF v re else hF) tx lf) (hv1 : CpT v1 F.2) (fr : ∀ j : Nat, (j < 85 ∨ 96 ≤ j) → t j = u j) : FIN n E t k b := by
  obtain ⟨hm1, hm2⟩ := hm
  rcases hm1 with ⟨h0, rfl, hC, e96⟩ | ⟨h0, rfl, hC, e96⟩
  · have e0 := htz.mpr h0
    rw [e0] at hM
    rw [if_pos rfl, if_pos rfl, if_pos rfl] at hM
    have hO2 : OUT E t := (hO.put e96 (hm2 97 (by omega) (by omega))).fr (fun j h => fr j (by omega))
    exact ⟨⟨hv, se, sf, ll, _, _, F.2, S, _, tx, ln, lq, sv, _, ea, fa, ty, li, v1, vs, _, lf, hC.fr (fun j h => fr j (by omega)), hM, hO2, CPL.done hK hfok hv1⟩, by decide, fun _ => by rw [qb h0]; exact (fr 96 (by omega)).trans e96⟩
  · have e0 : ¬ tX F.1 = 0 := fun q => by have := htz.mp q; omega
    rw [if_neg e0, if_neg e0, if_neg e0] at hM
    have hO2 : OUT E t := hO.fr (fun j h => (fr j (by omega)).trans (by by_cases q : j = 96; (rw [q]; exact e96); exact hm2 j (by omega) q))
    exact ⟨⟨hv, se, sf, ll, nx, ct, B, S, HB, tx, ln, lq, sv, re, ea, fa, ty, li, v, vs, hF, lf, hC.fr (fun j h => fr j (by omega)), hM, hO2, hK.up⟩, ⟨by omega, by omega⟩, fun q => absurd q e0⟩
/-- a query: neither world's state is another behind it -/
theorem qry_fin (hK : CPL n hv se sf ll nx ct B S HB tx ln lq sv re ea fa ty li v vs hF lf) (hC : CLS E u hv se sf ll nx ct B S HB tx ln lq) (hO : OUT E u) (hM : MDL E t sv re ea fa ty li k v vs hF tx lf) (fr : ∀ j : Nat, (j < 85 ∨ 96 ≤ j) → t j = u j) (hk : 0 ≤ k ∧ k ≤ 3) (h96 : k = 0 → u 96 = oJ E (iZ b).toInt64) : FIN n E t k b :=
  ⟨⟨hv, se, sf, ll, nx, ct, B, S, HB, tx, ln, lq, sv, re, ea, fa, ty, li, v, vs, hF, lf, hC.fr (fun j h => fr j (by omega)), hM, hO.fr (fun j h => fr j (by omega)), hK.up⟩, ⟨by omega, by omega⟩, fun q => (fr 96 (by omega)).trans (h96 q)⟩
end MIDS
theorem rA {a : Int} (h : tA a = 0 ↔ 0 ≤ a) (h5 : -5 ≤ a) : a = -1 ∨ a = -2 ∨ a = -3 ∨ 0 ≤ a := by
  rcases (show a = -5 ∨ a = -4 ∨ a = -3 ∨ a = -2 ∨ a = -1 ∨ 0 ≤ a by omega) with rfl | rfl | rfl | rfl | rfl | q
  · exact absurd (h.mp (by decide)) (by decide)
  · exact absurd (h.mp (by decide)) (by decide)
  all_goals omega
theorem rL {a : Int} (h : tL a = 0 ↔ 0 ≤ a) (h5 : -5 ≤ a) : a = -1 ∨ a = -2 ∨ a = -3 ∨ 0 ≤ a := by
  rcases (show a = -5 ∨ a = -4 ∨ a = -3 ∨ a = -2 ∨ a = -1 ∨ 0 ≤ a by omega) with rfl | rfl | rfl | rfl | rfl | q
  · exact absurd (h.mp (by decide)) (by decide)
  · exact absurd (h.mp (by decide)) (by decide)
  all_goals omega
theorem rP {a : Int} (h : tP a = 0 ↔ 0 ≤ a) (h5 : -5 ≤ a) : a = -1 ∨ a = -3 ∨ 0 ≤ a := by
  rcases (show a = -5 ∨ a = -4 ∨ a = -3 ∨ a = -2 ∨ a = -1 ∨ 0 ≤ a by omega) with rfl | rfl | rfl | rfl | rfl | q
  · exact absurd (h.mp (by decide)) (by decide)
  · exact absurd (h.mp (by decide)) (by decide)
  · omega
  · exact absurd (h.mp (by decide)) (by decide)
  all_goals omega
theorem rT {a : Int} (h : tT a = 0 ↔ 0 ≤ a) (h5 : -5 ≤ a) : a = -1 ∨ a = -5 ∨ 0 ≤ a := by
  rcases (show a = -5 ∨ a = -4 ∨ a = -3 ∨ a = -2 ∨ a = -1 ∨ 0 ≤ a by omega) with rfl | rfl | rfl | rfl | rfl | q
  · omega
  · exact absurd (h.mp (by decide)) (by decide)
  · exact absurd (h.mp (by decide)) (by decide)
  · exact absurd (h.mp (by decide)) (by decide)
  all_goals omega
theorem rE {a : Int} (h : tE a = 0 ↔ 0 ≤ a) (h5 : -5 ≤ a) : a = -1 ∨ a = -3 ∨ a = -4 ∨ 0 ≤ a := by
  rcases (show a = -5 ∨ a = -4 ∨ a = -3 ∨ a = -2 ∨ a = -1 ∨ 0 ≤ a by omega) with rfl | rfl | rfl | rfl | rfl | q
  · exact absurd (h.mp (by decide)) (by decide)
  · omega
  · omega
  · exact absurd (h.mp (by decide)) (by decide)
  all_goals omega
theorem r_set {op lk kp wc : Int → Int} {pn nw sh wk r c o : Int} (hB : BI op lk kp wc pn nw) : (setF op lk kp wc pn nw sh wk r c o).1 = -1 ∨ (setF op lk kp wc pn nw sh wk r c o).1 = -2 ∨ 0 ≤ (setF op lk kp wc pn nw sh wk r c o).1 := by
  unfold setF
  split
  · exact Or.inl rfl
  · split
    · exact Or.inr (Or.inl rfl)
    · exact Or.inr (Or.inr (hB.1 _).1)
def FINB (n : Int) (E : xE) (t : xW) (k b : Int) : Prop := FIN n E t k b ∧ (k = 0 → b = 0 ∨ b = 1)
theorem b2_01 (x : Bool) : b2 x = 0 ∨ b2 x = 1 := by cases x <;> decide
