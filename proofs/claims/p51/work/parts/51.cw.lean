/-! ===== the class's world, as one ===== -/
abbrev bdT (E : xE) (σ : xW) (b : Nat) (B : BT) : Prop := bd E σ b B.1 B.2.1 B.2.2.1 B.2.2.2.1 B.2.2.2.2.1 B.2.2.2.2.2.1 B.2.2.2.2.2.2.1 B.2.2.2.2.2.2.2
theorem bdT_fr {E : xE} {σ u : xW} {b : Nat} {B : BT} (h : bdT E σ b B) (f : ∀ j : Nat, b ≤ j → j < b + 6 → u j = σ j) : bdT E u b B := by
  obtain ⟨h0, h1, h2, h3, h4, ro, h5⟩ := h
  exact ⟨(f b (by omega) (by omega)).trans h0, (f (b + 1) (by omega) (by omega)).trans h1, (f (b + 2) (by omega) (by omega)).trans h2, (f (b + 3) (by omega) (by omega)).trans h3, (f (b + 4) (by omega) (by omega)).trans h4, ro, (f (b + 5) (by omega) (by omega)).trans h5⟩
def hbS (HB : Int → BT) (nx : Int) (B : BT) : Int → BT := fun i => if i = nx then B else HB i
def ctN (ct : Int) : Int := if 8 < (ct + 1) then 8 else (ct + 1)
def srX (E : xE) (σ : xW) : Prop := ∃ (le rl fs qu gr : Int → Int), sr E σ le rl fs qu gr
def pgX (E : xE) (σ : xW) (tx : Int → Int) (ln : Int) : Prop := ∃ (cs : Int) (cm : Value) (va : Int → Int), pg E σ tx ln cs cm va ∧ ∀ j : Int, -1 ≤ va j ∧ va j ≤ 102
theorem srX_fr {E : xE} {σ u : xW} (h : srX E σ) (f : ∀ j : Nat, 75 ≤ j → j < 81 → u j = σ j) : srX E u := by
  obtain ⟨le, rl, fs, qu, gr, h0, h1, h2, h3, h4, h5⟩ := h
  exact ⟨le, rl, fs, qu, gr, (f 75 (by omega) (by omega)).trans h0, (f 76 (by omega) (by omega)).trans h1, (f 77 (by omega) (by omega)).trans h2, (f 78 (by omega) (by omega)).trans h3, (f 79 (by omega) (by omega)).trans h4, (f 80 (by omega) (by omega)).trans h5⟩
theorem pgX_fr {E : xE} {σ u : xW} {tx : Int → Int} {ln : Int} (h : pgX E σ tx ln) (f : ∀ j : Nat, 81 ≤ j → j < 84 → u j = σ j) : pgX E u tx ln := by
  obtain ⟨cs, cm, va, ⟨h0, h1, h2⟩, hv⟩ := h
  exact ⟨cs, cm, va, ⟨(f 81 (by omega) (by omega)).trans h0, (f 82 (by omega) (by omega)).trans h1, (f 83 (by omega) (by omega)).trans h2⟩, hv⟩
theorem hi_fr {E : xE} {σ u : xW} {nx ct : Int} (h : hi E σ nx ct) (f : ∀ j : Nat, 73 ≤ j → j < 75 → u j = σ j) : hi E u nx ct := ⟨(f 73 (by omega) (by omega)).trans h.1, (f 74 (by omega) (by omega)).trans h.2⟩
def CLS (E : xE) (σ : xW) (hv : Bool) (se sf ll nx ct : Int) (B S : BT) (HB : Int → BT) (tx : Int → Int) (ln : Int) (lq : Int → Int) : Prop :=
  mn E σ hv se sf ll ∧ hi E σ nx ct ∧ bdT E σ 1 B ∧ (∃ X : BT, bdT E σ 7 X) ∧ (∃ X : BT, bdT E σ 13 X) ∧ bdT E σ 19 S ∧ (∀ i : Int, 0 ≤ i → i < 8 → bdT E σ (hsl i) (HB i)) ∧ srX E σ ∧ pgX E σ tx ln ∧ cln E σ lq
section CLSS
variable {E : xE} {σ u : xW} {hv : Bool} {se sf ll nx ct : Int} {B S B1 : BT} {HB : Int → BT} {tx tx1 : Int → Int} {ln ln1 : Int} {lq : Int → Int}
theorem hist_fr (h : ∀ i : Int, 0 ≤ i → i < 8 → bdT E σ (hsl i) (HB i)) (f : ∀ j : Nat, 25 ≤ j → j < 73 → u j = σ j) : ∀ i : Int, 0 ≤ i → i < 8 → bdT E u (hsl i) (HB i) := fun i i0 i1 => by
  have hb := hsl_rg i0 i1
  exact bdT_fr (h i i0 i1) (fun j h0 h1 => f j (by omega) (by omega))
theorem CLS.fr (h : CLS E σ hv se sf ll nx ct B S HB tx ln lq) (f : ∀ j : Nat, j < 85 → u j = σ j) : CLS E u hv se sf ll nx ct B S HB tx ln lq := by
  obtain ⟨h0, h1, h2, ⟨X7, h3⟩, ⟨X13, h4⟩, h5, h6, h7, h8, h9⟩ := h
  exact ⟨(f 0 (by omega)).trans h0, hi_fr h1 (fun j a b => f j (by omega)), bdT_fr h2 (fun j a b => f j (by omega)), ⟨X7, bdT_fr h3 (fun j a b => f j (by omega))⟩, ⟨X13, bdT_fr h4 (fun j a b => f j (by omega))⟩, bdT_fr h5 (fun j a b => f j (by omega)), hist_fr h6 (fun j a b => f j (by omega)), srX_fr h7 (fun j a b => f j (by omega)), pgX_fr h8 (fun j a b => f j (by omega)), (f 84 (by omega)).trans h9⟩
/-- behind a query that may search, also over the trial board -/
theorem CLS.qry (h : CLS E σ hv se sf ll nx ct B S HB tx ln lq) (q4 : ∃ X : BT, bdT E u 13 X) (q5 : srX E u) (f : ∀ j : Nat, j < 85 → (j < 13 ∨ 13 + 6 ≤ j) → (j < 75 ∨ 75 + 6 ≤ j) → u j = σ j) : CLS E u hv se sf ll nx ct B S HB tx ln lq := by
  obtain ⟨h0, h1, h2, ⟨X7, h3⟩, -, h5, h6, -, h8, h9⟩ := h
  exact ⟨(f 0 (by omega) (by omega) (by omega)).trans h0, hi_fr h1 (fun j a b => f j (by omega) (by omega) (by omega)), bdT_fr h2 (fun j a b => f j (by omega) (by omega) (by omega)), ⟨X7, bdT_fr h3 (fun j a b => f j (by omega) (by omega) (by omega))⟩, q4, bdT_fr h5 (fun j a b => f j (by omega) (by omega) (by omega)), hist_fr h6 (fun j a b => f j (by omega) (by omega) (by omega)), q5, pgX_fr h8 (fun j a b => f j (by omega) (by omega) (by omega)), (f 84 (by omega) (by omega) (by omega)).trans h9⟩
theorem CLS.sq (h : CLS E σ hv se sf ll nx ct B S HB tx ln lq) (q5 : srX E u) (f : ∀ j : Nat, j < 85 → (j < 75 ∨ 75 + 6 ≤ j) → u j = σ j) : CLS E u hv se sf ll nx ct B S HB tx ln lq := by
  obtain ⟨X13, h4⟩ := h.2.2.2.2.1
  exact CLS.qry h ⟨X13, bdT_fr h4 (fun j a b => f j (by omega) (by omega))⟩ q5 (fun j a b c => f j a c)
/-- behind a change -/
theorem CLS.done (h : CLS E σ hv se sf ll nx ct B S HB tx ln lq) (hnx : 0 ≤ nx ∧ nx < 8) (q0 : mn E u hv se sf ll) (q1 : hi E u ((nx + 1) % 8) (if 8 < (ct + 1) then 8 else (ct + 1))) (q2 : bdT E u (hsl nx) B) (q3 : bdT E u 1 B1) (q4 : bdT E u 7 B) (q5 : srX E u) (q6 : pgX E u tx1 ln1)
    (f : ∀ j : Nat, j ≠ 73 → (j < hsl nx ∨ hsl nx + 6 ≤ j) → (j < 1 ∨ 1 + 12 ≤ j) → (j < 75 ∨ 75 + 6 ≤ j) → (j < 81 ∨ 81 + 3 ≤ j) → u j = σ j) : CLS E u hv se sf ll ((nx + 1) % 8) (ctN ct) B1 S (hbS HB nx B) tx1 ln1 lq := by
  obtain ⟨-, -, -, -, ⟨X13, h13⟩, h19, hH, -, -, hcl⟩ := h
  have hb := hsl_rg hnx.1 hnx.2
  refine ⟨q0, q1, q3, ⟨B, q4⟩, ⟨X13, bdT_fr h13 (fun j h0 h1 => f j (by omega) (by omega) (by omega) (by omega) (by omega))⟩, bdT_fr h19 (fun j h0 h1 => f j (by omega) (by omega) (by omega) (by omega) (by omega)), fun i i0 i1 => ?_, q5, q6, (f 84 (by omega) (by omega) (by omega) (by omega) (by omega)).trans hcl⟩
  unfold hbS
  by_cases e : i = nx
  · rw [if_pos e, e]
    exact q2
  · rw [if_neg e]
    have hi9 := hsl_rg i0 i1
    have hne := hsl_ne i0 hnx.1 e
    exact bdT_fr (hH i i0 i1) (fun j h0 h1 => f j (by omega) (by omega) (by omega) (by omega) (by omega))
/-- behind a change that was refused -/
theorem CLS.fail {se1 sf1 : Int} (h : CLS E σ hv se sf ll nx ct B S HB tx ln lq) (q0 : mn E u hv se1 sf1 ll) (q3 : bdT E u 1 B) (q4 : ∃ X : BT, bdT E u 7 X) (q5 : srX E u) (q6 : pgX E u tx1 ln1)
    (f : ∀ j : Nat, j ≠ 0 → (j < 1 ∨ 1 + 12 ≤ j) → (j < 75 ∨ 75 + 6 ≤ j) → (j < 81 ∨ 81 + 3 ≤ j) → u j = σ j) : CLS E u hv se1 sf1 ll nx ct B S HB tx1 ln1 lq := by
  obtain ⟨-, h1, -, -, ⟨X13, h13⟩, h19, hH, -, -, hcl⟩ := h
  exact ⟨q0, hi_fr h1 (fun j a b => f j (by omega) (by omega) (by omega) (by omega)), q3, q4, ⟨X13, bdT_fr h13 (fun j h0 h1 => f j (by omega) (by omega) (by omega) (by omega))⟩, bdT_fr h19 (fun j h0 h1 => f j (by omega) (by omega) (by omega) (by omega)), hist_fr hH (fun j a b => f j (by omega) (by omega) (by omega) (by omega)), q5, q6, (f 84 (by omega) (by omega) (by omega) (by omega)).trans hcl⟩
end CLSS
abbrev opT (B : BT) : Int → Int := B.1
abbrev lkT (B : BT) : Int → Int := B.2.1
abbrev kpT (B : BT) : Int → Int := B.2.2.1
abbrev wcT (B : BT) : Int → Int := B.2.2.2.1
abbrev pnT (B : BT) : Int := B.2.2.2.2.1
abbrev nwT (B : BT) : Int := B.2.2.2.2.2.1
/-- the board B, the saved one S, the output line Y -/
def cw (E : xE) (σ : xW) (B : BT) (S : Option BT) (Y : lnQ) : Prop := ∃ (hv : Bool) (se sf nx ct : Int) (SB : BT) (HB : Int → BT) (tx : Int → Int) (ln : Int), CLS E σ hv se sf Y.2 nx ct B SB HB tx ln Y.1 ∧ BIT B ∧ ((0 ≤ nx ∧ nx < 8) ∧ 0 ≤ ct ∧ ct ≤ 8) ∧ ((0 ≤ Y.2 ∧ Y.2 ≤ 35) ∧ ∀ j : Int, chR (Y.1 j)) ∧ S = (if hv = true then some SB else none) ∧ (hv = true → BIT SB)
section CWS
variable {E : xE} {σ u : xW} {B B1 : BT} {S : Option BT} {Y : lnQ}
theorem cw.fr (h : cw E σ B S Y) (f : ∀ j : Nat, j < 85 → u j = σ j) : cw E u B S Y := by
  obtain ⟨hv, se, sf, nx, ct, SB, HB, tx, ln, hC, h1⟩ := h
  exact ⟨hv, se, sf, nx, ct, SB, HB, tx, ln, hC.fr f, h1⟩
theorem cw.bit (h : cw E σ B S Y) : BIT B := by
  obtain ⟨hv, se, sf, nx, ct, SB, HB, tx, ln, hC, h1, h2⟩ := h
  exact h1
theorem cw.o0 (h : cw E σ B S Y) : ∃ fs : List Value, σ 0 = oB 4 fs := by
  obtain ⟨hv, se, sf, nx, ct, SB, HB, tx, ln, hC, h1⟩ := h
  exact ⟨_, hC.1⟩
theorem cw.sq (h : cw E σ B S Y) (q5 : srX E u) (f : ∀ j : Nat, (j < 75 ∨ 75 + 6 ≤ j) → u j = σ j) : cw E u B S Y := by
  obtain ⟨hv, se, sf, nx, ct, SB, HB, tx, ln, hC, h1⟩ := h
  exact ⟨hv, se, sf, nx, ct, SB, HB, tx, ln, hC.sq q5 (fun j _ => f j), h1⟩
theorem cw.qry (h : cw E σ B S Y) (q4 : ∃ X : BT, bdT E u 13 X) (q5 : srX E u) (f : ∀ j : Nat, (j < 13 ∨ 13 + 6 ≤ j) → (j < 75 ∨ 75 + 6 ≤ j) → u j = σ j) : cw E u B S Y := by
  obtain ⟨hv, se, sf, nx, ct, SB, HB, tx, ln, hC, h1⟩ := h
  exact ⟨hv, se, sf, nx, ct, SB, HB, tx, ln, hC.qry q4 q5 (fun j _ => f j), h1⟩
end CWS
section IMP
variable {l : Launch} {E : xE} {ST : xST} {y : MethodName} {ws : List Cond} {rm : Room} {av : List Value} {σ : xW}
theorem CI.imp {P P1 : Int → xW → Prop} (h : CI l E ST y ws rm av σ P) (hp : ∀ z u, P z u → P1 z u) : CI l E ST y ws rm av σ P1 := fun sz => by
  refine MetFree.mono (h sz) (fun _ _ q => q) (fun _ _ _ _ _ q => q) (fun a s o t _ q => ?_)
  obtain ⟨⟨⟨r, u, h1, ⟨z, h2, h3⟩, h4⟩, h5⟩, h6⟩ := q
  exact ⟨⟨⟨r, u, h1, ⟨z, h2, hp z u h3⟩, h4⟩, h5⟩, h6⟩
theorem CV.imp {P P1 : xW → Prop} (h : CV l E ST y ws rm av σ P) (hp : ∀ u, P u → P1 u) : CV l E ST y ws rm av σ P1 := fun sz => by
  refine MetFree.mono (h sz) (fun _ _ q => q) (fun _ _ _ _ _ q => q) (fun a s o t _ q => ?_)
  obtain ⟨⟨⟨u, h1, h3, h4⟩, h5⟩, h6⟩ := q
  exact ⟨⟨⟨u, h1, hp u h3, h4⟩, h5⟩, h6⟩
theorem CL.imp {P P1 : Int64 → xW → Prop} (h : CL l E ST y ws rm av σ P) (hp : ∀ z u, P z u → P1 z u) : CL l E ST y ws rm av σ P1 := fun sz => by
  refine MetFree.mono (h sz) (fun _ _ q => q) (fun _ _ _ _ _ q => q) (fun a s o t _ q => ?_)
  obtain ⟨⟨⟨r, u, h1, h3, h4⟩, h5⟩, h6⟩ := q
  exact ⟨⟨⟨r, u, h1, hp r u h3, h4⟩, h5⟩, h6⟩
theorem CD.imp {P P1 : UInt64 → xW → Prop} (h : CD l E ST y ws rm av σ P) (hp : ∀ z u, P z u → P1 z u) : CD l E ST y ws rm av σ P1 := fun sz => by
  refine MetFree.mono (h sz) (fun _ _ q => q) (fun _ _ _ _ _ q => q) (fun a s o t _ q => ?_)
  obtain ⟨⟨⟨r, u, h1, h3, h4⟩, h5⟩, h6⟩ := q
  exact ⟨⟨⟨r, u, h1, hp r u h3, h4⟩, h5⟩, h6⟩
theorem CF.imp {P P1 : UInt32 → xW → Prop} (h : CF l E ST y ws rm av σ P) (hp : ∀ z u, P z u → P1 z u) : CF l E ST y ws rm av σ P1 := fun sz => by
  refine MetFree.mono (h sz) (fun _ _ q => q) (fun _ _ _ _ _ q => q) (fun a s o t _ q => ?_)
  obtain ⟨⟨⟨r, u, h1, h3, h4⟩, h5⟩, h6⟩ := q
  exact ⟨⟨⟨r, u, h1, hp r u h3, h4⟩, h5⟩, h6⟩
theorem xX.imp {sz : Nat} {X X1 : String → xW → Prop} {st : State} {q : Addr} {t : State} {mc ms : Nat} {free : Addr → Prop} (h : vx_T (xX E sz X) st q t mc ms free) (hp : ∀ n u, X n u → X1 n u) : vx_T (xX E sz X1) st q t mc ms free := by
  obtain ⟨n, ce, L, ⟨u, h1, h2, h3⟩, h5⟩ := h
  exact ⟨n, ce, L, ⟨u, h1, ⟨hp n u h2.1, h2.2⟩, h3⟩, h5⟩
theorem XI.imp {P P1 : Int → xW → Prop} {X X1 : String → xW → Prop} (h : XI l E ST y ws rm av σ P X) (hp : ∀ z u, P z u → P1 z u) (hx : ∀ n u, X n u → X1 n u) : XI l E ST y ws rm av σ P1 X1 := fun sz => by
  refine MetFree.mono (h sz) (fun _ _ q => q) (fun _ _ _ _ _ q => q) (fun a s o t _ q => ?_)
  rcases q with ⟨⟨⟨r, u, h1, ⟨z, h2, h3⟩, h4⟩, h5⟩, h6⟩ | ⟨q, h1, h2⟩
  · exact Or.inl ⟨⟨⟨r, u, h1, ⟨z, h2, hp z u h3⟩, h4⟩, h5⟩, h6⟩
  · exact Or.inr ⟨q, h1, xX.imp h2 hx⟩
theorem XV.imp {P P1 : xW → Prop} {X X1 : String → xW → Prop} (h : XV l E ST y ws rm av σ P X) (hp : ∀ u, P u → P1 u) (hx : ∀ n u, X n u → X1 n u) : XV l E ST y ws rm av σ P1 X1 := fun sz => by
  refine MetFree.mono (h sz) (fun _ _ q => q) (fun _ _ _ _ _ q => q) (fun a s o t _ q => ?_)
  rcases q with ⟨⟨⟨u, h1, h3, h4⟩, h5⟩, h6⟩ | ⟨q, h1, h2⟩
  · exact Or.inl ⟨⟨⟨u, h1, hp u h3, h4⟩, h5⟩, h6⟩
  · exact Or.inr ⟨q, h1, xX.imp h2 hx⟩
theorem XF.imp {P P1 : UInt32 → xW → Prop} {X X1 : String → xW → Prop} (h : XF l E ST y ws rm av σ P X) (hp : ∀ z u, P z u → P1 z u) (hx : ∀ n u, X n u → X1 n u) : XF l E ST y ws rm av σ P1 X1 := fun sz => by
  refine MetFree.mono (h sz) (fun _ _ q => q) (fun _ _ _ _ _ q => q) (fun a s o t _ q => ?_)
  rcases q with ⟨⟨⟨r, u, h1, h3, h4⟩, h5⟩, h6⟩ | ⟨q, h1, h2⟩
  · exact Or.inl ⟨⟨⟨r, u, h1, hp r u h3, h4⟩, h5⟩, h6⟩
  · exact Or.inr ⟨q, h1, xX.imp h2 hx⟩
end IMP
