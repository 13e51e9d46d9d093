/-! ===== the world grows by a cell of the law's own, and loses it again ===== -/
def xE1 (E E1 : xE) (g : Nat) : Prop := E1.1 = E.1 ∧ E1.2.2.1 = E.2.2.1 ∧ g = 85 + xx E ∧ xx E1 = xx E + 1 ∧ ∀ i : Nat, i < 85 + xx E → xad E1 i = xad E i
def xP (E : xE) (r : Nat) : xE := (E.1, (fun i => if i = 85 + xx E then r else xad E i), E.2.2.1, xx E + 1)
section XPS
variable {E E1 : xE} {r g : Nat} {σ u : xW} {e : va_E} {A : Nat → Prop} {H0 H : Heap} {locs : List Loc} {B X : BT} {S : Option BT} {Y : lnQ}
theorem xP_new : xad (xP E r) (85 + xx E) = r := if_pos rfl
theorem xP_1 : xE1 E (xP E r) (85 + xx E) := ⟨rfl, rfl, rfl, rfl, fun i h => if_neg (by omega)⟩
theorem wl_P : wl (xP E r) (wu σ (85 + xx E) e) = wl E σ ++ [(r, e)] := by
  unfold wl
  show (List.range (85 + xx E + 1)).map _ = _
  rw [List.range_succ, List.map_append]
  congr 1
  · apply List.map_congr_left
    intro i hi
    have h := List.mem_range.mp hi
    rw [xP_1.2.2.2.2 i h, wu_n (by omega)]
  · show [(xad (xP E r) (85 + xx E), wu σ (85 + xx E) e (85 + xx E))] = _
    rw [xP_new, wu_s]
theorem xE1.lt (h : xE1 E E1 g) : 85 ≤ g ∧ g < 85 + xx E1 ∧ xx E1 = xx E + 1 ∧ g = 85 + xx E := by
  obtain ⟨-, -, h1, h2, -⟩ := h
  omega
theorem xE1.I (h : xE1 E E1 g) : xI E1 = xI E := congrArg (fun q => q.1) h.2.1
theorem xE1.C (h : xE1 E E1 g) : xC E1 = xC E := congrArg (fun q => q.2.1) h.2.1
theorem xE1.Bd (h : xE1 E E1 g) : xBd E1 = xBd E := congrArg (fun q => q.2.2.1) h.2.1
theorem xE1.T (h : xE1 E E1 g) : xT E1 = xT E := congrArg (fun q => [(q.1, FieldType.int), (q.2.1, .char), (q.2.2.1, .object "BrambleShift$Board"), (q.2.2.2, .byte)]) h.2.1
theorem xE1.aI (h : xE1 E E1 g) {n : Nat} {f : Int → Int} : aI E1 n f = aI E n f := by
  show (Sum.inl (xI E1, n, Sum.inl (ar f)) : va_E) = Sum.inl (xI E, n, Sum.inl (ar f))
  rw [h.I]
theorem xE1.K {s : State} (h : xE1 E E1 g) (hK : va_K E.1 vwCl (xT E) s) : va_K E1.1 vwCl (xT E1) s := by
  rw [h.1, h.T]
  exact hK
theorem xE1.K0 {s : State} (h : xE1 E E1 g) (hK : va_K E1.1 vwCl (xT E1) s) : va_K E.1 vwCl (xT E) s := by
  rw [h.1, h.T] at hK
  exact hK
/-- the same parts of a world, at addresses that are the same -/
def xEq (E E1 : xE) : Prop := E1.2.2.1 = E.2.2.1 ∧ ∀ i : Nat, i < 85 → xad E1 i = xad E i
theorem xE1.eq (h : xE1 E E1 g) : xEq E E1 := ⟨h.2.1, fun i hi => h.2.2.2.2 i (by omega)⟩
theorem xEq.sy (h : xEq E E1) : xEq E1 E := ⟨h.1.symm, fun i hi => (h.2 i hi).symm⟩
theorem xEq.I (h : xEq E E1) : xI E1 = xI E := congrArg (fun q => q.1) h.1
theorem xEq.C (h : xEq E E1) : xC E1 = xC E := congrArg (fun q => q.2.1) h.1
theorem xEq.Bd (h : xEq E E1) : xBd E1 = xBd E := congrArg (fun q => q.2.2.1) h.1
theorem xEq.aI (h : xEq E E1) {n : Nat} {f : Int → Int} : aI E1 n f = aI E n f := by
  show (Sum.inl (xI E1, n, Sum.inl (ar f)) : va_E) = Sum.inl (xI E, n, Sum.inl (ar f))
  rw [h.I]
theorem xEq.aC (h : xEq E E1) {n : Nat} {f : Int → Int} : aC E1 n f = aC E n f := by
  show (Sum.inl (xC E1, n, Sum.inl (ar f)) : va_E) = Sum.inl (xC E, n, Sum.inl (ar f))
  rw [h.C]
theorem bdT_mv (q : xEq E E1) {b : Nat} (hb : b + 6 ≤ 85) (h : bdT E σ b B) (f : ∀ j : Nat, b ≤ j → j < b + 6 → u j = σ j) : bdT E1 u b B := by
  obtain ⟨h0, h1, h2, h3, h4, ro, h5⟩ := h
  have eI := q.I
  refine ⟨?_, ?_, ?_, ?_, ?_, ro, ?_⟩
  · rw [f b (by omega) (by omega), h0, q.2 (b + 1) (by omega), q.2 (b + 2) (by omega), q.2 (b + 3) (by omega), q.2 (b + 4) (by omega), q.2 (b + 5) (by omega)]
  · rw [f (b + 1) (by omega) (by omega), h1, q.aI]
  · rw [f (b + 2) (by omega) (by omega), h2, q.aI]
  · rw [f (b + 3) (by omega) (by omega), h3, q.aI]
  · rw [f (b + 4) (by omega) (by omega), h4, q.aI]
  · rw [f (b + 5) (by omega) (by omega), h5, q.aI]
theorem cw_mv (q : xEq E E1) (h : cw E σ B S Y) (f : ∀ j : Nat, j < 85 → j ≠ 74 → u j = σ j) (h74 : u 74 = hRow E1) : cw E1 u B S Y := by
  obtain ⟨hv, se, sf, nx, ct, SB, HB, tx, ln, hC, hBI, hnc, hlq, hS, hSB⟩ := h
  obtain ⟨c0, ⟨c1, -⟩, c2, ⟨X7, c3⟩, ⟨X13, c4⟩, c5, c6, ⟨le, rl, fs, qu, gr, d0, d1, d2, d3, d4, d5⟩, ⟨cs, cm, va, ⟨e0, e1, e2⟩, hv9⟩, c9⟩ := hC
  have eI := q.I
  have eC := q.C
  have a := q.2
  refine ⟨hv, se, sf, nx, ct, SB, HB, tx, ln, ⟨?_, ⟨?_, h74⟩, bdT_mv q (by omega) c2 (fun j _ _ => f j (by omega) (by omega)), ⟨X7, bdT_mv q (by omega) c3 (fun j _ _ => f j (by omega) (by omega))⟩, ⟨X13, bdT_mv q (by omega) c4 (fun j _ _ => f j (by omega) (by omega))⟩, bdT_mv q (by omega) c5 (fun j _ _ => f j (by omega) (by omega)), fun i i0 i1 => ?_, ⟨le, rl, fs, qu, gr, ?_, ?_, ?_, ?_, ?_, ?_⟩, ⟨cs, cm, va, ⟨?_, ?_, ?_⟩, hv9⟩, ?_⟩, hBI, hnc, hlq, hS, hSB⟩
  · show u 0 = oB 4 _
    rw [f 0 (by omega) (by omega), c0, a 1 (by omega), a 7 (by omega), a 13 (by omega), a 19 (by omega), a 73 (by omega), a 75 (by omega), a 81 (by omega), a 84 (by omega)]
  · rw [f 73 (by omega) (by omega), c1, a 74 (by omega)]
  · have hb := hsl_rg i0 i1
    exact bdT_mv q (by omega) (c6 i i0 i1) (fun j _ _ => f j (by omega) (by omega))
  · rw [f 75 (by omega) (by omega), d0, a 76 (by omega), a 77 (by omega), a 78 (by omega), a 79 (by omega), a 80 (by omega)]
  · rw [f 76 (by omega) (by omega), d1, q.aI]
  · rw [f 77 (by omega) (by omega), d2, q.aI]
  · rw [f 78 (by omega) (by omega), d3, q.aI]
  · rw [f 79 (by omega) (by omega), d4, q.aI]
  · rw [f 80 (by omega) (by omega), d5, q.aI]
  · rw [f 81 (by omega) (by omega), e0, a 82 (by omega), a 83 (by omega)]
  · rw [f 82 (by omega) (by omega), e1, q.aC]
  · rw [f 83 (by omega) (by omega), e2, q.aI]
  · show u 84 = _
    rw [f 84 (by omega) (by omega)]
    refine Eq.trans c9 ?_
    rw [q.aC]
theorem cw.r74 (h : cw E σ B S Y) : σ 74 = hRow E := by
  obtain ⟨hv, se, sf, nx, ct, SB, HB, tx, ln, hC, h1⟩ := h
  exact hC.2.1.2
theorem hRow_cell (q : xEq E E1) : vp_cell (xBd E) (8, .inr (.inr (.inr (.inr (fun j => some (xad E (25 + 6 * j))))))) = vp_cell (xBd E) (8, .inr (.inr (.inr (.inr (fun j => some (xad E1 (25 + 6 * j))))))) := by
  rw [vp_cell_q, vp_cell_q]
  unfold arrV
  congr 1
  apply Array.ext
  · simp
  · intro i h1 h2
    have h3 : i < 8 := by simp at h1; omega
    simp [q.2 (25 + 6 * i) (by omega)]
theorem x_cell {cA : ClassId} {a b : vp_A} (k0 : Nat) (hk0 : k0 < 85 + xx E) (he : σ k0 = .inl (cA, a)) (h : vp_cell cA a = vp_cell cA b) (hH : Hx E A H0 σ H locs) : Hx E A H0 (wu σ k0 (.inl (cA, b))) H locs := by
  obtain ⟨hP, hD, hS, hA⟩ := hH
  have e : va_at E.1 vwCl (xad E k0, .inl (cA, b)) H := by
    have h1 : H[xad E k0]? = some (vp_cell cA a) := hP k0 _ (wl_get hk0 he)
    show H[xad E k0]? = some (vp_cell cA b)
    rw [h1, h]
  exact ⟨by have h9 := hP.set hD (wl_get hk0 he) e (fun _ _ => rfl); rw [wl_set] at h9; exact h9, by have h9 := hD.set (e := .inl (cA, b)) (wl_get hk0 he); rw [wl_set] at h9; exact h9, hS, hA⟩
/-- one cell more -/
theorem Hx.push {q : Nat} (hc : cw E σ B S Y) (hP : va_P E.1 vwCl (wl E σ ++ [(q, e)]) H) (hD : va_D A (wl E σ ++ [(q, e)])) (hS : va_S A H0 H locs) (hA : ∀ a : Nat, H0.size ≤ a → A a) : ∃ (E1 : xE) (g : Nat) (u : xW), xE1 E E1 g ∧ Hx E1 A H0 u H locs ∧ cw E1 u B S Y ∧ u g = e ∧ (∀ j : Nat, 85 ≤ j → j ≠ g → u j = σ j) ∧ xad E1 g = q := by
  have h1 : Hx (xP E q) A H0 (wu σ (85 + xx E) e) H locs := ⟨by rw [wl_P]; exact hP, by rw [wl_P]; exact hD, hS, hA⟩
  have e1 : xEq E (xP E q) := xP_1.eq
  have h2 := x_cell (E := xP E q) (cA := xBd (xP E q)) 74 (ltw (by decide)) ((wu_n (by omega)).trans hc.r74) (hRow_cell e1) h1
  refine ⟨xP E q, 85 + xx E, _, xP_1, h2, cw_mv e1 hc (fun j h0 h3 => ?_) wu_s, ?_, fun j h0 h3 => ?_, xP_new⟩
  · rw [wu_n (by omega), wu_n (by omega)]
  · rw [wu_n (by omega), wu_s]
  · rw [wu_n (by omega), wu_n h3]
/-- .. and away with it -/
theorem Hx.pop (hE : xE1 E E1 g) (hc : cw E1 u B S Y) (hH : Hx E1 A H0 u H locs) (hf : ∀ j : Nat, 85 ≤ j → j ≠ g → u j = σ j) : ∃ v : xW, Hx E A H0 v H locs ∧ cw E v B S Y ∧ ∀ j : Nat, 85 ≤ j → v j = σ j := by
  have q1 : xEq E1 E := hE.eq.sy
  have hlt := hE.lt
  have h1 := x_cell (E := E1) (cA := xBd E1) 74 (by omega) hc.r74 (hRow_cell q1) hH
  refine ⟨fun j => if j = 74 then hRow E else if j = g then σ g else u j, ?_, cw_mv q1 hc (fun j h0 h3 => ?_) (if_pos rfl), fun j h0 => ?_⟩
  · have key : ∀ k : Nat, k < 85 + xx E → (xad E k, (fun j => if j = 74 then hRow E else if j = g then σ g else u j) k) = (xad E1 k, wu u 74 (.inl (xBd E1, 8, .inr (.inr (.inr (.inr (fun j => some (xad E (25 + 6 * j)))))))) k) := by
      intro k hk
      rw [hE.2.2.2.2 k hk]
      by_cases h9 : k = 74
      · subst h9
        rw [wu_s]
        show (_, if 74 = 74 then hRow E else _) = _
        rw [if_pos rfl]
        show (_, Sum.inl (xBd E, _)) = _
        rw [hE.Bd]
      · rw [wu_n h9]
        show (_, if k = 74 then _ else if k = g then _ else _) = _
        rw [if_neg h9, if_neg (by omega)]
    have hw : ∀ (k : Nat) (x : Nat × va_E), (wl E (fun j => if j = 74 then hRow E else if j = g then σ g else u j))[k]? = some x → (wl E1 (wu u 74 (.inl (xBd E1, 8, .inr (.inr (.inr (.inr (fun j => some (xad E (25 + 6 * j))))))))))[k]? = some x := by
      intro k x hx
      have hk := wl_lt hx
      rw [wl_get hk rfl] at hx
      rw [wl_get (by omega) rfl, ← hx, key k hk]
    obtain ⟨hP, hD, hS, hA⟩ := h1
    refine ⟨fun k x hx => ?_, ⟨fun i j p q hp hq => hD.1 i j p q (hw i p hp) (hw j q hq), fun k x hx => hD.2 k x (hw k x hx)⟩, hS, hA⟩
    have h2 := hP k x (hw k x hx)
    rw [hE.1] at h2
    exact h2
  · show (if j = 74 then _ else if j = g then _ else _) = _
    rw [if_neg h3, if_neg (by omega)]
  · show (if j = 74 then _ else if j = g then _ else _) = _
    rw [if_neg (by omega)]
    by_cases h9 : j = g
    · rw [if_pos h9, h9]
    · rw [if_neg h9]
      exact hf j h0 h9
end XPS
section XNR
variable {p : Program} {l : Launch} {e : Env} {R : Room} {s : State} {m : MethodId} {args : Array Value} {below : List Frame} {meth : Method} {c : Code} {H : Heap} {locs : List Loc} {cells slots : Nat} {Q : State → Prop}
variable {cc : ByteArray} {pc : Nat} {ls : Array Slot} {rest st0 : List Value} {E : xE} {ST : xST} {A : Nat → Prop} {σ : xW} {Ts : List Cond} {own : String} {nL : Nat} {B : BT} {S : Option BT} {Y : lnQ}
theorem cell_i0 (N : Nat) (cA : ClassId) : vp_cell cA (N, .inl (ar (fun _ => 0))) = arrV cA N (fun _ => defaultValue .int) := rfl
/-- a new row of ints -/
theorem x_newI (hx : p.tables.exec = Jvm.exec) (hb : c.code = cc) (hts : ∀ w ∈ Ts, w.before args s = true) (hK : va_K E.1 vwCl (xT E) s) (hH : Hx E A s.heap σ H locs) (hc : cw E σ B S Y) (harr : Cond.arrayClass .int ∈ Ts) {n : Int} {N : Nat} (hn : n = (N : Int)) (hN : N ≤ 1000) (hcells : cells + 1 ≤ R.cells) (hslots : slots + N ≤ R.slots) (hdg : decode cc pc = .ok (.newarray .int, 2))
    (kk : ∀ (E1 : xE) (g : Nat) (u : xW) (H1 : Heap), xE1 E E1 g → va_K E1.1 vwCl (xT E1) s → Hx E1 A s.heap u H1 locs → cw E1 u B S Y → u g = aI E1 N (fun _ => 0) → (∀ j : Nat, 85 ≤ j → j ≠ g → u j = σ j) → W p l e R s m args below meth c H1 locs (cells + 1) (slots + N) Q (F0 m (pc + 2) ls (.ref (xad E1 g) :: rest))) : W p l e R s m args below meth c H locs cells slots Q (F0 m pc ls (.int (iZ n) :: rest)) := by
  subst hn
  refine va_newa (atype := .int) (ty := .int) (N' := N) (a0 := (N, .inl (ar (fun _ => 0)))) hx hb (hts _ harr) rfl hK hH.1 hH.2.1 hH.2.2.1 hH.2.2.2 (cell_i0 N) (by rw [← iZ_0, iZ_lt ⟨by omega, by omega⟩ ⟨by omega, by omega⟩]; omega) (by rw [iZ_clamp (by omega) (by omega)]; omega) (by have h9 : N * componentBytes FieldType.int ≤ 1000 * 8 := Nat.mul_le_mul hN (by decide); omega) hcells hslots hdg (fun q cB H1 hK1 hP hD hS => ?_)
  have h1 : va_RA s cB .int := (hK1.2 (xT E).length (cB, .int) (by simp)).2
  have h2 : cB = xI E := Option.some.inj ((show s.vm.findClass _ = some cB from h1).symm.trans (hK.2 0 _ rfl).2)
  subst h2
  obtain ⟨E1, g, u, hE, h3, h4, h5, h6, h7⟩ := Hx.push hc hP hD hS hH.2.2.2
  rw [← h7]
  exact kk E1 g u H1 hE (hE.K hK) h3 h4 (by rw [h5, ← hE.I]) h6
end XNR
