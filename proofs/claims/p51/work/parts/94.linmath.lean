/-! ===== the lines: the law's own numbers ===== -/
section LNW
variable {E0 E E1 E2 : xE} {u v : xW} {L M : List Int} {B : BT} {S : Option BT} {Y : lnQ} {A : Nat → Prop} {H0 H : Heap} {locs : List Loc} {Z : zE}
theorem wl_ext {σ τ : xW} (h : ∀ i : Nat, i < 85 + xx E → σ i = τ i) : wl E σ = wl E τ := by
  unfold wl
  apply List.map_congr_left
  intro i hi
  rw [h i (List.mem_range.mp hi)]
theorem Hx.top2 (hx : xEx E0 E1 2) (hc : cw E1 u B S Y) (hH : Hx E1 A H0 u H locs) {σ0 : xW} (hf : ∀ j : Nat, 85 ≤ j → j < 85 + xx E0 → u j = σ0 j) : ∃ w : xW, cw E0 w B S Y ∧ (∀ j : Nat, 85 ≤ j → w j = σ0 j) ∧ Hx E0 A H0 w H locs := by
  obtain ⟨w, a, b, c9⟩ := Hx.top hx hc hH
  have e : wl E0 (fun j => if j < 85 + xx E0 then w j else σ0 j) = wl E0 w := wl_ext (fun i hi => if_pos hi)
  refine ⟨fun j => if j < 85 + xx E0 then w j else σ0 j, a.fr (fun j hj => if_pos (by omega)), fun j j0 => ?_, ?_⟩
  · show (if j < 85 + xx E0 then w j else σ0 j) = σ0 j
    by_cases h : j < 85 + xx E0
    · rw [if_pos h, b j j0 h]
      exact hf j j0 h
    · rw [if_neg h]
  · obtain ⟨hP, hD, hS, hA⟩ := c9
    exact ⟨by rw [e]; exact hP, by rw [e]; exact hD, hS, hA⟩
theorem BW.mv2 (h : BW E E1 u L) (f : ∀ j : Nat, 85 ≤ j → j < 85 + xx E1 → v j = u j) : BW E E1 v L := by
  obtain ⟨hx, N, G, h1, h2, h3⟩ := h
  have e1 := hx.2.2.1
  exact ⟨hx, N, G, (f _ (by omega) (by omega)).trans h1, (f _ (by omega) (by omega)).trans h2, h3⟩
theorem TX9.mv2 {w : Value} (h : TX9 Z E E1 u w L) (f : ∀ j : Nat, 85 ≤ j → j < 85 + xx E1 → v j = u j) : TX9 Z E E1 v w L := by
  rcases h with h | ⟨⟨hx, F, h1, h2, h3⟩, h4⟩
  · exact Or.inl h
  · have e1 := hx.2.2.1
    exact Or.inr ⟨⟨hx, F, (f _ (by omega) (by omega)).trans h1, (f _ (by omega) (by omega)).trans h2, h3⟩, h4⟩
theorem BW.eq (h : BW E E1 u L) (e : L = M) : BW E E1 u M := e ▸ h
theorem TW.eq (h : TW E E1 u L) (e : L = M) : TW E E1 u M := e ▸ h
end LNW
/-! free lines -/
def frN (pn r : Int) : Nat → Int
  | 0 => 3
  | n + 1 => iandZ (iandZ (frN pn r n) (if fixP pn (r * 5 + (n : Int)) then 2 else 3)) (if fixP pn ((n : Int) * 5 + r) then 1 else 3)
def frK (pn r k : Int) : Int := frN pn r k.toNat
theorem frK_s {pn r k : Int} (h : 0 ≤ k) : frK pn r (k + 1) = iandZ (iandZ (frK pn r k) (if fixP pn (r * 5 + k) then 2 else 3)) (if fixP pn (k * 5 + r) then 1 else 3) := by
  unfold frK
  rw [show (k + 1).toNat = k.toNat + 1 by omega]
  show iandZ (iandZ (frN pn r k.toNat) (if fixP pn (r * 5 + ((k.toNat : Nat) : Int)) then 2 else 3)) (if fixP pn (((k.toNat : Nat) : Int) * 5 + r) then 1 else 3) = _
  rw [Int.toNat_of_nonneg h]
theorem fr_tab : ∀ p q a b : Bool, iandZ (iandZ (b2 p + 2 * b2 q) (if a = true then 2 else 3)) (if b = true then 1 else 3) = b2 (p && !a) + 2 * b2 (q && !b) := by decide +kernel
theorem dB_step {P : Int → Prop} {n : Nat} : dB (∀ j : Int, 0 ≤ j → j < ((n + 1 : Nat) : Int) → ¬ P j) = (dB (∀ j : Int, 0 ≤ j → j < ((n : Nat) : Int) → ¬ P j) && !dB (P (n : Int))) := by
  by_cases h : ∀ j : Int, 0 ≤ j → j < ((n : Nat) : Int) → ¬ P j
  · rw [dB_t h]
    by_cases g : P (n : Int)
    · rw [dB_t g, dB_f (fun q => q (n : Int) (by omega) (by omega) g)]
      rfl
    · rw [dB_f g, dB_t (fun j j0 j1 => by
        by_cases e : j = (n : Int)
        · rw [e]; exact g
        · exact h j j0 (by omega))]
      rfl
  · rw [dB_f h, dB_f (fun q => h (fun j j0 j1 => q j j0 (by omega)))]
    rfl
theorem frN_is {pn r : Int} : ∀ n : Nat, frN pn r n = b2 (dB (∀ j : Int, 0 ≤ j → j < (n : Int) → ¬ fixP pn (r * 5 + j * 1))) + 2 * b2 (dB (∀ j : Int, 0 ≤ j → j < (n : Int) → ¬ fixP pn (r + j * 5))) := by
  intro n
  induction n with
  | zero =>
    rw [dB_t (fun j j0 j1 => by omega), dB_t (fun j j0 j1 => by omega)]
    rfl
  | succ n ih =>
    show iandZ (iandZ (frN pn r n) (if fixP pn (r * 5 + (n : Int)) then 2 else 3)) (if fixP pn ((n : Int) * 5 + r) then 1 else 3) = _
    rw [dB_step (P := fun j => fixP pn (r * 5 + j * 1)), dB_step (P := fun j => fixP pn (r + j * 5)), ih, ← fr_tab]
    have e1 : (if fixP pn (r * 5 + (n : Int)) then (2 : Int) else 3) = (if dB (fixP pn (r * 5 + (n : Int) * 1)) = true then 2 else 3) := by
      rw [show r * 5 + (n : Int) * 1 = r * 5 + (n : Int) by omega]
      by_cases g : fixP pn (r * 5 + (n : Int))
      · rw [if_pos g, if_pos (dB_t g)]
      · rw [if_neg g, if_neg (by rw [dB_f g]; decide)]
    have e2 : (if fixP pn ((n : Int) * 5 + r) then (1 : Int) else 3) = (if dB (fixP pn (r + (n : Int) * 5)) = true then 1 else 3) := by
      rw [show r + (n : Int) * 5 = (n : Int) * 5 + r by omega]
      by_cases g : fixP pn ((n : Int) * 5 + r)
      · rw [if_pos g, if_pos (dB_t g)]
      · rw [if_neg g, if_neg (by rw [dB_f g]; decide)]
    rw [e1, e2]
theorem frK_5 {pn r : Int} : frK pn r 5 = b2 (lfB pn (r * 5) 1) + 2 * b2 (lfB pn r 5) := frN_is 5
/-! letters -/
theorem rw12 {op lk kp wc : Int → Int} {pn nw r : Int} : ∀ n : Nat, (rwN op lk kp wc pn nw r n).length ≤ 12 * n := by
  intro n
  induction n with
  | zero => exact Nat.le_refl _
  | succ n ih =>
    have h := rwL_s (op := op) (lk := lk) (kp := kp) (wc := wc) (pn := pn) (nw := nw) (r := r) (n := (n : Int)) (by omega)
    unfold rwL at h
    rw [show ((n : Int) + 1).toNat = n + 1 by omega, Int.toNat_natCast] at h
    rw [h, List.length_append, List.length_append]
    have h1 := tlL_11 (op := op) (lk := lk) (kp := kp) (wc := wc) (pn := pn) (nw := nw) (cell := r * 5 + (n : Int))
    have h2 : (if (n : Int) = 0 then ([] : List Int) else [32]).length ≤ 1 := by split <;> simp
    omega
theorem rw48 {op lk kp wc : Int → Int} {pn nw r k : Int} (h0 : 0 ≤ k) (h : k ≤ 4) : (rwL op lk kp wc pn nw r k).length ≤ 48 := by
  have h1 := rw12 (op := op) (lk := lk) (kp := kp) (wc := wc) (pn := pn) (nw := nw) (r := r) k.toNat
  unfold rwL
  omega
theorem rw_ne {op lk kp wc : Int → Int} {pn nw r : Int} : ¬ rwL op lk kp wc pn nw r 5 = [] := by
  intro h
  have h1 := rwL_s (op := op) (lk := lk) (kp := kp) (wc := wc) (pn := pn) (nw := nw) (r := r) (n := 4) (by decide)
  rw [show (4 : Int) + 1 = 5 by decide, h] at h1
  have h2 := (tlL_len (op := op) (lk := lk) (kp := kp) (wc := wc) (pn := pn) (nw := nw) (cell := r * 5 + 4)).2
  have h3 := congrArg List.length h1
  rw [List.length_append] at h3
  have h4 : ([] : List Int).length = 0 := rfl
  omega
theorem ky6 {kp : Int → Int} {ce n : Int} (h0 : 0 ≤ n) : ((kyL kp ce n).length : Int) ≤ n := by
  have key : ∀ n : Nat, (kyN kp ce n).length ≤ n := by
    intro n
    induction n with
    | zero => exact Nat.le_refl _
    | succ n ih =>
      have h := kyL_s (kp := kp) (cell := ce) (n := (n : Int)) (by omega)
      unfold kyL at h
      rw [show ((n : Int) + 1).toNat = n + 1 by omega, Int.toNat_natCast] at h
      rw [h, List.length_append]
      have h2 : (if kp (n : Int) = ce then [97 + (n : Int)] else ([] : List Int)).length ≤ 1 := by split <;> simp
      omega
  have h := key n.toNat
  unfold kyL
  omega
theorem sL_sep {k i : Int} (h : (k = 0 ∧ i = 0) ∨ (¬ k = 0 ∧ i = 1)) : sL i = (if k = 0 then [] else [32]) := by
  rcases h with ⟨h, rfl⟩ | ⟨h, rfl⟩
  · rw [if_pos h]; rfl
  · rw [if_neg h]; rfl
theorem sL_pin {pn ce i : Int} (h : (fixP pn ce ∧ i = 3) ∨ (¬ fixP pn ce ∧ i = 0)) : sL i = pinL pn ce := by
  unfold pinL
  rcases h with ⟨h, rfl⟩ | ⟨h, rfl⟩
  · rw [if_pos h]; rfl
  · rw [if_neg h]; rfl
theorem sL_wk {wc : Int → Int} {nw ce : Int} : sL (wkI wc nw ce) = wkL wc nw ce := by
  unfold wkI wkL
  split <;> rfl
theorem wkI_b {wc : Int → Int} {nw ce : Int} : wkI wc nw ce = 0 ∨ wkI wc nw ce = 5 := by
  unfold wkI
  split
  · exact Or.inr rfl
  · exact Or.inl rfl
theorem sL1 {i : Int} (h : i = 0 ∨ i = 1 ∨ i = 3 ∨ i = 4 ∨ i = 5) : (sL i).length ≤ 1 := by
  rcases h with rfl | rfl | rfl | rfl | rfl <;> decide
theorem hex_at : ∀ n : Nat, n < 16 → scZ 2 (n : Int) = tlC (n : Int) ∧ 0 ≤ tlC (n : Int) ∧ tlC (n : Int) ≤ 127 := by decide +kernel
theorem hexZ {o : Int} (h : 0 ≤ o ∧ o ≤ 15) : scZ 2 o = tlC o ∧ 0 ≤ tlC o ∧ tlC o ≤ 127 := by
  have h1 := hex_at o.toNat (by omega)
  rw [Int.toNat_of_nonneg h.1] at h1
  exact h1
theorem lk2 {lk : Int → Int} {ce : Int} : (lkL lk ce).length ≤ 2 := by
  unfold lkL
  split <;> simp
theorem tile_eq {op lk kp wc : Int → Int} {pn nw r k : Int} {X : List Int} (h0 : 0 ≤ k) (h : X = rwL op lk kp wc pn nw r k ++ (if k = 0 then [] else [32]) ++ [tlC (op (r * 5 + k))] ++ pinL pn (r * 5 + k) ++ lkL lk (r * 5 + k) ++ wkL wc nw (r * 5 + k)) : X ++ kyL kp (r * 5 + k) 6 = rwL op lk kp wc pn nw r (k + 1) := by
  rw [rwL_s h0, h]
  unfold tlL
  simp only [List.append_assoc]
theorem pt_keep : ∀ (L : List Int) (f : Int → Int) (n i : Int), i < n → (List.foldl ptF (f, n) L).1 i = f i := by
  intro L
  induction L with
  | nil => intro f n i _; rfl
  | cons c9 L ih =>
    intro f n i h
    show (List.foldl ptF (ui f n c9, n + 1) L).1 i = f i
    rw [ih _ _ _ (by omega), ui_n (by omega)]
theorem pt_get : ∀ (L : List Int) (f : Int → Int) (n : Int) (j : Nat), j < L.length → (List.foldl ptF (f, n) L).1 (n + (j : Int)) = L.getD j 0 := by
  intro L
  induction L with
  | nil => intro f n j h; exact absurd h (by simp)
  | cons c9 L ih =>
    intro f n j h
    show (List.foldl ptF (ui f n c9, n + 1) L).1 (n + (j : Int)) = _
    cases j with
    | zero =>
      rw [pt_keep _ _ _ _ (by omega), show n + ((0 : Nat) : Int) = n by omega, ui_s]
      rfl
    | succ j =>
      rw [show n + ((j + 1 : Nat) : Int) = n + 1 + (j : Int) by omega, ih _ _ _ (by simpa using h)]
      rfl
theorem lnY_is {B : BT} {Y : lnQ} {r : Int} (hr : 0 ≤ r ∧ r < 5) : (lnY B Y r).2 = ((rwL (opT B) (lkT B) (kpT B) (wcT B) (pnT B) (nwT B) r 5).length : Int) ∧ ∀ j : Nat, j < (rwL (opT B) (lkT B) (kpT B) (wcT B) (pnT B) (nwT B) r 5).length → (lnY B Y r).1 (j : Int) = (rwL (opT B) (lkT B) (kpT B) (wcT B) (pnT B) (nwT B) r 5).getD j 0 := by
  have h35 := rwL_35 (op := opT B) (lk := lkT B) (kp := kpT B) (wc := wcT B) (pn := pnT B) (nw := nwT B) (r := r) ⟨hr.1, by omega⟩
  have hpt : lnY B Y r = List.foldl ptF (Y.1, 0) (rwL (opT B) (lkT B) (kpT B) (wcT B) (pnT B) (nwT B) r 5) := wr_pt _ _ (by show (0 : Int) + _ ≤ 35; omega)
  rw [hpt]
  refine ⟨?_, fun j hj => ?_⟩
  · rw [pt_len]
    show (0 : Int) + _ = _
    omega
  · have h := pt_get _ Y.1 0 j hj
    rw [Int.zero_add] at h
    exact h
