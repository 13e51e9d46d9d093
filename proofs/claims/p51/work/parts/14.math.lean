/-- how many of the first n places of f hold x -/
def cntN (f : Int → Int) (x : Int) : Nat → Int
  | 0 => 0
  | n + 1 => cntN f x n + (if f (n : Int) = x then 1 else 0)
def cntK (f : Int → Int) (x : Int) (n : Int) : Int := cntN f x n.toNat
theorem cntK_s {f : Int → Int} {x n : Int} (h : 0 ≤ n) : cntK f x (n + 1) = cntK f x n + (if f n = x then 1 else 0) := by
  unfold cntK
  have e : (n + 1).toNat = n.toNat + 1 := by omega
  rw [e]
  show cntN f x n.toNat + (if f ((n.toNat : Nat) : Int) = x then 1 else 0) = _
  rw [Int.toNat_of_nonneg h]
/-- how many of the first n places P holds at -/
def cnbN (P : Int → Bool) : Nat → Int
  | 0 => 0
  | n + 1 => cnbN P n + b2 (P (n : Int))
def cnbK (P : Int → Bool) (n : Int) : Int := cnbN P n.toNat
theorem cnbK_s {P : Int → Bool} {n : Int} (h : 0 ≤ n) : cnbK P (n + 1) = cnbK P n + b2 (P n) := by
  unfold cnbK
  have e : (n + 1).toNat = n.toNat + 1 := by omega
  rw [e]
  show cnbN P n.toNat + b2 (P ((n.toNat : Nat) : Int)) = _
  rw [Int.toNat_of_nonneg h]
/-- a sum over the first n places -/
def smN (f : Int → Int) : Nat → Int
  | 0 => 0
  | n + 1 => smN f n + f (n : Int)
def smK (f : Int → Int) (n : Int) : Int := smN f n.toNat
theorem smK_s {f : Int → Int} {n : Int} (h : 0 ≤ n) : smK f (n + 1) = smK f n + f n := by
  unfold smK
  have e : (n + 1).toNat = n.toNat + 1 := by omega
  rw [e]
  show smN f n.toNat + f ((n.toNat : Nat) : Int) = _
  rw [Int.toNat_of_nonneg h]
noncomputable def dB (P : Prop) : Bool := @decide P (Classical.propDecidable P)
theorem dB_t {P : Prop} (h : P) : dB P = true := @decide_eq_true P (Classical.propDecidable P) h
theorem dB_f {P : Prop} (h : ¬ P) : dB P = false := @decide_eq_false P (Classical.propDecidable P) h
theorem of_dB_t {P : Prop} (h : dB P = true) : P := @of_decide_eq_true P (Classical.propDecidable P) h
theorem of_dB_f {P : Prop} (h : dB P = false) : ¬ P := @of_decide_eq_false P (Classical.propDecidable P) h
theorem dB_iff {P Q : Prop} (h : P ↔ Q) : dB P = dB Q := by rw [propext h]
theorem dB_decide {P : Prop} (i : Decidable P) : dB P = decide P := by
  cases h : decide P with
  | true => exact dB_t (of_decide_eq_true h)
  | false => exact dB_f (of_decide_eq_false h)
def cellZ (r c : Int) : Int := if (0 ≤ r ∧ r ≤ 4) ∧ (0 ≤ c ∧ c ≤ 4) then 5 * r + c else 0
/-! remainders and shifts at small numbers -/
theorem fm_tab : ∀ n : Nat, n < 13 → (¬ ixorZ ((n : Int) - 4) 5 < 0 → Int.tmod ((n : Int) - 4) 5 = ((n : Int) - 4) % 5) ∧ (ixorZ ((n : Int) - 4) 5 < 0 → ¬ Int.tmod ((n : Int) - 4) 5 = 0 → Int.tmod ((n : Int) - 4) 5 + 5 = ((n : Int) - 4) % 5) ∧ (Int.tmod ((n : Int) - 4) 5 = 0 → Int.tmod ((n : Int) - 4) 5 = ((n : Int) - 4) % 5) := by decide +kernel
theorem fm_of {x : Int} (h0 : -4 ≤ x) (h1 : x ≤ 8) : (¬ ixorZ x 5 < 0 → Int.tmod x 5 = x % 5) ∧ (ixorZ x 5 < 0 → ¬ Int.tmod x 5 = 0 → Int.tmod x 5 + 5 = x % 5) ∧ (Int.tmod x 5 = 0 → Int.tmod x 5 = x % 5) := by
  have h := fm_tab (x + 4).toNat (by omega)
  have e : (((x + 4).toNat : Nat) : Int) - 4 = x := by omega
  rw [e] at h
  exact h
theorem iZ_divT {a b : Int} (ha : rg a) (hb0 : 0 < b) (hb1 : b ≤ 2147483647) : iZ a / iZ b = iZ (a.tdiv b) := by
  apply Int32.toInt_inj.mp
  have h3 : (a.tdiv b).natAbs = a.natAbs / b.natAbs := Int.natAbs_tdiv a b
  have h4 := Nat.div_le_self a.natAbs b.natAbs
  have h5 : rg (a.tdiv b) := by
    have h6 := ha.1
    have h7 := ha.2
    constructor
    · by_cases h8 : 0 ≤ a
      · have := Int.tdiv_nonneg h8 (by omega : 0 ≤ b); omega
      · omega
    · by_cases h8 : 0 ≤ a
      · omega
      · have h9 := Int.tdiv_nonneg (a := -a) (b := b) (by omega) (by omega)
        rw [Int.neg_tdiv] at h9
        omega
  rw [Int32.toInt_div_of_ne_right _ _ (iZ_nem hb0 hb1), iZ_toInt ha, iZ_toInt ⟨by omega, hb1⟩, iZ_toInt h5]
section XRT
variable {p : Program} {l : Launch} {e : Env} {R : Room} {s : State} {m : MethodId} {args : Array Value} {below : List Frame} {meth : Method} {c : Code} {H : Heap} {locs : List Loc} {cells slots : Nat} {Q : State → Prop}
variable {cc : ByteArray} {pc : Nat} {ls : Array Slot} {rest : List Value} {E : xE} {A : Nat → Prop} {σ : xW} {own : String}
theorem x_iremT (hx : p.tables.exec = Jvm.exec) (hb : c.code = cc) {a b : Int} (hdg : decode cc pc = .ok (.irem, 1)) (ha : rg a) (hb0 : 0 < b) (hb1 : b ≤ 2147483647) (k : W p l e R s m args below meth c H locs cells slots Q (F0 m (pc + 1) ls (.int (iZ (a.tmod b)) :: rest))) : W p l e R s m args below meth c H locs cells slots Q (F0 m pc ls (.int (iZ b) :: .int (iZ a) :: rest)) := lv_irem hx hb hdg (iZ_ne0 hb0 hb1) (by
    rw [iZ_divT ha hb0 hb1, iZ_mul, iZ_sub]
    have h : a - a.tdiv b * b = a.tmod b := by have := Int.tmod_def a b; rw [Int.mul_comm] at this; exact this.symm
    rw [h]; exact k)
theorem x_alenI (hx : p.tables.exec = Jvm.exec) (hb : c.code = cc) (hK : va_K E.1 vwCl (xT E) s) (hH : Hx E A s.heap σ H locs) (k0 : Nat) (hk0 : k0 < 85 + xx E) {n : Nat} {f : Int → Int} (he : σ k0 = aI E n f) (hdg : decode cc pc = .ok (.arraylength, 1)) (kk : W p l e R s m args below meth c H locs cells slots Q (F0 m (pc + 1) ls (.int (iZ (n : Int)) :: rest))) : W p l e R s m args below meth c H locs cells slots Q (F0 m pc ls (.ref (xad E k0) :: rest)) :=
  va_alen hx hb hK hH.1 k0 0 (wl_get hk0 he) rfl rfl hdg kk
theorem x_ldcw (hx : p.tables.exec = Jvm.exec) (hb : c.code = cc) (hown : s.vm.findClass own = some m.cls) {index : Nat} {v : Int32} {n : Int} (hc : (Jvm.Cond.constant own index v).before args s = true) (hv : v = iZ n) (hdg : decode cc pc = .ok (.ldc_w index, 3)) (k : W p l e R s m args below meth c H locs cells slots Q (F0 m (pc + 3) ls (.int (iZ n) :: rest))) : W p l e R s m args below meth c H locs cells slots Q (F0 m pc ls rest) := lv_ldcw hx hb hown hc hdg (hv ▸ k)
theorem x_tableIn (hx : p.tables.exec = Jvm.exec) (hb : c.code = cc) {dflt lo hi : Int} {offs : Array Int} {len : Nat} {a off : Int} {tgt : Nat} (k : Int) (e1 : a = k) (ha : rg a) (hdg : decode cc pc = .ok (.tableswitch dflt lo hi offs, len)) (h1 : ¬ k < lo) (h2 : ¬ hi < k) (ho : offs[(k - lo).toNat]? = some off) (ht : (pc : Int) + off = (tgt : Int)) (kk : W p l e R s m args below meth c H locs cells slots Q (F0 m tgt ls rest)) : W p l e R s m args below meth c H locs cells slots Q (F0 m pc ls (.int (iZ a) :: rest)) := by
  subst e1
  exact lv_tableIn hx hb hdg (by rw [iZ_toInt ha]; exact h1) (by rw [iZ_toInt ha]; exact h2) (by rw [iZ_toInt ha]; exact ho) ht kk
theorem x_tableOut (hx : p.tables.exec = Jvm.exec) (hb : c.code = cc) {dflt lo hi : Int} {offs : Array Int} {len : Nat} {a : Int} {tgt : Nat} (ha : rg a) (hdg : decode cc pc = .ok (.tableswitch dflt lo hi offs, len)) (h : a < lo ∨ hi < a) (ht : (pc : Int) + dflt = (tgt : Int)) (kk : W p l e R s m args below meth c H locs cells slots Q (F0 m tgt ls rest)) : W p l e R s m args below meth c H locs cells slots Q (F0 m pc ls (.int (iZ a) :: rest)) :=
  lv_tableOut hx hb hdg (by rw [iZ_toInt ha]; exact h) ht kk
end XRT
def ar1 (E : xE) (σ : xW) (b n : Nat) (f : Int → Int) : Prop := σ b = aI E n f
def bo (E : xE) (σ : xW) (b : Nat) (pn nw sh wk : Int) : Prop := σ b = oB 0 [.ref (xad E (b + 1)), .ref (xad E (b + 2)), .ref (xad E (b + 3)), .ref (xad E (b + 4)), .ref (xad E (b + 5)), .int (iZ pn), .int (iZ nw), .int (iZ sh), .long (lZ wk)]
def bcZ (x : Int) : Int :=
  let a := x - iandZ (iushrZ x 1) 1431655765
  let b := iandZ a 858993459 + iandZ (iushrZ a 2) 858993459
  let c := iandZ (b + iushrZ b 4) 252645135
  let d := c + iushrZ c 8
  let g := d + iushrZ d 16
  iandZ g 63
/-! the board -/
abbrev BT : Type := (Int → Int) × (Int → Int) × (Int → Int) × (Int → Int) × Int × Int × Int × Int
def BI (op lk kp wc : Int → Int) (pn nw : Int) : Prop := (∀ j, 0 ≤ op j ∧ op j ≤ 15) ∧ (∀ j, -1 ≤ lk j ∧ lk j ≤ 5) ∧ (∀ j, -1 ≤ kp j ∧ kp j < 25 + nw) ∧ (∀ j, 0 ≤ wc j ∧ wc j ≤ 24) ∧ (0 ≤ pn ∧ pn < 33554432) ∧ (0 ≤ nw ∧ nw ≤ 3)
abbrev okC (r c : Int) : Prop := (0 ≤ r ∧ r < 5) ∧ (0 ≤ c ∧ c < 5)
abbrev fixP (pn c : Int) : Prop := iandZ (ishrZ pn c) 1 = 1
def setF (op lk kp wc : Int → Int) (pn nw sh wk : Int) (r c o : Int) : Int × BT :=
  if ¬ okC r c then (-1, op, lk, kp, wc, pn, nw, sh, wk) else if o < 0 ∨ 15 < o then (-2, op, lk, kp, wc, pn, nw, sh, wk) else (op (r * 5 + c), ui op (r * 5 + c) o, lk, kp, wc, pn, nw, sh, wk)
def rotZ (o q : Int) : Int := iandZ (iorZ (ishlZ o q) (ishrZ (ishlZ o q) 4)) 15
def turnF (op lk kp wc : Int → Int) (pn nw sh wk : Int) (r c q : Int) : Int × BT :=
  if ¬ okC r c then (-1, op, lk, kp, wc, pn, nw, sh, wk) else if q < 1 ∨ 4 ≤ q then (-2, op, lk, kp, wc, pn, nw, sh, wk) else if fixP pn (r * 5 + c) then (-3, op, lk, kp, wc, pn, nw, sh, wk) else (rotZ (op (r * 5 + c)) q, ui op (r * 5 + c) (rotZ (op (r * 5 + c)) q), lk, kp, wc, pn, nw, sh, wk)
def fixF (op lk kp wc : Int → Int) (pn nw sh wk : Int) (r c : Int) : Int × BT :=
  if ¬ okC r c then (-1, op, lk, kp, wc, pn, nw, sh, wk) else if fixP pn (r * 5 + c) then (-3, op, lk, kp, wc, pn, nw, sh, wk) else (bcZ (iorZ pn (ishlZ 1 (r * 5 + c))), op, lk, kp, wc, iorZ pn (ishlZ 1 (r * 5 + c)), nw, sh, wk)
def freeF (op lk kp wc : Int → Int) (pn nw sh wk : Int) (r c : Int) : Int × BT :=
  if ¬ okC r c then (-1, op, lk, kp, wc, pn, nw, sh, wk) else if ¬ fixP pn (r * 5 + c) then (-3, op, lk, kp, wc, pn, nw, sh, wk) else (bcZ (iandZ pn (ixorZ (ishlZ 1 (r * 5 + c)) (-1))), op, lk, kp, wc, iandZ pn (ixorZ (ishlZ 1 (r * 5 + c)) (-1)), nw, sh, wk)
def layF (op lk kp wc : Int → Int) (pn nw sh wk : Int) (k r c : Int) : Int × BT :=
  if ¬ (97 ≤ k ∧ k < 103) then (-2, op, lk, kp, wc, pn, nw, sh, wk) else if ¬ okC r c then (-1, op, lk, kp, wc, pn, nw, sh, wk) else if ¬ kp (k - 97) = -1 then (-3, op, lk, kp, wc, pn, nw, sh, wk) else (cntK (ui kp (k - 97) (r * 5 + c)) (r * 5 + c) 6, op, lk, ui kp (k - 97) (r * 5 + c), wc, pn, nw, sh, wk)
def lkN (lk : Int → Int) : Int := cnbK (fun j => decide (¬ lk j = -1)) 25
def hangF (op lk kp wc : Int → Int) (pn nw sh wk : Int) (r c k : Int) : Int × BT :=
  if ¬ okC r c then (-1, op, lk, kp, wc, pn, nw, sh, wk) else if ¬ (97 ≤ k ∧ k < 103) then (-2, op, lk, kp, wc, pn, nw, sh, wk) else if ¬ lk (r * 5 + c) = -1 then (-3, op, lk, kp, wc, pn, nw, sh, wk) else (lkN (ui lk (r * 5 + c) (k - 97)), op, ui lk (r * 5 + c) (k - 97), kp, wc, pn, nw, sh, wk)
def takeF (op lk kp wc : Int → Int) (pn nw sh wk : Int) (r c : Int) : Int × BT :=
  if ¬ okC r c then (-1, op, lk, kp, wc, pn, nw, sh, wk) else if lk (r * 5 + c) = -1 then (-5, op, lk, kp, wc, pn, nw, sh, wk) else (97 + lk (r * 5 + c), op, ui lk (r * 5 + c) (-1), kp, wc, pn, nw, sh, wk)
/-- the keys that lie at a cell are the walker's, of the first n keys -/
def brK (kp : Int → Int) (cell w n : Int) : Int → Int := fun j => if (0 ≤ j ∧ j < n) ∧ kp j = cell then 25 + w else kp j
theorem brK_0 {kp : Int → Int} {cell w : Int} : brK kp cell w 0 = kp := by
  funext j
  unfold brK
  rw [if_neg (by omega)]
theorem brK_t {kp : Int → Int} {cell w n : Int} (h : 0 ≤ n) (hk : kp n = cell) : ui (brK kp cell w n) n (25 + w) = brK kp cell w (n + 1) := by
  funext j
  simp only [brK, ui]
  by_cases e : j = n
  · rw [if_pos e, if_pos ⟨by omega, by rw [e]; exact hk⟩]
  · rw [if_neg e]
    by_cases h2 : (0 ≤ j ∧ j < n) ∧ kp j = cell
    · rw [if_pos h2, if_pos ⟨by omega, h2.2⟩]
    · rw [if_neg h2, if_neg (fun q => h2 ⟨by omega, q.2⟩)]
theorem brK_f {kp : Int → Int} {cell w n : Int} (hk : ¬ kp n = cell) : brK kp cell w n = brK kp cell w (n + 1) := by
  funext j
  unfold brK
  by_cases h2 : (0 ≤ j ∧ j < n) ∧ kp j = cell
  · rw [if_pos h2, if_pos ⟨by omega, h2.2⟩]
  · rw [if_neg h2, if_neg (fun q => h2 ⟨⟨q.1.1, by
      rcases Int.lt_or_eq_of_le (show j ≤ n by omega) with h | h
      · exact h
      · exact absurd (h ▸ q.2) hk⟩, q.2⟩)]
theorem brK_at {kp : Int → Int} {cell w n : Int} : brK kp cell w n n = kp n := by
  unfold brK
  rw [if_neg (by omega)]
def enterF (op lk kp wc : Int → Int) (pn nw sh wk : Int) (r c : Int) : Int × BT :=
  if ¬ okC r c then (-1, op, lk, kp, wc, pn, nw, sh, wk) else if 3 ≤ nw then (-3, op, lk, kp, wc, pn, nw, sh, wk) else if ¬ lk (r * 5 + c) = -1 then (-4, op, lk, kp, wc, pn, nw, sh, wk) else (nw, op, lk, brK kp (r * 5 + c) nw 6, ui wc nw (r * 5 + c), pn, nw + 1, sh, wk)
/-! lines -/
def linP (first strd : Int) : Prop := (strd = 1 ∧ (0 ≤ first ∧ first ≤ 20) ∧ first % 5 = 0) ∨ (strd = 5 ∧ 0 ≤ first ∧ first ≤ 4)
theorem lin_in {first strd i : Int} (h : linP first strd) (h0 : 0 ≤ i) (h1 : i ≤ 4) : 0 ≤ first + i * strd ∧ first + i * strd ≤ 24 := by
  rcases h with ⟨rfl, h2, h3⟩ | ⟨rfl, h2, h3⟩ <;> omega
theorem lin_inj {first strd i j : Int} (h : linP first strd) (e : first + i * strd = first + j * strd) : i = j := by
  rcases h with ⟨rfl, h2, h3⟩ | ⟨rfl, h2, h3⟩ <;> omega
noncomputable def lfB (pn first strd : Int) : Bool := dB (∀ j : Int, 0 ≤ j → j < 5 → ¬ fixP pn (first + j * strd))
/-- the place of a cell on a line; five or more, or less than 0, if it isn't there -/
def lnI (c first strd : Int) : Int := if (c - first) % strd = 0 then (c - first) / strd else 5
def rotK (f : Int → Int) (first strd steps n : Int) : Int → Int := fun c => if 0 ≤ lnI c first strd ∧ lnI c first strd < n then f (first + ((lnI c first strd - steps) % 5) * strd) else f c
def rotF (f : Int → Int) (first strd steps : Int) : Int → Int := rotK f first strd steps 5
def paZ (pl first strd steps : Int) : Int := if 0 ≤ lnI pl first strd ∧ lnI pl first strd < 5 then first + ((lnI pl first strd + steps) % 5) * strd else pl
theorem lnI_at {first strd i : Int} (h : linP first strd) : lnI (first + i * strd) first strd = i := by
  unfold lnI
  rcases h with ⟨rfl, h2, h3⟩ | ⟨rfl, h2, h3⟩
  · rw [if_pos (by omega)]; omega
  · rw [if_pos (by omega)]; omega
theorem lnI_of {c first strd : Int} (h : linP first strd) (h0 : 0 ≤ lnI c first strd) (h1 : lnI c first strd < 5) : c = first + lnI c first strd * strd := by
  unfold lnI at h0 h1 ⊢
  by_cases e : (c - first) % strd = 0
  · rw [if_pos e]
    rcases h with ⟨rfl, h2, h3⟩ | ⟨rfl, h2, h3⟩ <;> omega
  · rw [if_neg e] at h1
    omega
def mlK (f : Int → Int) (first strd steps n : Int) : Int → Int := fun j => if 0 ≤ j ∧ j < n then paZ (f j) first strd steps else f j
theorem rotK_0 {f : Int → Int} {first strd steps : Int} : rotK f first strd steps 0 = f := by
  funext c
  simp only [rotK]
  rw [if_neg (by omega)]
theorem rotK_s {f : Int → Int} {first strd steps n : Int} (h : linP first strd) (h0 : 0 ≤ n) (h1 : n < 5) : ui (rotK f first strd steps n) (first + n * strd) (f (first + ((n - steps) % 5) * strd)) = rotK f first strd steps (n + 1) := by
  funext c
  simp only [rotK, ui]
  by_cases e : c = first + n * strd
  · rw [if_pos e, e, lnI_at h, if_pos (by omega)]
  · rw [if_neg e]
    by_cases h2 : 0 ≤ lnI c first strd ∧ lnI c first strd < n
    · rw [if_pos h2, if_pos (by omega)]
    · rw [if_neg h2, if_neg (fun q => ?_)]
      have h3 : lnI c first strd = n := by omega
      have h4 := lnI_of h (c := c) (by omega) (by omega)
      rw [h3] at h4
      exact e h4
theorem mlK_0 {f : Int → Int} {first strd steps : Int} : mlK f first strd steps 0 = f := by
  funext j
  simp only [mlK]
  rw [if_neg (by omega)]
theorem mlK_at {f : Int → Int} {first strd steps n : Int} : mlK f first strd steps n n = f n := by
  simp only [mlK]
  rw [if_neg (by omega)]
theorem mlK_s {f : Int → Int} {first strd steps n : Int} (h0 : 0 ≤ n) : ui (mlK f first strd steps n) n (paZ (f n) first strd steps) = mlK f first strd steps (n + 1) := by
  funext j
  simp only [mlK, ui]
  by_cases e : j = n
  · rw [if_pos e, if_pos (by omega), e]
  · rw [if_neg e]
    by_cases h2 : 0 ≤ j ∧ j < n
    · rw [if_pos h2, if_pos (by omega)]
    · rw [if_neg h2, if_neg (by omega)]
theorem paZ_hit {pl first strd steps i : Int} (h : linP first strd) (h0 : 0 ≤ i) (h1 : i < 5) (e : pl = first + i * strd) : first + ((i + steps) % 5) * strd = paZ pl first strd steps := by
  unfold paZ
  rw [e, lnI_at h, if_pos (by omega)]
theorem paZ_no {pl first strd steps : Int} (h : linP first strd) (hn : ∀ j : Int, 0 ≤ j → j < 5 → ¬ pl = first + j * strd) : pl = paZ pl first strd steps := by
  unfold paZ
  rw [if_neg (fun q => hn _ q.1 q.2 (lnI_of h q.1 q.2))]
theorem paZ_in {pl first strd steps : Int} (h : linP first strd) (h1 : -1 ≤ pl) : -1 ≤ paZ pl first strd steps ∧ (paZ pl first strd steps ≤ 24 ∨ paZ pl first strd steps = pl) := by
  unfold paZ
  by_cases q : 0 ≤ lnI pl first strd ∧ lnI pl first strd < 5
  · rw [if_pos q]
    have h2 := lin_in h (i := (lnI pl first strd + steps) % 5) (by omega) (by omega)
    omega
  · rw [if_neg q]
    omega
theorem cntN_b (f : Int → Int) (x : Int) : ∀ n : Nat, 0 ≤ cntN f x n ∧ cntN f x n ≤ n
  | 0 => ⟨Int.le_refl 0, Int.le_refl 0⟩
  | n + 1 => by
    have h := cntN_b f x n
    unfold cntN
    split <;> omega
theorem cntK_b {f : Int → Int} {x n : Int} (h : 0 ≤ n) : 0 ≤ cntK f x n ∧ cntK f x n ≤ n := by
  have h1 := cntN_b f x n.toNat
  unfold cntK
  omega
theorem mlK_in {f : Int → Int} {first strd steps n : Int} (h : linP first strd) (hf : ∀ j, 0 ≤ f j ∧ f j ≤ 24) (j : Int) : 0 ≤ mlK f first strd steps n j ∧ mlK f first strd steps n j ≤ 24 := by
  have h1 := hf j
  simp only [mlK]
  split
  · unfold paZ
    split
    · have h2 := lin_in h (i := (lnI (f j) first strd + steps) % 5) (by omega) (by omega)
      omega
    · omega
  · omega
noncomputable def moveF (op lk kp wc : Int → Int) (pn nw sh wk : Int) (first strd steps : Int) : Int × BT :=
  if steps = 0 ∨ steps ≤ -5 ∨ 5 ≤ steps then (-2, op, lk, kp, wc, pn, nw, sh, wk) else if lfB pn first strd = false then (-3, op, lk, kp, wc, pn, nw, sh, wk) else
    (smK (fun i => cntK (mlK wc first strd steps nw) (first + i * strd) nw) 5, rotF op first strd steps, rotF lk first strd steps, mlK kp first strd steps 6, mlK wc first strd steps nw, pn, nw, sh + 1, wk)
noncomputable def rowF (op lk kp wc : Int → Int) (pn nw sh wk : Int) (r steps : Int) : Int × BT := if 0 ≤ r ∧ r < 5 then moveF op lk kp wc pn nw sh wk (r * 5) 1 steps else (-1, op, lk, kp, wc, pn, nw, sh, wk)
noncomputable def colF (op lk kp wc : Int → Int) (pn nw sh wk : Int) (r steps : Int) : Int × BT := if 0 ≤ r ∧ r < 5 then moveF op lk kp wc pn nw sh wk r 5 steps else (-1, op, lk, kp, wc, pn, nw, sh, wk)
/-! neighbours -/
def nbZ (c d : Int) : Int := if d = 0 then (if 5 ≤ c then c - 5 else -1) else if d = 1 then (if c % 5 < 4 then c + 1 else -1) else if d = 2 then (if c < 20 then c + 5 else -1) else (if 0 < c % 5 then c - 1 else -1)
theorem nbZ_rg {c d : Int} (h0 : 0 ≤ c) (h1 : c ≤ 24) : -1 ≤ nbZ c d ∧ nbZ c d ≤ 24 := by
  unfold nbZ
  repeat' split
  all_goals omega
abbrev opnP (x d : Int) : Prop := iandZ (ishrZ x d) 1 = 1
def cnZ (op : Int → Int) (c d : Int) : Int := if nbZ c d = -1 then -1 else if opnP (op c) d ∧ opnP (op (nbZ c d)) ((d + 2) % 4) then nbZ c d else -1
theorem cnZ_rg {op : Int → Int} {c d : Int} (h0 : 0 ≤ c) (h1 : c ≤ 24) : -1 ≤ cnZ op c d ∧ cnZ op c d ≤ 24 := by
  have h := nbZ_rg (d := d) h0 h1
  unfold cnZ
  repeat' split
  all_goals omega
theorem opn2_tab : ∀ x : Nat, x < 16 → ∀ y : Nat, y < 16 → ∀ d : Nat, d < 4 → ∀ g : Nat, g < 4 → (iandZ (iandZ (ishrZ (x : Int) (d : Int)) (ishrZ (y : Int) (g : Int))) 1 = 1 ↔ (opnP (x : Int) (d : Int) ∧ opnP (y : Int) (g : Int))) := by decide +kernel
theorem opn2 {x y d g : Int} (hx : 0 ≤ x ∧ x ≤ 15) (hy : 0 ≤ y ∧ y ≤ 15) (hd : 0 ≤ d ∧ d ≤ 3) (hg : 0 ≤ g ∧ g ≤ 3) : iandZ (iandZ (ishrZ x d) (ishrZ y g)) 1 = 1 ↔ (opnP x d ∧ opnP y g) := by
  have h := opn2_tab x.toNat (by omega) y.toNat (by omega) d.toNat (by omega) g.toNat (by omega)
  rw [Int.toNat_of_nonneg hx.1, Int.toNat_of_nonneg hy.1, Int.toNat_of_nonneg hd.1, Int.toNat_of_nonneg hg.1] at h
  exact h
