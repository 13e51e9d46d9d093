section XRM
variable {p : Program} {l : Launch} {e : Env} {R : Room} {s : State} {m : MethodId} {args : Array Value} {below : List Frame} {meth : Method} {c : Code} {H : Heap} {locs : List Loc} {cells slots : Nat} {Q : State → Prop}
variable {cc : ByteArray} {pc : Nat} {ls : Array Slot} {rest st0 : List Value} {E : xE} {ST : xST} {A : Nat → Prop} {σ : xW} {Ts : List Cond} {own : String} {nL : Nat}
theorem x_lret (hx : p.tables.exec = Jvm.exec) (hb : c.code = cc) (hr : meth.sig.returnType = (some .long)) (hlocks : meth.locks = false) (hH : Hx E (xA E s.heap.size) s.heap σ H locs) {mc ms : Nat} (hc : cells ≤ mc) (hs : slots ≤ ms) {post : Int64 → xW → Prop} {z : Int64} (hp : post z σ) (hdg : decode cc pc = .ok (.lreturn, 1)) : W p l e R s m args below meth c H locs cells slots (MQ below (va_Ql post (xB E s.heap.size) (xA E s.heap.size)) args s mc ms (xA E s.heap.size)) (F0 m pc ls [.long z]) :=
  W.widen hc hs (W.lret hx hb hr (fun t ht hW => ⟨⟨z, σ, rfl, hp, ht ▸ hH.1, hH.2.1⟩, hH.2.2.1.F ht⟩) hH.2.2.1.2.2 hdg hlocks)
theorem x_fret (hx : p.tables.exec = Jvm.exec) (hb : c.code = cc) (hr : meth.sig.returnType = (some .float)) (hlocks : meth.locks = false) (hH : Hx E (xA E s.heap.size) s.heap σ H locs) {mc ms : Nat} (hc : cells ≤ mc) (hs : slots ≤ ms) {post : UInt32 → xW → Prop} {z : UInt32} (hp : post z σ) (hdg : decode cc pc = .ok (.freturn, 1)) : W p l e R s m args below meth c H locs cells slots (MQ below (va_Qf post (xB E s.heap.size) (xA E s.heap.size)) args s mc ms (xA E s.heap.size)) (F0 m pc ls [.float z]) :=
  W.widen hc hs (W.fret hx hb hr (fun t ht hW => ⟨⟨z, σ, rfl, hp, ht ▸ hH.1, hH.2.1⟩, hH.2.2.1.F ht⟩) hH.2.2.1.2.2 hdg hlocks)
theorem x_dret (hx : p.tables.exec = Jvm.exec) (hb : c.code = cc) (hr : meth.sig.returnType = (some .double)) (hlocks : meth.locks = false) (hH : Hx E (xA E s.heap.size) s.heap σ H locs) {mc ms : Nat} (hc : cells ≤ mc) (hs : slots ≤ ms) {post : UInt64 → xW → Prop} {z : UInt64} (hp : post z σ) (hdg : decode cc pc = .ok (.dreturn, 1)) : W p l e R s m args below meth c H locs cells slots (MQ below (va_Qd post (xB E s.heap.size) (xA E s.heap.size)) args s mc ms (xA E s.heap.size)) (F0 m pc ls [.double z]) :=
  W.widen hc hs (W.dret hx hb hr (fun t ht hW => ⟨⟨z, σ, rfl, hp, ht ▸ hH.1, hH.2.1⟩, hH.2.2.1.F ht⟩) hH.2.2.1.2.2 hdg hlocks)
theorem x_freX (hx : p.tables.exec = Jvm.exec) (hb : c.code = cc) (hr : meth.sig.returnType = (some .float)) (hlocks : meth.locks = false) (hH : Hx E (xA E s.heap.size) s.heap σ H locs) {mc ms : Nat} (hc : cells ≤ mc) (hs : slots ≤ ms) {post : UInt32 → xW → Prop} {px : String → xW → Prop} {z : UInt32} (hp : post z σ) (hdg : decode cc pc = .ok (.freturn, 1)) : W p l e R s m args below meth c H locs cells slots (vx_MQ below (va_Qf post (xB E s.heap.size) (xA E s.heap.size)) (xX E s.heap.size px) args s mc ms (xA E s.heap.size)) (F0 m pc ls [.float z]) := vx_ret (x_fret hx hb hr hlocks hH hc hs hp hdg)
end XRM
/-! the share and the mean are numbers -/
theorem meD_tab : ∀ n : Nat, n < 101 → vf_n64 (FP.ddiv (FP.i2d (iZ (n : Int))) 4627730092099895296) := by unfold vf_n64; decide +kernel
theorem shF_tab : ∀ n : Nat, n < 26 → vf_n32 (FP.fdiv (FP.i2f (iZ (n : Int))) 1103626240) := by unfold vf_n32; decide +kernel
def meD (z : Int) : UInt64 := FP.ddiv (FP.i2d (iZ z)) 4627730092099895296
def shF (z : Int) : UInt32 := FP.fdiv (FP.i2f (iZ z)) 1103626240
theorem meD_n {z : Int} (h0 : 0 ≤ z) (h1 : z ≤ 100) : vf_n64 (FP.ddiv (FP.i2d (iZ z)) 4627730092099895296) := by
  have h := meD_tab z.toNat (by omega)
  rw [Int.toNat_of_nonneg h0] at h
  exact h
theorem shF_n {z : Int} (h0 : 0 ≤ z) (h1 : z ≤ 25) : vf_n32 (FP.fdiv (FP.i2f (iZ z)) 1103626240) := by
  have h := shF_tab z.toNat (by omega)
  rw [Int.toNat_of_nonneg h0] at h
  exact h
theorem bcZ_tab : ∀ n : Nat, n < 16 → 0 ≤ bcZ (n : Int) ∧ bcZ (n : Int) ≤ 4 := by decide +kernel
theorem bcZ_b {x : Int} (h0 : 0 ≤ x) (h1 : x ≤ 15) : 0 ≤ bcZ x ∧ bcZ x ≤ 4 := by
  have h := bcZ_tab x.toNat (by omega)
  rw [Int.toNat_of_nonneg h0] at h
  exact h
/-! the board after a shift -/
theorem rotF_all {P : Int → Prop} {f : Int → Int} {first strd steps : Int} (h : ∀ j, P (f j)) (j : Int) : P (rotF f first strd steps j) := by
  simp only [rotF, rotK]
  split
  · exact h _
  · exact h _
theorem BI_ml {op lk kp wc : Int → Int} {pn nw first strd steps : Int} (hL : linP first strd) (h : BI op lk kp wc pn nw) : BI (rotF op first strd steps) (rotF lk first strd steps) (mlK kp first strd steps 6) (mlK wc first strd steps nw) pn nw := by
  obtain ⟨h1, h2, h3, h4, h5, h6⟩ := h
  refine ⟨rotF_all (P := fun x => 0 ≤ x ∧ x ≤ 15) h1, rotF_all (P := fun x => -1 ≤ x ∧ x ≤ 5) h2, fun j => ?_, mlK_in hL h4, h5, h6⟩
  have h7 := h3 j
  simp only [mlK]
  split
  · have h8 := paZ_in (steps := steps) hL h7.1
    omega
  · exact h7
/-! the nearest key -/
def nkN (kp d : Int → Int) : Nat → Int × Int
  | 0 => (-1, 25)
  | n + 1 => if (0 ≤ kp n ∧ kp n < 25) ∧ d (kp n) < (nkN kp d n).2 then ((n : Int), d (kp n)) else nkN kp d n
def nkK (kp d : Int → Int) (i : Int) : Int × Int := nkN kp d i.toNat
theorem nkK_s {kp d : Int → Int} {i : Int} (h : 0 ≤ i) : nkK kp d (i + 1) = if (0 ≤ kp i ∧ kp i < 25) ∧ d (kp i) < (nkK kp d i).2 then (i, d (kp i)) else nkK kp d i := by
  have e : (i + 1).toNat = i.toNat + 1 := by omega
  have e2 : ((i.toNat : Nat) : Int) = i := Int.toNat_of_nonneg h
  unfold nkK
  rw [e, nkN, e2]
theorem nkK_t {kp d : Int → Int} {i : Int} (h : 0 ≤ i) (h1 : 0 ≤ kp i ∧ kp i < 25) (h2 : d (kp i) < (nkK kp d i).2) : nkK kp d (i + 1) = (i, d (kp i)) := by
  rw [nkK_s h, if_pos ⟨h1, h2⟩]
theorem nkK_f1 {kp d : Int → Int} {i : Int} (h : 0 ≤ i) (h1 : ¬ (0 ≤ kp i ∧ kp i < 25)) : nkK kp d (i + 1) = nkK kp d i := by
  rw [nkK_s h, if_neg (fun q => h1 q.1)]
theorem nkK_f2 {kp d : Int → Int} {i : Int} (h : 0 ≤ i) (h2 : ¬ d (kp i) < (nkK kp d i).2) : nkK kp d (i + 1) = nkK kp d i := by
  rw [nkK_s h, if_neg (fun q => h2 q.2)]
/-! helpful shifts -/
theorem b2_dec (P : Prop) (i : Decidable P) : b2 (decide P) = if P then 1 else 0 := by
  by_cases h : P
  · rw [if_pos h, decide_eq_true h]; rfl
  · rw [if_neg h, decide_eq_false h]; rfl
noncomputable def hsD (op lk kp wc : Int → Int) (nw w cell first strd steps : Int) : Int := dz (Gw (rotF op first strd steps) (rotF lk first strd steps) (mlK kp first strd steps 6) w) (mlK wc first strd steps nw w) cell
noncomputable def hpF (op lk kp wc : Int → Int) (pn nw w cell first strd : Int) : Int := if lfB pn first strd = true then (if hsD op lk kp wc nw w cell first strd (-1) < 25 then 1 else 0) + (if hsD op lk kp wc nw w cell first strd 1 < 25 then 1 else 0) else 0
theorem hpF_b {op lk kp wc : Int → Int} {pn nw w cell first strd : Int} : 0 ≤ hpF op lk kp wc pn nw w cell first strd ∧ hpF op lk kp wc pn nw w cell first strd ≤ 2 := by
  unfold hpF
  (repeat' split) <;> omega
theorem cnbK_b {P : Int → Bool} {n : Int} (h : 0 ≤ n) : 0 ≤ cnbK P n ∧ cnbK P n ≤ n := by
  have h1 := cnbN_le P n.toNat
  unfold cnbK
  omega
/-! the text and the line -/
def ftB (k ch : Int) : Bool := if k = 68 ∨ k = 78 then decide (48 ≤ ch ∧ ch ≤ 57) else if k = 83 then decide (ch = 43 ∨ ch = 45) else if k = 76 then decide (97 ≤ ch ∧ ch < 103) else decide (ch = k)
def vlZ (k ch : Int) : Int := if k = 68 ∨ k = 78 then ch - 48 else if k = 83 then (if ch = 43 then 1 else -1) else ch
def wrF (q : (Int → Int) × Int) (ch : Int) : (Int → Int) × Int := if q.2 < 35 then (ui q.1 q.2 ch, q.2 + 1) else q
theorem dz_0 {G : Int → Int → Int} (hG : gOK G) {st c : Int} (hst : 0 ≤ st ∧ st ≤ 24) (h0 : 0 ≤ c) (h1 : c ≤ 24) : dz G st c = 0 ↔ st = c := by
  have h := dz_is hG hst c h0 h1
  constructor
  · intro e
    have q := (h.1 (by omega)).2
    rw [e] at q
    exact q.symm
  · intro e
    have q := (h.2 0 e.symm).1
    have r := dz_rg hG hst c
    omega
