/-! longs as whole numbers, booleans in fields -/
def lZ (z : Int) : Int64 := Int64.ofInt z
theorem lZ_add (a b : Int) : lZ a + lZ b = lZ (a + b) := (Int64.ofInt_add a b).symm
theorem iZ_l {a : Int} (h : rg a) : (iZ a).toInt64 = lZ a := Int32.toInt64_ofInt h.1 h.2
theorem rg_b2 (b : Bool) : rg (b2 b) := by cases b <;> decide
theorem nar_b2 (b : Bool) : narrow .boolean (.int (iZ (b2 b))) = .int (iZ (b2 b)) := by cases b <;> decide
theorem fit_b2 (b : Bool) : fits .boolean (.int (iZ (b2 b))) = true := by cases b <;> decide
section XRL
variable {p : Program} {l : Launch} {e : Env} {R : Room} {s : State} {m : MethodId} {args : Array Value} {below : List Frame} {meth : Method} {c : Code} {H : Heap} {locs : List Loc} {cells slots : Nat} {Q : State → Prop}
variable {cc : ByteArray} {pc : Nat} {ls : Array Slot} {rest : List Value}
theorem x_i2l (hx : p.tables.exec = Jvm.exec) (hb : c.code = cc) {a : Int} (hdg : decode cc pc = .ok (.i2l, 1)) (h : rg a) (k : W p l e R s m args below meth c H locs cells slots Q (F0 m (pc + 1) ls (.long (lZ a) :: rest))) : W p l e R s m args below meth c H locs cells slots Q (F0 m pc ls (.int (iZ a) :: rest)) := lv_i2l hx hb hdg (iZ_l h) k
theorem x_ladd (hx : p.tables.exec = Jvm.exec) (hb : c.code = cc) {a b : Int} (hdg : decode cc pc = .ok (.ladd, 1)) (k : W p l e R s m args below meth c H locs cells slots Q (F0 m (pc + 1) ls (.long (lZ (a + b)) :: rest))) : W p l e R s m args below meth c H locs cells slots Q (F0 m pc ls (.long (lZ b) :: .long (lZ a) :: rest)) := lv_ladd hx hb hdg (by rw [lZ_add]; exact k)
end XRL
/-! the regions of the world -/
abbrev hRow (E : xE) : va_E := .inl (xBd E, 8, .inr (.inr (.inr (.inr (fun j => some (xad E (25 + 6 * j)))))))
def bd (E : xE) (σ : xW) (b : Nat) (op : Int → Int) (lk : Int → Int) (kp : Int → Int) (wc : Int → Int) (pn : Int) (nw : Int) (sh : Int) (wk : Int) : Prop := σ b = oB 0 [.ref (xad E (b + 1)), .ref (xad E (b + 2)), .ref (xad E (b + 3)), .ref (xad E (b + 4)), .ref (xad E (b + 5)), .int (iZ pn), .int (iZ nw), .int (iZ sh), .long (lZ wk)] ∧ σ (b + 1) = aI E 25 op ∧ σ (b + 2) = aI E 25 lk ∧ σ (b + 3) = aI E 6 kp ∧ σ (b + 4) = aI E 3 wc ∧ ∃ ro : Int → Int, σ (b + 5) = aI E 5 ro
def sr (E : xE) (σ : xW) (le : Int → Int) (rl : Int → Int) (fs : Int → Int) (qu : Int → Int) (gr : Int → Int) : Prop := σ 75 = oB 3 [.ref (xad E 76), .ref (xad E 77), .ref (xad E 78), .ref (xad E 79), .ref (xad E 80)] ∧ σ 76 = aI E 25 le ∧ σ 77 = aI E 25 rl ∧ σ 78 = aI E 25 fs ∧ σ 79 = aI E 25 qu ∧ σ 80 = aI E 25 gr
def hi (E : xE) (σ : xW) (nx : Int) (ct : Int) : Prop := σ 73 = oB 1 [.ref (xad E 74), .int (iZ nx), .int (iZ ct)] ∧ σ 74 = hRow E
def pg (E : xE) (σ : xW) (tx : Int → Int) (ln : Int) (cs : Int) (cm : Value) (va : Int → Int) : Prop := σ 81 = oB 2 [.ref (xad E 82), .int (iZ ln), .int (iZ cs), cm, .ref (xad E 83)] ∧ σ 82 = aC E 60 tx ∧ σ 83 = aI E 3 va
def mn (E : xE) (σ : xW) (hv : Bool) (se : Int) (sf : Int) (ll : Int) : Prop := σ 0 = oB 4 [.ref (xad E 1), .ref (xad E 7), .ref (xad E 13), .ref (xad E 19), .int (iZ (b2 hv)), .ref (xad E 73), .ref (xad E 75), .ref (xad E 81), .int (iZ se), .int (iZ sf), .ref (xad E 84), .int (iZ ll)]
def cln (E : xE) (σ : xW) (f : Int → Int) : Prop := σ 84 = aC E 35 f
