/-! ===== the law: what its body knows, and how it reads its script ===== -/
def LX (l : Launch) (E : xE) (ST : xST) (Z : zE) (p : Program) (s : State) (m : MethodId) (meth : Method) (c : Code) (b L : Nat) (xs : Nat → Int32) : Prop :=
  p.tables.exec = Jvm.exec ∧ c.code = cL_law ∧ c.maxLocals = 10 ∧ s.vm.findClass RL = some m.cls ∧ (∀ w ∈ wsL_law, w.before #[Value.ref b] s = true) ∧ va_K E.1 vwCl (xT E) s ∧ ST (fun q => s.heap.size ≤ q) s s.heap ∧ SF ST ∧ SX ST ∧ SQ Z ST ∧ l.stackTraces = false ∧ va_X b L xs s s.heap ∧ b < s.heap.size ∧ meth.locks = false ∧ meth.sig.returnType = ret ∧ L ≤ 2048
theorem iand63 (a : Int) : 0 ≤ iandZ a 63 ∧ iandZ a 63 ≤ 63 := by
  have h1 : ((iZ a).toBitVec &&& 63#32).toNat ≤ 63 := by
    rw [BitVec.toNat_and]
    exact Nat.and_le_right
  have h2 : iandZ a 63 = ((iZ a).toBitVec &&& 63#32).toInt := rfl
  have h3 := BitVec.toInt_eq_toNat_of_lt (x := (iZ a).toBitVec &&& 63#32) (by omega)
  rw [h2, h3]
  omega
section LROW
variable {p : Program} {l : Launch} {e : Env} {R : Room} {s : State} {m : MethodId} {args : Array Value} {below : List Frame} {meth : Method} {c : Code} {H : Heap} {locs : List Loc} {cells slots : Nat} {Q : State → Prop}
variable {cc : ByteArray} {pc : Nat} {ls : Array Slot} {rest : List Value} {E : xE} {σ : xW} {b L : Nat} {xs : Nat → Int32}
theorem x_scr (hx : p.tables.exec = Jvm.exec) (hb : c.code = cc) (hX : va_X b L xs s s.heap) (hbl : b < s.heap.size) (hH : Hx E (fun q => s.heap.size ≤ q) s.heap σ H locs) {a y : Int} (h0 : 0 ≤ a) (h1 : a < L) (hL : L ≤ 2048) (hy : y = (xs a.toNat).toInt) (hdg : decode cc pc = .ok (.iaload, 1))
    (kk : W p l e R s m args below meth c H locs cells slots Q (F0 m (pc + 1) ls (.int (iZ y) :: rest))) : W p l e R s m args below meth c H locs cells slots Q (F0 m pc ls (.int (iZ a) :: .ref b :: rest)) := by
  refine va_sld hx hb hX hbl (Nat.not_le.mpr hbl) hH.2.2.1 (iZ_in h0 h1 (by omega)) hdg ?_
  rw [iZ_clamp (by omega) h0, ← iZ_self (xs a.toNat), ← hy]
  exact kk
end LROW
