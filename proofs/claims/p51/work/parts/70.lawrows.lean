/-! ===== the law: its script, its small numbers ===== -/
def SC (zb zL : Nat) (zx : Int → Int) (ST : xST) : Prop := ∀ (A : Nat → Prop) (U : State) (H : Heap), ST A U H → va_T .int zb zL (fun j => .int (iZ (zx (j : Int)))) A U H
def l2Z (x : Int64) : Int := x.toInt32.toInt
section LRW
variable {p : Program} {l : Launch} {e : Env} {R : Room} {s : State} {m : MethodId} {args : Array Value} {below : List Frame} {meth : Method} {c : Code} {H : Heap} {locs : List Loc} {cells slots : Nat} {Q : State → Prop}
variable {cc : ByteArray} {pc : Nat} {ls : Array Slot} {rest st0 : List Value} {E : xE} {ST : xST} {A : Nat → Prop} {σ : xW} {Ts : List Cond} {own : String} {nL : Nat} {zb zL : Nat} {zx : Int → Int}
theorem x_scl (hx : p.tables.exec = Jvm.exec) (hb : c.code = cc) (hSC : SC zb zL zx ST) (hST : ST A s s.heap) (hH : Hx E A s.heap σ H locs) (hdg : decode cc pc = .ok (.arraylength, 1)) (kk : W p l e R s m args below meth c H locs cells slots Q (F0 m (pc + 1) ls (.int (iZ (zL : Int)) :: rest))) : W p l e R s m args below meth c H locs cells slots Q (F0 m pc ls (.ref zb :: rest)) :=
  va_tlen hx hb (hSC _ _ _ hST) hH.2.2.1 (iZ_nI zL) hdg kk
theorem x_sci (hx : p.tables.exec = Jvm.exec) (hb : c.code = cc) (hSC : SC zb zL zx ST) (hST : ST A s s.heap) (hH : Hx E A s.heap σ H locs) {i : Int} (h0 : 0 ≤ i) (h1 : i < (zL : Int)) (h2 : zL ≤ 2147483647) (hdg : decode cc pc = .ok (.iaload, 1)) (kk : W p l e R s m args below meth c H locs cells slots Q (F0 m (pc + 1) ls (.int (iZ (zx i)) :: rest))) : W p l e R s m args below meth c H locs cells slots Q (F0 m pc ls (.int (iZ i) :: .ref zb :: rest)) :=
  va_ti hx hb (hSC _ _ _ hST) hH.2.2.1 (iZ_in h0 h1 h2) (by rw [iZ_clamp (by omega) h0, Int.toNat_of_nonneg h0]) hdg kk
theorem x_l2i (hx : p.tables.exec = Jvm.exec) (hb : c.code = cc) {x : Int64} (hdg : decode cc pc = .ok (.l2i, 1)) (k : W p l e R s m args below meth c H locs cells slots Q (F0 m (pc + 1) ls (.int (iZ (l2Z x)) :: rest))) : W p l e R s m args below meth c H locs cells slots Q (F0 m pc ls (.long x :: rest)) := lv_l2i hx hb hdg (iZ_self _).symm k
end LRW
theorem iushr8 (a : Int) : 0 ≤ iushrZ a 8 ∧ iushrZ a 8 < 16777216 := by
  unfold iushrZ
  have e : ((iZ 8).toUInt32 &&& Int32.toUInt32 31) = 8 := by decide
  rw [e]
  generalize (iZ a).toUInt32 = x
  have h1 : (x >>> 8).toNat = x.toNat / 256 := by
    rw [UInt32.toNat_shiftRight]
    show x.toNat >>> (8 % 32) = _
    rw [Nat.shiftRight_eq_div_pow]
  have h2 : x.toNat < 4294967296 := x.toNat_lt
  have h3 : (x >>> 8).toInt32.toInt = (x >>> 8).toBitVec.toInt := rfl
  have h4 : (x >>> 8).toBitVec.toNat = (x >>> 8).toNat := rfl
  rw [h3, BitVec.toInt_eq_toNat_of_lt (by rw [h4]; omega), h4, h1]
  omega
/-! what the questions answer -/
def aKp (kp : Int → Int) (k : Int) : Int := if 0 ≤ kp k ∧ kp k < 25 then kp k else -2004
def aCa (kp : Int → Int) (k : Int) : Int := if 25 ≤ kp k then kp k - 25 else -2004
def aDz (d : Int) : Int := if d < 25 then d else -2004
def aFz (d f : Int) : Int := if d < 25 ∧ ¬ d = 0 then f else -2004
def aNk (k : Int) : Int := if k = -1 then -2004 else 97 + k
def aLk (lk : Int → Int) (c : Int) : Int := if lk c = -1 then -2004 else 97 + lk c
