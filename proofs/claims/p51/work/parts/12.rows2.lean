section XRX
variable {p : Program} {l : Launch} {e : Env} {R : Room} {s : State} {m : MethodId} {args : Array Value} {below : List Frame} {meth : Method} {c : Code} {H : Heap} {locs : List Loc} {cells slots : Nat} {Q : State → Prop}
variable {cc : ByteArray} {pc : Nat} {ls : Array Slot} {rest st0 : List Value} {E : xE} {ST : xST} {A : Nat → Prop} {σ : xW} {Ts : List Cond} {own : String} {nL : Nat}
def ishlZ (a b : Int) : Int := (let x := iZ a; let y := iZ b; x <<< (y &&& 31)).toInt
theorem ishlZ_eq (a b : Int) : iZ (ishlZ a b) = (let x := iZ a; let y := iZ b; x <<< (y &&& 31)) := iZ_self _
theorem x_ishl (hx : p.tables.exec = Jvm.exec) (hb : c.code = cc) {a b : Int} (hdg : decode cc pc = .ok (.ishl, 1)) (k : W p l e R s m args below meth c H locs cells slots Q (F0 m (pc + 1) ls (.int (iZ (ishlZ a b)) :: rest))) : W p l e R s m args below meth c H locs cells slots Q (F0 m pc ls (.int (iZ b) :: .int (iZ a) :: rest)) := lv_ishl hx hb hdg (by rw [ishlZ_eq] at k; exact k)
def ishrZ (a b : Int) : Int := (let x := iZ a; let y := iZ b; x >>> (y &&& 31)).toInt
theorem ishrZ_eq (a b : Int) : iZ (ishrZ a b) = (let x := iZ a; let y := iZ b; x >>> (y &&& 31)) := iZ_self _
theorem x_ishr (hx : p.tables.exec = Jvm.exec) (hb : c.code = cc) {a b : Int} (hdg : decode cc pc = .ok (.ishr, 1)) (k : W p l e R s m args below meth c H locs cells slots Q (F0 m (pc + 1) ls (.int (iZ (ishrZ a b)) :: rest))) : W p l e R s m args below meth c H locs cells slots Q (F0 m pc ls (.int (iZ b) :: .int (iZ a) :: rest)) := lv_ishr hx hb hdg (by rw [ishrZ_eq] at k; exact k)
def iandZ (a b : Int) : Int := (let x := iZ a; let y := iZ b; x &&& y).toInt
theorem iandZ_eq (a b : Int) : iZ (iandZ a b) = (let x := iZ a; let y := iZ b; x &&& y) := iZ_self _
theorem x_iand (hx : p.tables.exec = Jvm.exec) (hb : c.code = cc) {a b : Int} (hdg : decode cc pc = .ok (.iand, 1)) (k : W p l e R s m args below meth c H locs cells slots Q (F0 m (pc + 1) ls (.int (iZ (iandZ a b)) :: rest))) : W p l e R s m args below meth c H locs cells slots Q (F0 m pc ls (.int (iZ b) :: .int (iZ a) :: rest)) := lv_iand hx hb hdg (by rw [iandZ_eq] at k; exact k)
def iorZ (a b : Int) : Int := (let x := iZ a; let y := iZ b; x ||| y).toInt
theorem iorZ_eq (a b : Int) : iZ (iorZ a b) = (let x := iZ a; let y := iZ b; x ||| y) := iZ_self _
theorem x_ior (hx : p.tables.exec = Jvm.exec) (hb : c.code = cc) {a b : Int} (hdg : decode cc pc = .ok (.ior, 1)) (k : W p l e R s m args below meth c H locs cells slots Q (F0 m (pc + 1) ls (.int (iZ (iorZ a b)) :: rest))) : W p l e R s m args below meth c H locs cells slots Q (F0 m pc ls (.int (iZ b) :: .int (iZ a) :: rest)) := lv_ior hx hb hdg (by rw [iorZ_eq] at k; exact k)
def ixorZ (a b : Int) : Int := (let x := iZ a; let y := iZ b; x ^^^ y).toInt
theorem ixorZ_eq (a b : Int) : iZ (ixorZ a b) = (let x := iZ a; let y := iZ b; x ^^^ y) := iZ_self _
theorem x_ixor (hx : p.tables.exec = Jvm.exec) (hb : c.code = cc) {a b : Int} (hdg : decode cc pc = .ok (.ixor, 1)) (k : W p l e R s m args below meth c H locs cells slots Q (F0 m (pc + 1) ls (.int (iZ (ixorZ a b)) :: rest))) : W p l e R s m args below meth c H locs cells slots Q (F0 m pc ls (.int (iZ b) :: .int (iZ a) :: rest)) := lv_ixor hx hb hdg (by rw [ixorZ_eq] at k; exact k)
def iushrZ (a b : Int) : Int := ((iZ a).toUInt32 >>> ((iZ b).toUInt32 &&& Int32.toUInt32 31)).toInt32.toInt
theorem x_iushr (hx : p.tables.exec = Jvm.exec) (hb : c.code = cc) {a b : Int} (hdg : decode cc pc = .ok (.iushr, 1)) (k : W p l e R s m args below meth c H locs cells slots Q (F0 m (pc + 1) ls (.int (iZ (iushrZ a b)) :: rest))) : W p l e R s m args below meth c H locs cells slots Q (F0 m pc ls (.int (iZ b) :: .int (iZ a) :: rest)) := lv_iushr hx hb hdg (iZ_self _).symm k
def i2cZ (a : Int) : Int := ((iZ a).toUInt32 % 65536).toInt32.toInt
theorem i2cZ_in {a : Int} (h0 : 0 ≤ a) (h1 : a ≤ 65535) : i2cZ a = a := by
  unfold i2cZ
  rw [pk_char]
  have e : iZ a = nI a.toNat := by rw [iZ_nI, Int.toNat_of_nonneg h0]
  rw [e, pk_tn (by omega), Nat.mod_eq_of_lt (by omega), nI_toInt (by omega), Int.toNat_of_nonneg h0]
theorem i2cZ_rg (a : Int) : 0 ≤ i2cZ a ∧ i2cZ a ≤ 65535 := by
  unfold i2cZ
  rw [pk_char, nI_toInt (by omega)]
  omega
theorem x_i2c (hx : p.tables.exec = Jvm.exec) (hb : c.code = cc) {a : Int} (hdg : decode cc pc = .ok (.i2c, 1)) (k : W p l e R s m args below meth c H locs cells slots Q (F0 m (pc + 1) ls (.int (iZ (i2cZ a)) :: rest))) : W p l e R s m args below meth c H locs cells slots Q (F0 m pc ls (.int (iZ a) :: rest)) := lv_i2c hx hb hdg (iZ_self _).symm k
theorem x_ldc (hx : p.tables.exec = Jvm.exec) (hb : c.code = cc) (hown : s.vm.findClass own = some m.cls) {index : Nat} {v : Int32} {n : Int} (hc : (Jvm.Cond.constant own index v).before args s = true) (hv : v = iZ n) (hdg : decode cc pc = .ok (.ldc index, 2)) (k : W p l e R s m args below meth c H locs cells slots Q (F0 m (pc + 2) ls (.int (iZ n) :: rest))) : W p l e R s m args below meth c H locs cells slots Q (F0 m pc ls rest) := lv_ldc hx hb hown hc hdg (hv ▸ k)
/-- a row's content, said by another function that is the same on its places -/
theorem ar_cell {cA : ClassId} {n : Nat} {f g : Nat → Int32} (h : ∀ j : Nat, j < n → f j = g j) : vp_cell cA (n, .inl f) = vp_cell cA (n, .inl g) := by
  rw [vp_cell_i, vp_cell_i]
  unfold arrV
  congr 1
  apply Array.ext
  · simp
  · intro i h1 h2
    simp
    exact h i (by simpa using h1)
theorem x_norm {A : Nat → Prop} {H0 : Heap} {cA : ClassId} {n : Nat} {f g : Int → Int} (k0 : Nat) (hk0 : k0 < 85 + xx E) (he : σ k0 = .inl (cA, n, .inl (ar f))) (h : ∀ j : Int, 0 ≤ j → j < n → f j = g j) (hH : Hx E A H0 σ H locs) : Hx E A H0 (wu σ k0 (.inl (cA, n, .inl (ar g)))) H locs := by
  obtain ⟨hP, hD, hS, hA⟩ := hH
  have e : va_at E.1 vwCl (xad E k0, .inl (cA, n, .inl (ar g))) H := by
    have h1 : H[xad E k0]? = some (vp_cell cA (n, .inl (ar f))) := hP k0 _ (wl_get hk0 he)
    show H[xad E k0]? = some (vp_cell cA (n, .inl (ar g)))
    rw [h1]
    exact congrArg some (ar_cell (fun j hj => by unfold ar; rw [h j (by omega) (by omega)]))
  exact ⟨by have h9 := hP.set hD (wl_get hk0 he) e (fun _ _ => rfl); rw [wl_set] at h9; exact h9, by have h9 := hD.set (e := .inl (cA, n, .inl (ar g))) (wl_get hk0 he); rw [wl_set] at h9; exact h9, hS, hA⟩
theorem x_normE {A : Nat → Prop} {H0 : Heap} {cA : ClassId} {n : Nat} {f g : Int → Int} (k0 : Nat) (hk0 : k0 < 85 + xx E) (he : σ k0 = .inl (cA, n, .inl (ar f))) (h : ∀ j : Int, 0 ≤ j → j < n → f j = g j) (hH : Hx E A H0 σ H locs) : ∃ u : xW, u k0 = .inl (cA, n, .inl (ar g)) ∧ (∀ j : Nat, j ≠ k0 → u j = σ j) ∧ Hx E A H0 u H locs := ⟨_, wu_s, fun _ h1 => wu_n h1, x_norm k0 hk0 he h hH⟩
def cyZ (n : Int) (f g : Int → Int) : Int → Int := fun j => if 0 ≤ j ∧ j < n then f j else g j
theorem ar_cpy {n : Nat} {f g : Int → Int} : va_cpy (ar f) (ar g) 0 0 n = ar (cyZ n f g) := by
  funext j
  unfold va_cpy ar cyZ
  by_cases h : j < n
  · rw [if_pos ⟨by omega, by omega⟩, if_pos ⟨by omega, by omega⟩]
    have e : 0 + (j - 0) = j := by omega
    rw [e]
  · rw [if_neg (by omega), if_neg (by omega)]
theorem x_copy (hx : p.tables.exec = Jvm.exec) (hb : c.code = cc) (hml : c.maxLocals = nL) (hts : ∀ w ∈ Ts, w.before args s = true) (hown : s.vm.findClass own = some m.cls) (hK : va_K E.1 vwCl (xT E) s) (hH : Hx E A s.heap σ H locs) {index : Nat} (h1 : Cond.methodLink own index arraycopyName ∈ Ts) (h2 : Cond.native arraycopyName ∈ Ts) (h3 : Cond.static arraycopyName ∈ Ts) (h4 : Cond.initialized "java/lang/System" ∈ Ts) (q0 q1 : Nat) (hq0 : q0 < 85 + xx E) (hq1 : q1 < 85 + xx E) {n : Nat} {f g : Int → Int} (he0 : σ q0 = aI E n f) (he1 : σ q1 = aI E n g) {z : Int} (hz : z = (n : Int)) (hn : n ≤ 2147483647) (hls : ls.size = nL)
    (hframes : 1 ≤ R.frames) (hlocals : (rest.map fun v => v.category).sum + (nativeFrameWords "java/lang/System" "arraycopy" 5 + 11) ≤ R.locals) (hdg : decode cc pc = .ok (.invokestatic index, 3))
    (kk : ∀ (u : xW) (H1 : Heap) (locs1 : List Loc), u q1 = aI E n f → (∀ j : Nat, j ≠ q1 → u j = σ j) → Hx E A s.heap u H1 locs1 → W p l e R s m args below meth c H1 locs1 cells slots Q (F0 m (pc + 3) ls rest)) : W p l e R s m args below meth c H locs cells slots Q (F0 m pc ls (.int (iZ z) :: .int (iZ 0) :: .ref (xad E q1) :: .int (iZ 0) :: .ref (xad E q0) :: rest)) := by
  subst hz
  have hc : (iZ (n : Int)).toNatClampNeg = n := by rw [iZ_clamp (by omega) (by omega)]; omega
  have h0 : (iZ 0).toNatClampNeg = 0 := rfl
  refine va_copyi hx hb (hml.trans hls.symm) hown (hts _ h1) (hts _ h2) (hts _ h3) (hts _ h4) hK hH.1 hH.2.1 hH.2.2.1 q0 q1 0 0 (wl_get hq0 he0) (wl_get hq1 he1) rfl rfl rfl (by decide) (by decide) (by rw [← iZ_0, iZ_lt ⟨by omega, by omega⟩ ⟨by omega, by omega⟩]; omega) (by rw [hc, h0]; omega) (by rw [hc, h0]; omega) (fun _ _ => rfl) hframes hlocals hdg (fun H1 locs1 hP hD hS => ?_)
  rw [hc, h0, ar_cpy] at hP hD
  have hH1 := hH.set hP hD hS
  exact kk _ H1 locs1 wu_s (fun j h => (wu_n h).trans (wu_n h)) (x_norm q1 hq1 wu_s (fun j h5 h6 => by unfold cyZ; rw [if_pos ⟨h5, h6⟩]) hH1)
theorem x_min (hx : p.tables.exec = Jvm.exec) (hb : c.code = cc) (hml : c.maxLocals = nL) (hown : s.vm.findClass own = some m.cls) (hts : ∀ w ∈ Ts, w.before args s = true) {index : Nat} (h1 : Cond.methodLink own index Lib.Math.min.name ∈ Ts) (h2 : Cond.static Lib.Math.min.name ∈ Ts) (h3 : Cond.initialized "java/lang/Math" ∈ Ts) (h4 : Cond.code Lib.Math.min.name Lib.Math.min.code 2 (some .int) ∈ Ts) (hls : ls.size = nL)
    (hframes : 1 ≤ R.frames) (hlocals : (rest.map fun v => v.category).sum + 13 ≤ R.locals) (hc : cells ≤ R.cells) (hs : slots ≤ R.slots) {a b : Int} (ha : rg a) (hb2 : rg b) (hdg : decode cc pc = .ok (.invokestatic index, 3))
    (kk : W p l e R s m args below meth c H locs cells slots Q (F0 m (pc + 3) ls (.int (iZ (if b < a then b else a)) :: rest))) : W p l e R s m args below meth c H locs cells slots Q (F0 m pc ls (.int (iZ b) :: .int (iZ a) :: rest)) :=
  va_mmin hx hb (hml.trans hls.symm) hown (hts _ h1) (hts _ h2) (hts _ h3) (hts _ h4) hframes hlocals hc hs hdg (by
    have e : (if iZ b < iZ a then iZ b else iZ a) = iZ (if b < a then b else a) := by
      by_cases h : b < a
      · rw [if_pos h, if_pos ((iZ_lt hb2 ha).mpr h)]
      · rw [if_neg h, if_neg (fun q => h ((iZ_lt hb2 ha).mp q))]
    rw [e]; exact kk)
theorem x_max (hx : p.tables.exec = Jvm.exec) (hb : c.code = cc) (hml : c.maxLocals = nL) (hown : s.vm.findClass own = some m.cls) (hts : ∀ w ∈ Ts, w.before args s = true) {index : Nat} (h1 : Cond.methodLink own index Lib.Math.max.name ∈ Ts) (h2 : Cond.static Lib.Math.max.name ∈ Ts) (h3 : Cond.initialized "java/lang/Math" ∈ Ts) (h4 : Cond.code Lib.Math.max.name Lib.Math.max.code 2 (some .int) ∈ Ts) (hls : ls.size = nL)
    (hframes : 1 ≤ R.frames) (hlocals : (rest.map fun v => v.category).sum + 13 ≤ R.locals) (hc : cells ≤ R.cells) (hs : slots ≤ R.slots) {a b : Int} (ha : rg a) (hb2 : rg b) (hdg : decode cc pc = .ok (.invokestatic index, 3))
    (kk : W p l e R s m args below meth c H locs cells slots Q (F0 m (pc + 3) ls (.int (iZ (if a < b then b else a)) :: rest))) : W p l e R s m args below meth c H locs cells slots Q (F0 m pc ls (.int (iZ b) :: .int (iZ a) :: rest)) :=
  va_mmax hx hb (hml.trans hls.symm) hown (hts _ h1) (hts _ h2) (hts _ h3) (hts _ h4) hframes hlocals hc hs hdg (by
    have e : (if iZ a < iZ b then iZ b else iZ a) = iZ (if a < b then b else a) := by
      by_cases h : a < b
      · rw [if_pos h, if_pos ((iZ_lt ha hb2).mpr h)]
      · rw [if_neg h, if_neg (fun q => h ((iZ_lt ha hb2).mp q))]
    rw [e]; exact kk)
/-! a method of a class with rows of natives, that has no row itself -/
theorem Met_ofWF {l : Launch} {y : MethodName} {ws ws' : List Cond} {rm : Room} {Pc : Array Value → State → Prop} {Qc : Array Value → State → Outcome → State → Prop} {mc ms : Nat} {free : Addr → Prop} {cc : ByteArray} {maxL : Nat} {ret : Option FieldType}
    (hy : plainFor y = true) (hw : ws = Cond.code y cc maxL ret :: ws')
    (body : ∀ p e s m args below meth c s₁, BodyLoose p l y (headSpec ws rm) cc maxL ret e s m args below meth c s₁ → c.maxLocals = maxL → Pc args s →
      W p l e (headSpec ws rm).room s m args below meth c s.heap [] 0 0 (MQ below Qc args s mc ms free) (entryFrame m args maxL)) : Met l y ws rm Pc Qc mc ms free := by
  refine MetFree.of_bodySF (code := cc) (maxLocals := maxL) (ret := ret) hy ?_ ?_
  · intro args s m h hn
    obtain ⟨meth, c, h1, h2, h3, h4, h5, h6, -, -⟩ := Cond.code_spec hn (atoms_spec (ws := ws) h _ (by rw [hw]; exact List.mem_cons_self))
    exact ⟨meth, c, h1, h2, h3, h4, h5, h6⟩
  · intro p e s m args below meth c s₁ B hml hP _
    have hh0 : s₁.heap = s.heap := by rw [B.state]; rfl
    obtain ⟨t, a1, o, b1, b2, b3⟩ := body p e s m args below meth c s₁ B hml hP s₁ hh0 (Stand.of_body B)
    exact ⟨t, o, a1, b1, b2, b3⟩
theorem CI_ofF {l : Launch} {E : xE} {ST : xST} {y : MethodName} {ws : List Cond} {ws' : List Cond} {rm : Room} {av : List Value} {σ : xW} {cc : ByteArray} {maxL : Nat} {ret : Option FieldType} {post : Int → xW → Prop} (hy : plainFor y = true) (hw : ws = Cond.code y cc maxL ret :: ws') (hn : (lg_sl av).length ≤ maxL)
    (body : ∀ (p : Program) (e : Env) (s : State) (m : MethodId) (args : Array Value) (below : List Frame) (meth : Method) (c : Code) (Q : State → Prop) (ls : Array Slot), Gx E ST y.cls ws cc maxL ret p s m args meth c → Hx E (xA E s.heap.size) s.heap σ s.heap [] → lv_has ls maxL (lv_args 0 av) → Q = MQ below (va_Qi (fun (r : Int32) (u : xW) => ∃ z : Int, r = iZ z ∧ post z u) (xB E s.heap.size) (xA E s.heap.size)) args s rm.cells rm.slots (xA E s.heap.size) →
      W p l e rm s m args below meth c s.heap [] 0 0 Q (F0 m 0 ls [])) : CI l E ST y ws rm av σ post := by
  intro sz
  refine Met_ofWF hy hw ?_
  intro p e s m args below meth c s₁ B hml hv
  obtain ⟨rfl, rfl, G, hH⟩ := Gx_of hw B hml hv
  rw [lg_entry_eq]
  exact body p e s m _ below meth c _ _ G hH (lv_entry av hn) rfl
/-! throws -/
def xEN : List String := ["java/lang/RuntimeException", "java/lang/Exception"]
def xNest : List Cond := [.methodLinkNest RX1 53 yX6_isLine "BrambleShift", .methodLinkNest RX1 70 yX6_isKey "BrambleShift", .methodLinkNest RX1 81 yX6_keyName "BrambleShift", .methodLinkNest RX1 113 yX6_isCell "BrambleShift", .methodLinkNest RX4 78 yX6_isKey "BrambleShift"]
def xThW : List Cond := (vx_atS RX6 287 "java/lang/IndexOutOfBoundsException" xEN ++ vx_atS RX6 149 "java/lang/IllegalArgumentException" xEN ++ vx_atS RX6 246 "java/lang/IllegalStateException" xEN ++ vx_atS RX6 265 "java/lang/UnsupportedOperationException" xEN ++ nsAt RX6 135).filter (fun w => !goodWord w)
def xStr : List (Nat × String) := [(326, "there is no path"), (296, "no state was saved"), (312, "no such row or column"), (322, "no such key"), (271, "no error position was stored"), (273, "no failed command was stored"), (326, "there is no path"), (326, "there is no path"), (317, "no such walker"), (285, "no such character of the output line"), (310, "no such cell"), (147, "no such direction"), (133, "the tile has no lock"), (170, "no walker carries the key"), (324, "the key does not lie on a tile"), (256, "the text is not a program"), (299, "no such cell, row, column or walker"), (197, "the walker stands in this cell"), (301, "an argument is out of range"), (303, "the board does not allow this now"), (305, "the tile has a lock"), (263, "a command fails"), (209, "no key lies where the walker has a path")]
def SF (ST : xST) : Prop := xOK ST ∧ (∀ (A : Nat → Prop) (U : State) (H : Heap), ST A U H → ∀ w ∈ xNest ++ xThW, va_Nw w U) ∧ (∀ (A : Nat → Prop) (U : State) (H : Heap), ST A U H → vx_Zq Bundle.tN "UNASSIGNED_STACK" Bundle.steD A U H ∧ vx_Zq Bundle.tN "SUPPRESSED_SENTINEL" Bundle.listD A U H) ∧ (∀ (A : Nat → Prop) (U : State) (H : Heap), ST A U H → ∀ q ∈ xStr, ∃ a : Nat, vk_R RX6 q.1 q.2 a U)
theorem SF.nest {ST : xST} (h : SF ST) {A : Nat → Prop} {U : State} {H : Heap} (hS : ST A U H) {w : Cond} (hw : w ∈ xNest) : va_Nw w U := h.2.1 A U H hS w (List.mem_append_left _ hw)
/-- which exceptions the class throws: its class link, its constructor link, its name -/
def xExc (ik ic : Nat) (cls : String) : Prop := Bundle.fit cls = true ∧ (∀ w ∈ Cond.classLink RX6 ik cls :: Cond.initialized cls :: vx_atS RX6 ic cls xEN, vx_ot w = true) ∧ ∀ w ∈ (vx_atS RX6 ic cls xEN).filter (fun w => !goodWord w), w ∈ xThW
theorem xExc_0 : xExc 283 287 "java/lang/IndexOutOfBoundsException" := ⟨by decide +kernel, by decide +kernel, by decide +kernel⟩
theorem xExc_1 : xExc 145 149 "java/lang/IllegalArgumentException" := ⟨by decide +kernel, by decide +kernel, by decide +kernel⟩
theorem xExc_2 : xExc 242 246 "java/lang/IllegalStateException" := ⟨by decide +kernel, by decide +kernel, by decide +kernel⟩
theorem xExc_3 : xExc 261 265 "java/lang/UnsupportedOperationException" := ⟨by decide +kernel, by decide +kernel, by decide +kernel⟩
def xExcN (ik ic : Nat) : Prop := (∀ w ∈ Cond.classLink RX6 ik nsC :: Cond.initialized nsC :: nsAt RX6 ic, vx_ot w = true) ∧ (∀ w ∈ (nsAt RX6 ic).filter (fun w => !goodWord w), w ∈ xThW) ∧ (nsAt RX6 ic).filter goodWord = nsW
theorem xExc_4 : xExcN 131 135 := ⟨by decide +kernel, by decide +kernel, rfl⟩
theorem xEN_fit : ∀ n ∈ xEN, Bundle.fit n = true := by decide +kernel
theorem x_throwS (hx : p.tables.exec = Jvm.exec) (hb : c.code = cc) (hml : c.maxLocals = nL) (hl : l.stackTraces = false) (hts : ∀ w ∈ Ts, w.before args s = true) (hown : s.vm.findClass RX6 = some m.cls) (hST : ST (xA E s.heap.size) s s.heap) (hSF : SF ST) (hno : ∀ w ∈ c.exceptionTable.toList, False) (hlocks : meth.locks = false) (hH : Hx E (xA E s.heap.size) s.heap σ H locs) {ik is ic mc ms : Nat} {cls text : String} (hexc : xExc ik ic cls) (h1 : Cond.classLink RX6 ik cls ∈ Ts) (h2 : Cond.initialized cls ∈ Ts) (h3 : ∀ w ∈ (vx_atS RX6 ic cls xEN).filter goodWord, w ∈ Ts) (h4 : (is, text) ∈ xStr) (hls : ls.size = nL) {Qc : Array Value → State → Outcome → State → Prop} {px : String → xW → Prop}
    (d0 : decode cc pc = .ok (.new ik, 3)) (d3 : decode cc (pc + 3) = .ok (.dup, 1)) (d4 : decode cc (pc + 4) = .ok (.ldc is, 2)) (d6 : decode cc (pc + 6) = .ok (.invokespecial ic, 3)) (d9 : decode cc (pc + 9) = .ok (.athrow, 1))
    (hRframes : 5 < R.frames) (hRlocals : (rest.map fun v => v.category).sum + 82 ≤ R.locals) (hRcells : cells + 1 ≤ R.cells) (hRslots : slots + 6 ≤ R.slots) (hp : px cls σ) (hc : cells + 1 ≤ mc) (hs : slots + 6 ≤ ms) :
    W p l e R s m args below meth c H locs cells slots (vx_MQ below Qc (xX E s.heap.size px) args s mc ms (xA E s.heap.size)) (F0 m pc ls rest) := by
  obtain ⟨sa, hstr⟩ := hSF.2.2.2 _ _ _ hST _ h4
  obtain ⟨hU, hN⟩ := hSF.2.2.1 _ _ _ hST
  refine vx_throwS hx hb hl (names := xEN) (A := xA E s.heap.size) hown hexc.1 xEN_fit (hts _ h1) (hts _ h2) hstr (vx_hat (B := (vx_atS RX6 ic cls xEN).filter (fun w => !goodWord w)) (fun w hw => hts w (h3 w hw)) (fun w hw => hw) (fun w hw => ?_)) hexc.2.1 hU hN hH.2.2.1 (hls.trans hml.symm) d0 d3 d4 d6 d9 (fun x hx => (hno x hx).elim) hRframes hRlocals hRcells hRslots hlocks (fun t hvm hsz hk => ⟨σ, trivial, ⟨hp, ?_, hH.2.1⟩, ?_, ?_⟩) hH.2.2.1.2.2 hc hs
  · exact vx_ot_at (State.WarmedH.refl s) rfl (hexc.2.1 w (List.mem_cons_of_mem _ (List.mem_cons_of_mem _ (List.mem_filter.mp hw).1))) (hSF.2.1 _ _ _ hST w (List.mem_append_right _ (hexc.2.2 w hw)))
  · intro k q hq
    exact (hH.1 k q hq).kept (hk q.1 (hH.1 k q hq).lt)
  · exact Nat.le_trans hH.2.2.1.1 hsz
  · intro q h5 h6
    rw [hk q (Nat.lt_of_lt_of_le h5 hH.2.2.1.1)]
    exact hH.2.2.1.2.1 q h5 h6
theorem x_throwSW (hx : p.tables.exec = Jvm.exec) (hb : c.code = cc) (hml : c.maxLocals = nL) (hl : l.stackTraces = false) (hts : ∀ w ∈ Ts, w.before args s = true) (hown : s.vm.findClass RX6 = some m.cls) (hST : ST (xA E s.heap.size) s s.heap) (hSF : SF ST) (hno : ∀ w ∈ c.exceptionTable.toList, False) (hlocks : meth.locks = false) (hH : Hx E (xA E s.heap.size) s.heap σ H locs) {ik is ic mc ms : Nat} {cls text : String} (hexc : xExc ik ic cls) (h1 : Cond.classLink RX6 ik cls ∈ Ts) (h2 : Cond.initialized cls ∈ Ts) (h3 : ∀ w ∈ (vx_atS RX6 ic cls xEN).filter goodWord, w ∈ Ts) (h4 : (is, text) ∈ xStr) (hls : ls.size = nL) {Qc : Array Value → State → Outcome → State → Prop} {px : String → xW → Prop}
    (d0 : decode cc pc = .ok (.new ik, 3)) (d3 : decode cc (pc + 3) = .ok (.dup, 1)) (d4 : decode cc (pc + 4) = .ok (.ldc_w is, 3)) (d6 : decode cc (pc + 7) = .ok (.invokespecial ic, 3)) (d9 : decode cc (pc + 10) = .ok (.athrow, 1))
    (hRframes : 5 < R.frames) (hRlocals : (rest.map fun v => v.category).sum + 82 ≤ R.locals) (hRcells : cells + 1 ≤ R.cells) (hRslots : slots + 6 ≤ R.slots) (hp : px cls σ) (hc : cells + 1 ≤ mc) (hs : slots + 6 ≤ ms) :
    W p l e R s m args below meth c H locs cells slots (vx_MQ below Qc (xX E s.heap.size px) args s mc ms (xA E s.heap.size)) (F0 m pc ls rest) := by
  obtain ⟨sa, hstr⟩ := hSF.2.2.2 _ _ _ hST _ h4
  obtain ⟨hU, hN⟩ := hSF.2.2.1 _ _ _ hST
  refine vx_throwSW hx hb hl (names := xEN) (A := xA E s.heap.size) hown hexc.1 xEN_fit (hts _ h1) (hts _ h2) hstr (vx_hat (B := (vx_atS RX6 ic cls xEN).filter (fun w => !goodWord w)) (fun w hw => hts w (h3 w hw)) (fun w hw => hw) (fun w hw => ?_)) hexc.2.1 hU hN hH.2.2.1 (hls.trans hml.symm) d0 d3 d4 d6 d9 (fun x hx => (hno x hx).elim) hRframes hRlocals hRcells hRslots hlocks (fun t hvm hsz hk => ⟨σ, trivial, ⟨hp, ?_, hH.2.1⟩, ?_, ?_⟩) hH.2.2.1.2.2 hc hs
  · exact vx_ot_at (State.WarmedH.refl s) rfl (hexc.2.1 w (List.mem_cons_of_mem _ (List.mem_cons_of_mem _ (List.mem_filter.mp hw).1))) (hSF.2.1 _ _ _ hST w (List.mem_append_right _ (hexc.2.2 w hw)))
  · intro k q hq
    exact (hH.1 k q hq).kept (hk q.1 (hH.1 k q hq).lt)
  · exact Nat.le_trans hH.2.2.1.1 hsz
  · intro q h5 h6
    rw [hk q (Nat.lt_of_lt_of_le h5 hH.2.2.1.1)]
    exact hH.2.2.1.2.1 q h5 h6
theorem x_throwSN (hx : p.tables.exec = Jvm.exec) (hb : c.code = cc) (hml : c.maxLocals = nL) (hl : l.stackTraces = false) (hts : ∀ w ∈ Ts, w.before args s = true) (hown : s.vm.findClass RX6 = some m.cls) (hST : ST (xA E s.heap.size) s s.heap) (hSF : SF ST) (hno : ∀ w ∈ c.exceptionTable.toList, False) (hlocks : meth.locks = false) (hH : Hx E (xA E s.heap.size) s.heap σ H locs) {ik is ic mc ms : Nat} {text : String} (hexc : xExcN ik ic) (h1 : Cond.classLink RX6 ik nsC ∈ Ts) (h2 : Cond.initialized nsC ∈ Ts) (h3 : ∀ w ∈ nsW, w ∈ Ts) (h4 : (is, text) ∈ xStr) (hls : ls.size = nL) {Qc : Array Value → State → Outcome → State → Prop} {px : String → xW → Prop}
    (d0 : decode cc pc = .ok (.new ik, 3)) (d3 : decode cc (pc + 3) = .ok (.dup, 1)) (d4 : decode cc (pc + 4) = .ok (.ldc is, 2)) (d6 : decode cc (pc + 6) = .ok (.invokespecial ic, 3)) (d9 : decode cc (pc + 9) = .ok (.athrow, 1))
    (hRframes : 5 < R.frames) (hRlocals : (rest.map fun v => v.category).sum + 82 ≤ R.locals) (hRcells : cells + 1 ≤ R.cells) (hRslots : slots + 6 ≤ R.slots) (hp : px nsC σ) (hc : cells + 1 ≤ mc) (hs : slots + 6 ≤ ms) :
    W p l e R s m args below meth c H locs cells slots (vx_MQ below Qc (xX E s.heap.size px) args s mc ms (xA E s.heap.size)) (F0 m pc ls rest) := by
  obtain ⟨sa, hstr⟩ := hSF.2.2.2 _ _ _ hST _ h4
  obtain ⟨hU, hN⟩ := hSF.2.2.1 _ _ _ hST
  refine vn_throwS hx hb hl (A := xA E s.heap.size) hown (hts _ h1) (hts _ h2) hstr (vx_hat (B := (nsAt RX6 ic).filter (fun w => !goodWord w)) (fun w hw => hts w (h3 w (by rw [← hexc.2.2]; exact hw))) (fun w hw => hw) (fun w hw => ?_)) hexc.1 hU hN hH.2.2.1 (hls.trans hml.symm) d0 d3 d4 d6 d9 (fun x hx => (hno x hx).elim) hRframes hRlocals hRcells hRslots hlocks (fun t hvm hsz hk => ⟨σ, trivial, ⟨hp, ?_, hH.2.1⟩, ?_, ?_⟩) hH.2.2.1.2.2 hc hs
  · exact vx_ot_at (State.WarmedH.refl s) rfl (hexc.1 w (List.mem_cons_of_mem _ (List.mem_cons_of_mem _ (List.mem_filter.mp hw).1))) (hSF.2.1 _ _ _ hST w (List.mem_append_right _ (hexc.2.1 w hw)))
  · intro k q hq
    exact (hH.1 k q hq).kept (hk q.1 (hH.1 k q hq).lt)
  · exact Nat.le_trans hH.2.2.1.1 hsz
  · intro q h5 h6
    rw [hk q (Nat.lt_of_lt_of_le h5 hH.2.2.1.1)]
    exact hH.2.2.1.2.1 q h5 h6
theorem x_throwSWN (hx : p.tables.exec = Jvm.exec) (hb : c.code = cc) (hml : c.maxLocals = nL) (hl : l.stackTraces = false) (hts : ∀ w ∈ Ts, w.before args s = true) (hown : s.vm.findClass RX6 = some m.cls) (hST : ST (xA E s.heap.size) s s.heap) (hSF : SF ST) (hno : ∀ w ∈ c.exceptionTable.toList, False) (hlocks : meth.locks = false) (hH : Hx E (xA E s.heap.size) s.heap σ H locs) {ik is ic mc ms : Nat} {text : String} (hexc : xExcN ik ic) (h1 : Cond.classLink RX6 ik nsC ∈ Ts) (h2 : Cond.initialized nsC ∈ Ts) (h3 : ∀ w ∈ nsW, w ∈ Ts) (h4 : (is, text) ∈ xStr) (hls : ls.size = nL) {Qc : Array Value → State → Outcome → State → Prop} {px : String → xW → Prop}
    (d0 : decode cc pc = .ok (.new ik, 3)) (d3 : decode cc (pc + 3) = .ok (.dup, 1)) (d4 : decode cc (pc + 4) = .ok (.ldc_w is, 3)) (d6 : decode cc (pc + 7) = .ok (.invokespecial ic, 3)) (d9 : decode cc (pc + 10) = .ok (.athrow, 1))
    (hRframes : 5 < R.frames) (hRlocals : (rest.map fun v => v.category).sum + 82 ≤ R.locals) (hRcells : cells + 1 ≤ R.cells) (hRslots : slots + 6 ≤ R.slots) (hp : px nsC σ) (hc : cells + 1 ≤ mc) (hs : slots + 6 ≤ ms) :
    W p l e R s m args below meth c H locs cells slots (vx_MQ below Qc (xX E s.heap.size px) args s mc ms (xA E s.heap.size)) (F0 m pc ls rest) := by
  obtain ⟨sa, hstr⟩ := hSF.2.2.2 _ _ _ hST _ h4
  obtain ⟨hU, hN⟩ := hSF.2.2.1 _ _ _ hST
  refine vn_throwSW hx hb hl (A := xA E s.heap.size) hown (hts _ h1) (hts _ h2) hstr (vx_hat (B := (nsAt RX6 ic).filter (fun w => !goodWord w)) (fun w hw => hts w (h3 w (by rw [← hexc.2.2]; exact hw))) (fun w hw => hw) (fun w hw => ?_)) hexc.1 hU hN hH.2.2.1 (hls.trans hml.symm) d0 d3 d4 d6 d9 (fun x hx => (hno x hx).elim) hRframes hRlocals hRcells hRslots hlocks (fun t hvm hsz hk => ⟨σ, trivial, ⟨hp, ?_, hH.2.1⟩, ?_, ?_⟩) hH.2.2.1.2.2 hc hs
  · exact vx_ot_at (State.WarmedH.refl s) rfl (hexc.1 w (List.mem_cons_of_mem _ (List.mem_cons_of_mem _ (List.mem_filter.mp hw).1))) (hSF.2.1 _ _ _ hST w (List.mem_append_right _ (hexc.2.1 w hw)))
  · intro k q hq
    exact (hH.1 k q hq).kept (hk q.1 (hH.1 k q hq).lt)
  · exact Nat.le_trans hH.2.2.1.1 hsz
  · intro q h5 h6
    rw [hk q (Nat.lt_of_lt_of_le h5 hH.2.2.1.1)]
    exact hH.2.2.1.2.1 q h5 h6
end XRX
