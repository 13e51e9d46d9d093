abbrev vwCl : List vw_C := [(RX1, TX1, 9), (RX3, TX3, 3), (RX4, TX4, 5), (RX5, TX5, 5), (RX6, TX6, 12), (RJ0, TJ0, 4), (RJ4, TJ4, 4)]
/-! ints of the machine as whole numbers -/
def iZ (z : Int) : Int32 := Int32.ofInt z
abbrev rg (a : Int) : Prop := -2147483648 ≤ a ∧ a ≤ 2147483647
theorem iZ_add (a b : Int) : iZ a + iZ b = iZ (a + b) := (Int32.ofInt_add a b).symm
theorem iZ_sub (a b : Int) : iZ a - iZ b = iZ (a - b) := (Int32.ofInt_sub a b).symm
theorem iZ_mul (a b : Int) : iZ a * iZ b = iZ (a * b) := (Int32.ofInt_mul a b).symm
theorem iZ_neg (a : Int) : - iZ a = iZ (-a) := (Int32.ofInt_neg a).symm
theorem iZ_toInt {a : Int} (h : rg a) : (iZ a).toInt = a := Int32.toInt_ofInt_of_le (by have := h.1; omega) (by have := h.2; omega)
theorem iZ_self (x : Int32) : iZ x.toInt = x := Int32.ofInt_toInt x
theorem iZ_rg (x : Int32) : rg x.toInt := ⟨by have := Int32.le_toInt x; omega, by have := Int32.toInt_lt x; omega⟩
theorem iZ_eq {a b : Int} (ha : rg a) (hb : rg b) : iZ a = iZ b ↔ a = b := ⟨fun h => by rw [← iZ_toInt ha, ← iZ_toInt hb, h], fun h => by rw [h]⟩
theorem iZ_lt {a b : Int} (ha : rg a) (hb : rg b) : iZ a < iZ b ↔ a < b := by rw [Int32.lt_iff_toInt_lt, iZ_toInt ha, iZ_toInt hb]
theorem iZ_le {a b : Int} (ha : rg a) (hb : rg b) : iZ a ≤ iZ b ↔ a ≤ b := by rw [Int32.le_iff_toInt_le, iZ_toInt ha, iZ_toInt hb]
theorem iZ_clamp {a : Int} (h1 : a ≤ 2147483647) (h0 : 0 ≤ a) : (iZ a).toNatClampNeg = a.toNat := Int32.toNatClampNeg_ofInt_of_le (by omega) (by omega)
theorem iZ_nI (n : Nat) : nI n = iZ (n : Int) := rfl
theorem iZ_0 : iZ 0 = 0 := rfl
theorem iZ_1 : iZ 1 = 1 := rfl
theorem iZ_in {a : Int} {n : Nat} (h0 : 0 ≤ a) (h1 : a < n) (hn : n ≤ 2147483647) : vp_in (iZ a) n := by
  rw [vp_in_iff, iZ_toInt ⟨by omega, by omega⟩]
  exact ⟨h0, h1⟩
def b2 (b : Bool) : Int := cond b 1 0
theorem b2_t : b2 true = 1 := rfl
theorem b2_f : b2 false = 0 := rfl
theorem b2_rg (b : Bool) : 0 ≤ b2 b ∧ b2 b ≤ 1 := by cases b <;> decide
/-! rows of ints by whole numbers -/
def ar (f : Int → Int) : Nat → Int32 := fun j => iZ (f (j : Int))
def ui (f : Int → Int) (k v : Int) : Int → Int := fun j => if j = k then v else f j
theorem ui_s {f : Int → Int} {k v : Int} : ui f k v k = v := if_pos rfl
theorem ui_n {f : Int → Int} {k v j : Int} (h : j ≠ k) : ui f k v j = f j := if_neg h
theorem ar_at {f : Int → Int} {a : Int} (h0 : 0 ≤ a) (h1 : a ≤ 2147483647) : ar f (iZ a).toNatClampNeg = iZ (f a) := by
  unfold ar
  rw [iZ_clamp h1 h0, Int.toNat_of_nonneg h0]
theorem ar_set {f : Int → Int} {a v : Int} (h0 : 0 ≤ a) (h1 : a ≤ 2147483647) : upd (ar f) (iZ a).toNatClampNeg (iZ v) = ar (ui f a v) := by
  funext j
  rw [iZ_clamp h1 h0]
  unfold upd ar ui
  by_cases h : j = a.toNat
  · rw [if_pos h, if_pos (by omega)]
  · rw [if_neg h, if_neg (by omega)]
/-! the world: 85 cells of the class at fixed places, and xx E more, the law's own -/
abbrev xE : Type := va_G × (Nat → Nat) × (ClassId × ClassId × ClassId × ClassId) × Nat
abbrev xad (E : xE) : Nat → Nat := E.2.1
abbrev xI (E : xE) : ClassId := E.2.2.1.1
abbrev xC (E : xE) : ClassId := E.2.2.1.2.1
abbrev xBd (E : xE) : ClassId := E.2.2.1.2.2.1
abbrev xY (E : xE) : ClassId := E.2.2.1.2.2.2
def xx (E : xE) : Nat := E.2.2.2
abbrev xT (E : xE) : List (ClassId × FieldType) := [(xI E, .int), (xC E, .char), (xBd E, .object "BrambleShift$Board"), (xY E, .byte)]
theorem ltw {E : xE} {k : Nat} (h : k < 85) : k < 85 + xx E := Nat.lt_of_lt_of_le h (Nat.le_add_right 85 (xx E))
abbrev xW : Type := Nat → va_E
def wl (E : xE) (σ : xW) : va_W := (List.range (85 + xx E)).map (fun i => (xad E i, σ i))
def wu (σ : xW) (k : Nat) (e : va_E) : xW := fun j => if j = k then e else σ j
theorem wu_s {σ : xW} {k : Nat} {e : va_E} : wu σ k e k = e := if_pos rfl
theorem wu_n {σ : xW} {k j : Nat} {e : va_E} (h : j ≠ k) : wu σ k e j = σ j := if_neg h
theorem wu_at {σ : xW} {k j : Nat} {e e1 : va_E} (h : j ≠ k) (h1 : σ j = e1) : wu σ k e j = e1 := (if_neg h).trans h1
theorem wu_wu {σ : xW} {k : Nat} {e e1 : va_E} : wu (wu σ k e) k e1 = wu σ k e1 := by
  funext j
  unfold wu
  by_cases h : j = k
  · rw [if_pos h, if_pos h]
  · rw [if_neg h, if_neg h, if_neg h]
theorem wu_id {σ : xW} {k : Nat} {e : va_E} (h : σ k = e) : wu σ k e = σ := by
  funext j
  unfold wu
  by_cases hj : j = k
  · rw [if_pos hj, hj, h]
  · rw [if_neg hj]
theorem wu_comm {σ : xW} {k j : Nat} {e e1 : va_E} (h : j ≠ k) : wu (wu σ k e) j e1 = wu (wu σ j e1) k e := by
  funext i
  unfold wu
  by_cases h1 : i = j
  · rw [if_pos h1, if_neg (by omega), if_pos h1]
  · rw [if_neg h1]
    by_cases h2 : i = k
    · rw [if_pos h2, if_pos h2]
    · rw [if_neg h2, if_neg h2, if_neg h1]
theorem wl_get {E : xE} {σ : xW} {k : Nat} {e : va_E} (hk : k < 85 + xx E) (h : σ k = e) : (wl E σ)[k]? = some (xad E k, e) := by
  unfold wl
  rw [List.getElem?_map, List.getElem?_range hk, ← h]
  rfl
theorem wl_lt {E : xE} {σ : xW} {k : Nat} {q : Nat × va_E} (h : (wl E σ)[k]? = some q) : k < 85 + xx E := by
  have h1 := (List.getElem?_eq_some_iff.mp h).1
  unfold wl at h1
  rw [List.length_map, List.length_range] at h1
  exact h1
theorem wl_set {E : xE} {σ : xW} {k : Nat} {e : va_E} : (wl E σ).set k (xad E k, e) = wl E (wu σ k e) := by
  apply List.ext_getElem?
  intro i
  rw [List.getElem?_set]
  by_cases h : k = i
  · subst h
    rw [if_pos rfl]
    by_cases hk : k < 85 + xx E
    · rw [if_pos (by unfold wl; rw [List.length_map, List.length_range]; exact hk)]
      exact (wl_get hk wu_s).symm
    · rw [if_neg (by unfold wl; rw [List.length_map, List.length_range]; exact hk)]
      exact (List.getElem?_eq_none (by unfold wl; rw [List.length_map, List.length_range]; omega)).symm
  · rw [if_neg h]
    by_cases hi : i < 85 + xx E
    · rw [wl_get hi rfl, wl_get hi (wu_n (fun q => h q.symm))]
    · rw [List.getElem?_eq_none (by unfold wl; rw [List.length_map, List.length_range]; omega), List.getElem?_eq_none (by unfold wl; rw [List.length_map, List.length_range]; omega)]
/-- which addresses a method may write -/
def xA (E : xE) (sz : Nat) : Nat → Prop := fun q => (∃ i : Nat, i < 85 + xx E ∧ q = xad E i) ∨ sz ≤ q
abbrev aI (E : xE) (n : Nat) (f : Int → Int) : va_E := .inl (xI E, n, .inl (ar f))
abbrev aC (E : xE) (n : Nat) (f : Int → Int) : va_E := .inl (xC E, n, .inl (ar f))
abbrev oB (ci : Nat) (fs : List Value) : va_E := .inr (ci, fs)
/-! what is known of the statics, and how it is carried -/
abbrev xST : Type := (Nat → Prop) → State → Heap → Prop
def xOK (ST : xST) : Prop := (∀ (A : Nat → Prop) (u U : State) (H : Heap), u.WarmedH U.vm → ST A u H → ST A U H) ∧ (∀ (A : Nat → Prop) (u U : State) (H : Heap), U.vm = u.vm → ST A u H → ST A U H) ∧ (∀ (A : Nat → Prop) (U : State) (H H1 : Heap), (∀ a : Nat, a < H.size → ¬ A a → H1[a]? = H[a]?) → ST A U H → ST A U H1) ∧ (∀ (A B : Nat → Prop) (U : State) (H : Heap), (∀ q, B q → A q) → ST A U H → ST B U H)
def Hx (E : xE) (A : Nat → Prop) (H0 : Heap) (σ : xW) (H : Heap) (locs : List Loc) : Prop := va_P E.1 vwCl (wl E σ) H ∧ va_D A (wl E σ) ∧ va_S A H0 H locs ∧ ∀ q : Nat, H0.size ≤ q → A q
theorem Hx.A {E : xE} {A : Nat → Prop} {H0 H : Heap} {σ : xW} {locs : List Loc} (h : Hx E A H0 σ H locs) : ∀ q, xA E H.size q → A q := by
  obtain ⟨-, hD, hS, hA⟩ := h
  intro q hq
  rcases hq with ⟨i, hi, rfl⟩ | h1
  · exact hD.2 i _ (wl_get hi rfl)
  · exact hA q (Nat.le_trans hS.1 h1)
theorem Hx.eq {E : xE} {A : Nat → Prop} {H0 H : Heap} {σ σ1 : xW} {locs : List Loc} (h : Hx E A H0 σ H locs) (e : σ = σ1) : Hx E A H0 σ1 H locs := e ▸ h
def xPre (E : xE) (ST : xST) (σ : xW) (sz : Nat) : State → Prop := fun U => U.heap.size = sz ∧ va_P E.1 vwCl (wl E σ) U.heap ∧ va_K E.1 vwCl (xT E) U ∧ va_D (fun _ => True) (wl E σ) ∧ ST (xA E sz) U U.heap
def xB (E : xE) (sz : Nat) (u : xW) (t : State) : Prop := va_P E.1 vwCl (wl E u) t.heap ∧ va_D (xA E sz) (wl E u)
theorem xPre.blind {E : xE} {ST : xST} (hOK : xOK ST) (av : List Value) (σ : xW) (sz : Nat) : FrameBlind (va_Pc av (xPre E ST σ sz)) := by
  intro a U g mk h
  obtain ⟨h1, h2, h3, h4, h5, h6⟩ := h
  exact ⟨h1, h2, h3, va_K.moved (u := U) (U := U.calling g mk a) (Vm.Alike.refl U.vm) h4, h5, hOK.2.1 _ U (U.calling g mk a) _ rfl h6⟩
theorem xPre.of {E : xE} {ST : xST} {A : Nat → Prop} {s U : State} {H : Heap} {σ : xW} {locs : List Loc} (hOK : xOK ST) (hK : va_K E.1 vwCl (xT E) s) (hST : ST A s s.heap) (hH : Hx E A s.heap σ H locs) (hU : U.heap = H) (hW : s.WarmedH U.vm) : xPre E ST σ H.size U := by
  refine ⟨by rw [hU], by rw [hU]; exact hH.1, va_K.moved hW.alike hK, hH.2.1.weaken (fun _ _ _ _ => trivial), ?_⟩
  rw [hU]
  exact hOK.2.2.2 _ _ _ _ hH.A (hOK.1 _ _ _ _ hW (hOK.2.2.1 _ _ _ _ hH.2.2.1.2.1 hST))
/-! contracts -/
def CI (l : Launch) (E : xE) (ST : xST) (y : MethodName) (ws : List Cond) (rm : Room) (av : List Value) (σ : xW) (post : Int → xW → Prop) : Prop := ∀ sz : Nat, Met l y ws rm (va_Pc av (xPre E ST σ sz)) (va_Qi (fun (r : Int32) (u : xW) => ∃ z : Int, r = iZ z ∧ post z u) (xB E sz) (xA E sz)) rm.cells rm.slots (xA E sz)
def CV (l : Launch) (E : xE) (ST : xST) (y : MethodName) (ws : List Cond) (rm : Room) (av : List Value) (σ : xW) (post : xW → Prop) : Prop := ∀ sz : Nat, Met l y ws rm (va_Pc av (xPre E ST σ sz)) (va_Qv post (xB E sz) (xA E sz)) rm.cells rm.slots (xA E sz)
def CL (l : Launch) (E : xE) (ST : xST) (y : MethodName) (ws : List Cond) (rm : Room) (av : List Value) (σ : xW) (post : Int64 → xW → Prop) : Prop := ∀ sz : Nat, Met l y ws rm (va_Pc av (xPre E ST σ sz)) (va_Ql post (xB E sz) (xA E sz)) rm.cells rm.slots (xA E sz)
def CF (l : Launch) (E : xE) (ST : xST) (y : MethodName) (ws : List Cond) (rm : Room) (av : List Value) (σ : xW) (post : UInt32 → xW → Prop) : Prop := ∀ sz : Nat, Met l y ws rm (va_Pc av (xPre E ST σ sz)) (va_Qf post (xB E sz) (xA E sz)) rm.cells rm.slots (xA E sz)
def CD (l : Launch) (E : xE) (ST : xST) (y : MethodName) (ws : List Cond) (rm : Room) (av : List Value) (σ : xW) (post : UInt64 → xW → Prop) : Prop := ∀ sz : Nat, Met l y ws rm (va_Pc av (xPre E ST σ sz)) (va_Qd post (xB E sz) (xA E sz)) rm.cells rm.slots (xA E sz)
abbrev xX (E : xE) (sz : Nat) (px : String → xW → Prop) : String → State → State → Prop := vx_X (S := xW) (fun _ => True) (fun (n : String) (u : xW) (t : State) => px n u ∧ xB E sz u t) (xA E sz)
def XI (l : Launch) (E : xE) (ST : xST) (y : MethodName) (ws : List Cond) (rm : Room) (av : List Value) (σ : xW) (post : Int → xW → Prop) (px : String → xW → Prop) : Prop := ∀ sz : Nat, vx_Met l y ws rm (va_Pc av (xPre E ST σ sz)) (va_Qi (fun (r : Int32) (u : xW) => ∃ z : Int, r = iZ z ∧ post z u) (xB E sz) (xA E sz)) (xX E sz px) rm.cells rm.slots (xA E sz)
def XV (l : Launch) (E : xE) (ST : xST) (y : MethodName) (ws : List Cond) (rm : Room) (av : List Value) (σ : xW) (post : xW → Prop) (px : String → xW → Prop) : Prop := ∀ sz : Nat, vx_Met l y ws rm (va_Pc av (xPre E ST σ sz)) (va_Qv post (xB E sz) (xA E sz)) (xX E sz px) rm.cells rm.slots (xA E sz)
def XF (l : Launch) (E : xE) (ST : xST) (y : MethodName) (ws : List Cond) (rm : Room) (av : List Value) (σ : xW) (post : UInt32 → xW → Prop) (px : String → xW → Prop) : Prop := ∀ sz : Nat, vx_Met l y ws rm (va_Pc av (xPre E ST σ sz)) (va_Qf post (xB E sz) (xA E sz)) (xX E sz px) rm.cells rm.slots (xA E sz)
/-- what a body knows of its machine -/
def Gx (E : xE) (ST : xST) (own : String) (Ts : List Cond) (cc : ByteArray) (nL : Nat) (ret : Option FieldType) (p : Program) (s : State) (m : MethodId) (args : Array Value) (meth : Method) (c : Code) : Prop :=
  p.tables.exec = Jvm.exec ∧ c.code = cc ∧ c.maxLocals = nL ∧ s.vm.findClass own = some m.cls ∧ (∀ w ∈ Ts, w.before args s = true) ∧ va_K E.1 vwCl (xT E) s ∧ ST (xA E s.heap.size) s s.heap ∧ meth.locks = false ∧ meth.sig.returnType = ret ∧ (∀ w ∈ c.exceptionTable.toList, False)
theorem Gx_of {l : Launch} {E : xE} {ST : xST} {y : MethodName} {ws : List Cond} {ws' : List Cond} {rm : Room} {av : List Value} {σ : xW} {sz : Nat} {cc : ByteArray} {maxL : Nat} {ret : Option FieldType} {p : Program} {e : Env} {s : State} {m : MethodId} {args : Array Value} {below : List Frame} {meth : Method} {c : Code} {s₁ : State}
    (hw : ws = Cond.code y cc maxL ret :: ws') (B : BodyLoose p l y (headSpec ws rm) cc maxL ret e s m args below meth c s₁) (hml : c.maxLocals = maxL) (hv : va_Pc av (xPre E ST σ sz) args s) : args = av.toArray ∧ s.heap.size = sz ∧ Gx E ST y.cls ws cc maxL ret p s m args meth c ∧ Hx E (xA E s.heap.size) s.heap σ s.heap [] := by
  obtain ⟨hargs, hsz, hP, hK, hD, hST⟩ := hv
  have hts := atoms_spec (ws := ws) B.pre
  refine ⟨hargs, hsz, ⟨B.exec, B.bytes, hml, findClass_of_methodNamed B.named, hts, hK, by rw [hsz]; exact hST, B.notSynchronized, B.returns, ?_⟩, hP, ⟨hD.1, fun k q hk => Or.inl ⟨k, wl_lt hk, ?_⟩⟩, va_S.rf, fun q h => Or.inr h⟩
  · obtain ⟨meth9, c9, h1, h2, -, -, -, -, h7, -⟩ := Cond.code_spec B.named (hts _ (by rw [hw]; exact List.mem_cons_self))
    cases Option.some.inj (h1.symm.trans B.method)
    cases Option.some.inj (h2.symm.trans (Stand.of_body B).code)
    intro x hx
    rw [Array.isEmpty_iff.mp h7] at hx
    cases hx
  · have h1 := wl_get (E := E) (σ := σ) (wl_lt hk) rfl
    rw [hk] at h1
    rw [Option.some.inj h1]
section XST
variable {l : Launch} {E : xE} {ST : xST} {y : MethodName} {ws : List Cond} {ws' : List Cond} {rm : Room} {av : List Value} {σ : xW} {cc : ByteArray} {maxL : Nat} {ret : Option FieldType}
theorem CI_of {post : Int → xW → Prop} (hy : plainName y.cls = true) (hw : ws = Cond.code y cc maxL ret :: ws') (hn : (lg_sl av).length ≤ maxL)
    (body : ∀ (p : Program) (e : Env) (s : State) (m : MethodId) (args : Array Value) (below : List Frame) (meth : Method) (c : Code) (Q : State → Prop) (ls : Array Slot), Gx E ST y.cls ws cc maxL ret p s m args meth c → Hx E (xA E s.heap.size) s.heap σ s.heap [] → lv_has ls maxL (lv_args 0 av) → Q = MQ below (va_Qi (fun (r : Int32) (u : xW) => ∃ z : Int, r = iZ z ∧ post z u) (xB E s.heap.size) (xA E s.heap.size)) args s rm.cells rm.slots (xA E s.heap.size) →
      W p l e rm s m args below meth c s.heap [] 0 0 Q (F0 m 0 ls [])) : CI l E ST y ws rm av σ post := by
  intro sz
  refine Met.ofW hy hw ?_
  intro p e s m args below meth c s₁ B hml hv
  obtain ⟨rfl, rfl, G, hH⟩ := Gx_of hw B hml hv
  rw [lg_entry_eq]
  exact body p e s m _ below meth c _ _ G hH (lv_entry av hn) rfl
theorem CV_of {post : xW → Prop} (hy : plainName y.cls = true) (hw : ws = Cond.code y cc maxL ret :: ws') (hn : (lg_sl av).length ≤ maxL)
    (body : ∀ (p : Program) (e : Env) (s : State) (m : MethodId) (args : Array Value) (below : List Frame) (meth : Method) (c : Code) (Q : State → Prop) (ls : Array Slot), Gx E ST y.cls ws cc maxL ret p s m args meth c → Hx E (xA E s.heap.size) s.heap σ s.heap [] → lv_has ls maxL (lv_args 0 av) → Q = MQ below (va_Qv post (xB E s.heap.size) (xA E s.heap.size)) args s rm.cells rm.slots (xA E s.heap.size) →
      W p l e rm s m args below meth c s.heap [] 0 0 Q (F0 m 0 ls [])) : CV l E ST y ws rm av σ post := by
  intro sz
  refine Met.ofW hy hw ?_
  intro p e s m args below meth c s₁ B hml hv
  obtain ⟨rfl, rfl, G, hH⟩ := Gx_of hw B hml hv
  rw [lg_entry_eq]
  exact body p e s m _ below meth c _ _ G hH (lv_entry av hn) rfl
theorem CL_of {post : Int64 → xW → Prop} (hy : plainName y.cls = true) (hw : ws = Cond.code y cc maxL ret :: ws') (hn : (lg_sl av).length ≤ maxL)
    (body : ∀ (p : Program) (e : Env) (s : State) (m : MethodId) (args : Array Value) (below : List Frame) (meth : Method) (c : Code) (Q : State → Prop) (ls : Array Slot), Gx E ST y.cls ws cc maxL ret p s m args meth c → Hx E (xA E s.heap.size) s.heap σ s.heap [] → lv_has ls maxL (lv_args 0 av) → Q = MQ below (va_Ql post (xB E s.heap.size) (xA E s.heap.size)) args s rm.cells rm.slots (xA E s.heap.size) →
      W p l e rm s m args below meth c s.heap [] 0 0 Q (F0 m 0 ls [])) : CL l E ST y ws rm av σ post := by
  intro sz
  refine Met.ofW hy hw ?_
  intro p e s m args below meth c s₁ B hml hv
  obtain ⟨rfl, rfl, G, hH⟩ := Gx_of hw B hml hv
  rw [lg_entry_eq]
  exact body p e s m _ below meth c _ _ G hH (lv_entry av hn) rfl
theorem CF_of {post : UInt32 → xW → Prop} (hy : plainName y.cls = true) (hw : ws = Cond.code y cc maxL ret :: ws') (hn : (lg_sl av).length ≤ maxL)
    (body : ∀ (p : Program) (e : Env) (s : State) (m : MethodId) (args : Array Value) (below : List Frame) (meth : Method) (c : Code) (Q : State → Prop) (ls : Array Slot), Gx E ST y.cls ws cc maxL ret p s m args meth c → Hx E (xA E s.heap.size) s.heap σ s.heap [] → lv_has ls maxL (lv_args 0 av) → Q = MQ below (va_Qf post (xB E s.heap.size) (xA E s.heap.size)) args s rm.cells rm.slots (xA E s.heap.size) →
      W p l e rm s m args below meth c s.heap [] 0 0 Q (F0 m 0 ls [])) : CF l E ST y ws rm av σ post := by
  intro sz
  refine Met.ofW hy hw ?_
  intro p e s m args below meth c s₁ B hml hv
  obtain ⟨rfl, rfl, G, hH⟩ := Gx_of hw B hml hv
  rw [lg_entry_eq]
  exact body p e s m _ below meth c _ _ G hH (lv_entry av hn) rfl
theorem CD_of {post : UInt64 → xW → Prop} (hy : plainName y.cls = true) (hw : ws = Cond.code y cc maxL ret :: ws') (hn : (lg_sl av).length ≤ maxL)
    (body : ∀ (p : Program) (e : Env) (s : State) (m : MethodId) (args : Array Value) (below : List Frame) (meth : Method) (c : Code) (Q : State → Prop) (ls : Array Slot), Gx E ST y.cls ws cc maxL ret p s m args meth c → Hx E (xA E s.heap.size) s.heap σ s.heap [] → lv_has ls maxL (lv_args 0 av) → Q = MQ below (va_Qd post (xB E s.heap.size) (xA E s.heap.size)) args s rm.cells rm.slots (xA E s.heap.size) →
      W p l e rm s m args below meth c s.heap [] 0 0 Q (F0 m 0 ls [])) : CD l E ST y ws rm av σ post := by
  intro sz
  refine Met.ofW hy hw ?_
  intro p e s m args below meth c s₁ B hml hv
  obtain ⟨rfl, rfl, G, hH⟩ := Gx_of hw B hml hv
  rw [lg_entry_eq]
  exact body p e s m _ below meth c _ _ G hH (lv_entry av hn) rfl
theorem XI_of {post : Int → xW → Prop} {px : String → xW → Prop} (hy : plainName y.cls = true) (hw : ws = Cond.code y cc maxL ret :: ws') (hn : (lg_sl av).length ≤ maxL)
    (body : ∀ (p : Program) (e : Env) (s : State) (m : MethodId) (args : Array Value) (below : List Frame) (meth : Method) (c : Code) (Q : State → Prop) (ls : Array Slot), Gx E ST y.cls ws cc maxL ret p s m args meth c → Hx E (xA E s.heap.size) s.heap σ s.heap [] → lv_has ls maxL (lv_args 0 av) → Q = vx_MQ below (va_Qi (fun (r : Int32) (u : xW) => ∃ z : Int, r = iZ z ∧ post z u) (xB E s.heap.size) (xA E s.heap.size)) (xX E s.heap.size px) args s rm.cells rm.slots (xA E s.heap.size) →
      W p l e rm s m args below meth c s.heap [] 0 0 Q (F0 m 0 ls [])) : XI l E ST y ws rm av σ post px := by
  intro sz
  refine vx_ofW hy hw ?_
  intro p e s m args below meth c s₁ B hml ht hv
  obtain ⟨rfl, rfl, G, hH⟩ := Gx_of hw B hml hv
  rw [lg_entry_eq]
  exact body p e s m _ below meth c _ _ G hH (lv_entry av hn) rfl
theorem XV_of {post : xW → Prop} {px : String → xW → Prop} (hy : plainName y.cls = true) (hw : ws = Cond.code y cc maxL ret :: ws') (hn : (lg_sl av).length ≤ maxL)
    (body : ∀ (p : Program) (e : Env) (s : State) (m : MethodId) (args : Array Value) (below : List Frame) (meth : Method) (c : Code) (Q : State → Prop) (ls : Array Slot), Gx E ST y.cls ws cc maxL ret p s m args meth c → Hx E (xA E s.heap.size) s.heap σ s.heap [] → lv_has ls maxL (lv_args 0 av) → Q = vx_MQ below (va_Qv post (xB E s.heap.size) (xA E s.heap.size)) (xX E s.heap.size px) args s rm.cells rm.slots (xA E s.heap.size) →
      W p l e rm s m args below meth c s.heap [] 0 0 Q (F0 m 0 ls [])) : XV l E ST y ws rm av σ post px := by
  intro sz
  refine vx_ofW hy hw ?_
  intro p e s m args below meth c s₁ B hml ht hv
  obtain ⟨rfl, rfl, G, hH⟩ := Gx_of hw B hml hv
  rw [lg_entry_eq]
  exact body p e s m _ below meth c _ _ G hH (lv_entry av hn) rfl
theorem XF_of {post : UInt32 → xW → Prop} {px : String → xW → Prop} (hy : plainName y.cls = true) (hw : ws = Cond.code y cc maxL ret :: ws') (hn : (lg_sl av).length ≤ maxL)
    (body : ∀ (p : Program) (e : Env) (s : State) (m : MethodId) (args : Array Value) (below : List Frame) (meth : Method) (c : Code) (Q : State → Prop) (ls : Array Slot), Gx E ST y.cls ws cc maxL ret p s m args meth c → Hx E (xA E s.heap.size) s.heap σ s.heap [] → lv_has ls maxL (lv_args 0 av) → Q = vx_MQ below (va_Qf post (xB E s.heap.size) (xA E s.heap.size)) (xX E s.heap.size px) args s rm.cells rm.slots (xA E s.heap.size) →
      W p l e rm s m args below meth c s.heap [] 0 0 Q (F0 m 0 ls [])) : XF l E ST y ws rm av σ post px := by
  intro sz
  refine vx_ofW hy hw ?_
  intro p e s m args below meth c s₁ B hml ht hv
  obtain ⟨rfl, rfl, G, hH⟩ := Gx_of hw B hml hv
  rw [lg_entry_eq]
  exact body p e s m _ below meth c _ _ G hH (lv_entry av hn) rfl
end XST
