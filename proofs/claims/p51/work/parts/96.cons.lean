/-! ===== the making of the world: lists of cells that grow ===== -/
def Hy (E : xE) (A : Nat → Prop) (H0 : Heap) (W9 : va_W) (H : Heap) (locs : List Loc) : Prop := va_P E.1 vwCl W9 H ∧ va_D A W9 ∧ va_S A H0 H locs ∧ ∀ q : Nat, H0.size ≤ q → A q
def SO (ST : xST) : Prop := ∀ (A : Nat → Prop) (U : State) (H : Heap), ST A U H → va_AO RX1 U ∧ va_Nw (.methodLinkNest RX6 38 yX5_init "BrambleShift") U ∧ va_Nw (.methodLinkNest RX6 45 yX4_init "BrambleShift") U
def yPre (E : xE) (ST : xST) (W9 : va_W) (sz : Nat) : State → Prop := fun U => U.heap.size = sz ∧ va_P E.1 vwCl W9 U.heap ∧ va_K E.1 vwCl (xT E) U ∧ va_D (fun _ => True) W9 ∧ ST (va_A W9 sz) U U.heap
theorem yPre.blind {E : xE} {ST : xST} (hOK : xOK ST) (av : List Value) (W9 : va_W) (sz : Nat) : FrameBlind (va_Pc av (yPre E ST W9 sz)) := by
  intro a U g mk h
  obtain ⟨h1, h2, h3, h4, h5, h6⟩ := h
  exact ⟨h1, h2, h3, va_K.moved (u := U) (U := U.calling g mk a) (Vm.Alike.refl U.vm) h4, h5, hOK.2.1 _ U (U.calling g mk a) _ rfl h6⟩
/-- a constructor, or a method over a few cells -/
def CN (U9 : Type) (l : Launch) (E : xE) (ST : xST) (y : MethodName) (ws : List Cond) (rm : Room) (ci : Nat) (fs : List Value) (L : Nat → U9 → va_W) : Prop := ∀ h0 sz : Nat, Met l y ws rm (va_Pc [.ref h0] (yPre E ST [(h0, .inr (ci, fs))] sz)) (va_Qv (fun _ : U9 => True) (fun u t => va_P E.1 vwCl (L h0 u) t.heap ∧ va_D (va_A [(h0, .inr (ci, fs))] sz) (L h0 u)) (va_A [(h0, .inr (ci, fs))] sz)) rm.cells rm.slots (va_A [(h0, .inr (ci, fs))] sz)
theorem nd_range : ∀ (l : List Nat), l.Nodup → va_nd l = true
  | [], _ => rfl
  | a :: l, h => by
    have h2 := List.nodup_cons.mp h
    show (decide (a ∉ l) && va_nd l) = true
    rw [nd_range l h2.2, decide_eq_true h2.1]
    rfl
/-- behind a call over the cells wc: the others are as they were -/
theorem Hy.join {E : xE} {A : Nat → Prop} {H0 H H1 : Heap} {W9 w1 : va_W} {x : Nat × va_E} {locs locs1 : List Loc} (h : Hy E A H0 (W9 ++ [x]) H locs) (hk : ∀ q : Nat, q < H.size → ¬ va_A [x] H.size q → H1[q]? = H[q]?) (hP1 : va_P E.1 vwCl w1 H1) (hD1 : va_D (va_A [x] H.size) w1) (hS1 : va_S A H0 H1 locs1) : Hy E A H0 (W9 ++ w1) H1 locs1 := by
  obtain ⟨hP, hD, hS, hA⟩ := h
  have hC : [W9.length].map (fun i => (W9 ++ [x])[i]?) = [x].map some := by simp
  have hF := va_free (wc := [x]) hD hS hA [W9.length] hC
  have hR : (List.range W9.length).map (fun i => (W9 ++ [x])[i]?) = W9.map some := by
    apply List.ext_getElem?
    intro i
    rw [List.getElem?_map, List.getElem?_map]
    by_cases hi : i < W9.length
    · rw [List.getElem?_range hi, List.getElem?_eq_getElem hi]
      show some ((W9 ++ [x])[i]?) = _
      rw [List.getElem?_append_left hi, List.getElem?_eq_getElem hi]
      rfl
    · rw [List.getElem?_eq_none (by rw [List.length_range]; omega), List.getElem?_eq_none (by omega)]
      rfl
  obtain ⟨hP2, hD2⟩ := va_join (wr := W9) (w1 := w1) hP hD [W9.length] (List.range W9.length) hC hR (nd_range _ List.nodup_range) (fun i hi h2 => by have h3 := List.mem_range.mp hi; rw [List.mem_singleton] at h2; omega) hk hF hP1 hD1
  exact ⟨hP2, hD2, hS1, hA⟩
section YR
variable {p : Program} {l : Launch} {e : Env} {R : Room} {s : State} {m : MethodId} {args : Array Value} {below : List Frame} {meth : Method} {c : Code} {H : Heap} {locs : List Loc} {cells slots : Nat} {Q : State → Prop}
variable {cc : ByteArray} {pc : Nat} {ls : Array Slot} {rest st0 : List Value} {E : xE} {ST : xST} {A : Nat → Prop} {W9 W8 : va_W} {Ts : List Cond} {own : String} {nL : Nat} {U9 : Type} {L : Nat → U9 → va_W}
theorem yPre.of {x : Nat × va_E} {H1 : Heap} {locs1 : List Loc} (hOK : xOK ST) (hK : va_K E.1 vwCl (xT E) s) (hST : ST A s s.heap) (hH : Hy E A s.heap (W9 ++ [x]) H1 locs1) {U : State} (hU : U.heap = H1) (hW : s.WarmedH U.vm) : yPre E ST [x] H1.size U := by
  obtain ⟨hP, hD, hS, hA⟩ := hH
  have hC : [W9.length].map (fun i => (W9 ++ [x])[i]?) = [x].map some := by simp
  have hC2 : [W9.length].filterMap (fun i => (W9 ++ [x])[i]?) = [x] := by simp
  have hF := va_free (wc := [x]) hD hS hA [W9.length] hC
  refine ⟨by rw [hU], by rw [hU]; exact hP.sub [W9.length] hC2, va_K.moved hW.alike hK, (hD.sub [W9.length] rfl hC).weaken (fun _ _ _ _ => trivial), ?_⟩
  rw [hU]
  exact hOK.2.2.2 _ _ _ _ hF (hOK.1 _ _ _ _ hW (hOK.2.2.1 _ _ _ _ hS.2.1 hST))
theorem y_new (hx : p.tables.exec = Jvm.exec) (hb : c.code = cc) (hts : ∀ w ∈ Ts, w.before args s = true) (hown : s.vm.findClass own = some m.cls) (hK : va_K E.1 vwCl (xT E) s) (hH : Hy E A s.heap W9 H locs) {C : String} {T : u_T} {N ci index : Nat} {fs : List Value} (hin : ∀ w ∈ u_ws C T N, w ∈ Ts) (ty : Nat → FieldType) (hty : ∀ k, k < N → parseFieldDescriptor (T k).2.2.1 = some (ty k)) (hcl : Cond.classLink own index C ∈ Ts) (hinst : Cond.instantiable C N ∈ Ts) (hini : Cond.initialized C ∈ Ts) (hc : vwCl[ci]? = some (C, T, N)) (hfs : ∀ j, j < N → defaultValue (ty j) = vp_V fs j) (hcells : cells + 1 ≤ R.cells) (hslots : slots + N ≤ R.slots) (hdg : decode cc pc = .ok (.new index, 3))
    (kk : ∀ (q : Nat) (H1 : Heap), Hy E A s.heap (W9 ++ [(q, .inr (ci, fs))]) H1 locs → W p l e R s m args below meth c H1 locs (cells + 1) (slots + N) Q (F0 m (pc + 3) ls (.ref q :: rest))) : W p l e R s m args below meth c H locs cells slots Q (F0 m pc ls rest) :=
  va_new hx hb hts hin ty hty hown (hts _ hcl) (hts _ hinst) (hts _ hini) hK hH.1 hH.2.1 hH.2.2.1 hH.2.2.2 hc hfs hcells hslots hdg (fun q H1 hP hD hS => kk q H1 ⟨hP, hD, hS, hH.2.2.2⟩)
/-- new, dup, invokespecial of the constructor without numbers -/
theorem y_mk (hx : p.tables.exec = Jvm.exec) (hb : c.code = cc) (hml : c.maxLocals = nL) (hts : ∀ w ∈ Ts, w.before args s = true) (hown : s.vm.findClass own = some m.cls) (hK : va_K E.1 vwCl (xT E) s) (hST : ST A s s.heap) (hOK : xOK ST) (hH : Hy E A s.heap W9 H locs) {y : MethodName} {bytes : ByteArray} {maxL : Nat} {ws : List Cond} {rm : Room} {ci : Nat} {fs : List Value} (hM : CN U9 l E ST y ws rm ci fs L) {T : u_T} {N ix ik : Nat} (hin : ∀ w ∈ u_ws y.cls T N, w ∈ Ts) (ty : Nat → FieldType) (hty : ∀ k, k < N → parseFieldDescriptor (T k).2.2.1 = some (ty k)) (hcl : Cond.classLink own ik y.cls ∈ Ts) (hinst : Cond.instantiable y.cls N ∈ Ts) (hini : Cond.initialized y.cls ∈ Ts) (hc : vwCl[ci]? = some (y.cls, T, N)) (hfs : ∀ j, j < N → defaultValue (ty j) = vp_V fs j)
    (cw : CallB R s args own ix y bytes maxL none ws rm rm.cells rm.slots 0 ∧ y.name = "<init>" ∧ (Cond.instanceMethod y).before args s = true) (hls : ls.size = nL) (hroom : (rest.map fun v => v.category).sum + 1 ≤ 8) (d0 : decode cc pc = .ok (.new ik, 3)) (d3 : decode cc (pc + 3) = .ok (.dup, 1)) (d4 : decode cc (pc + 4) = .ok (.invokespecial ix, 3)) (hcells : cells + 1 + rm.cells ≤ R.cells) (hslots : slots + N + rm.slots ≤ R.slots)
    (kk : ∀ (q : Nat) (u : U9) (H1 : Heap) (locs1 : List Loc), Hy E A s.heap (W9 ++ L q u) H1 locs1 → W p l e R s m args below meth c H1 locs1 (cells + 1 + rm.cells) (slots + N + rm.slots) Q (F0 m (pc + 7) ls (.ref q :: rest))) : W p l e R s m args below meth c H locs cells slots Q (F0 m pc ls rest) := by
  refine y_new hx hb hts hown hK hH hin ty hty hcl hinst hini hc hfs (by omega) (by omega) d0 (fun q H1 hH1 => ?_)
  refine lv_dup hx hb d3 rfl ?_
  have hC : [W9.length].map (fun i => (W9 ++ [(q, Sum.inr (ci, fs))])[i]?) = [((q, Sum.inr (ci, fs)) : Nat × va_E)].map some := by simp
  have hF := va_free (wc := [(q, .inr (ci, fs))]) hH1.2.1 hH1.2.2.1 hH1.2.2.2 [W9.length] hC
  refine va_callv (va_runI (As := []) (rest := .ref q :: rest) ⟨hx, hb, hml, hown, hts⟩ (hM q H1.size) cw ⟨yPre.blind hOK _ _ _, fun U hU hW => ⟨rfl, yPre.of hOK hK hST hH1 hU hW⟩⟩ rfl rfl hls rfl (lv_room (by rw [List.map_cons, List.sum_cons]; show 1 + _ ≤ 8; omega)) d4 ⟨hcells, hslots⟩) hH1.2.2.1 (fun q _ h => hF q h) hF (fun u t H2 locs2 ht hvm hw hB hz hk hS2 => ?_)
  obtain ⟨hP1, hD1⟩ := hB
  rw [ht] at hP1
  exact kk q u H2 locs2 (hH1.join hk hP1 hD1 hS2)
theorem y_mkN (hx : p.tables.exec = Jvm.exec) (hb : c.code = cc) (hml : c.maxLocals = nL) (hts : ∀ w ∈ Ts, w.before args s = true) (hown : s.vm.findClass own = some m.cls) (hK : va_K E.1 vwCl (xT E) s) (hST : ST A s s.heap) (hOK : xOK ST) (hH : Hy E A s.heap W9 H locs) {y : MethodName} {bytes : ByteArray} {maxL : Nat} {ws : List Cond} {rm : Room} {ci : Nat} {fs : List Value} (hM : CN U9 l E ST y ws rm ci fs L) {T : u_T} {N ix ik : Nat} {host : String} (hin : ∀ w ∈ u_ws y.cls T N, w ∈ Ts) (ty : Nat → FieldType) (hty : ∀ k, k < N → parseFieldDescriptor (T k).2.2.1 = some (ty k)) (hcl : Cond.classLink own ik y.cls ∈ Ts) (hinst : Cond.instantiable y.cls N ∈ Ts) (hini : Cond.initialized y.cls ∈ Ts) (hc : vwCl[ci]? = some (y.cls, T, N)) (hfs : ∀ j, j < N → defaultValue (ty j) = vp_V fs j)
    (cw : va_CN R s args own ix y host bytes maxL none ws rm rm.cells rm.slots 0 ∧ y.name = "<init>" ∧ (Cond.instanceMethod y).before args s = true) (hls : ls.size = nL) (hroom : (rest.map fun v => v.category).sum + 1 ≤ 8) (d0 : decode cc pc = .ok (.new ik, 3)) (d3 : decode cc (pc + 3) = .ok (.dup, 1)) (d4 : decode cc (pc + 4) = .ok (.invokespecial ix, 3)) (hcells : cells + 1 + rm.cells ≤ R.cells) (hslots : slots + N + rm.slots ≤ R.slots)
    (kk : ∀ (q : Nat) (u : U9) (H1 : Heap) (locs1 : List Loc), Hy E A s.heap (W9 ++ L q u) H1 locs1 → W p l e R s m args below meth c H1 locs1 (cells + 1 + rm.cells) (slots + N + rm.slots) Q (F0 m (pc + 7) ls (.ref q :: rest))) : W p l e R s m args below meth c H locs cells slots Q (F0 m pc ls rest) := by
  refine y_new hx hb hts hown hK hH hin ty hty hcl hinst hini hc hfs (by omega) (by omega) d0 (fun q H1 hH1 => ?_)
  refine lv_dup hx hb d3 rfl ?_
  have hC : [W9.length].map (fun i => (W9 ++ [(q, Sum.inr (ci, fs))])[i]?) = [((q, Sum.inr (ci, fs)) : Nat × va_E)].map some := by simp
  have hF := va_free (wc := [(q, .inr (ci, fs))]) hH1.2.1 hH1.2.2.1 hH1.2.2.2 [W9.length] hC
  refine va_callv (va_runIN (As := []) (rest := .ref q :: rest) ⟨hx, hb, hml, hown, hts⟩ (hM q H1.size) cw ⟨yPre.blind hOK _ _ _, fun U hU hW => ⟨rfl, yPre.of hOK hK hST hH1 hU hW⟩⟩ rfl rfl hls rfl (lv_room (by rw [List.map_cons, List.sum_cons]; show 1 + _ ≤ 8; omega)) d4 ⟨hcells, hslots⟩) hH1.2.2.1 (fun q _ h => hF q h) hF (fun u t H2 locs2 ht hvm hw hB hz hk hS2 => ?_)
  obtain ⟨hP1, hD1⟩ := hB
  rw [ht] at hP1
  exact kk q u H2 locs2 (hH1.join hk hP1 hD1 hS2)
theorem y_get (hx : p.tables.exec = Jvm.exec) (hb : c.code = cc) (hts : ∀ w ∈ Ts, w.before args s = true) (hown : s.vm.findClass own = some m.cls) (hK : va_K E.1 vwCl (xT E) s) {h0 : Nat} {fs : List Value} {ci : Nat} (hH : Hy E A s.heap ((h0, .inr (ci, fs)) :: W8) H locs) {C : String} {T : u_T} {N index : Nat} (hin : ∀ w ∈ u_ws C T N, w ∈ Ts) (hc : vwCl[ci]? = some (C, T, N)) (k : Nat) (hk : k < N) (hlink : Cond.fieldLink own index (T k).1 (T k).2.1 (T k).2.2.1 ∈ Ts) {v : Value} (hv : fs[k]? = some v) (hdg : decode cc pc = .ok (.getfield index, 3))
    (kk : W p l e R s m args below meth c H locs cells slots Q (F0 m (pc + 3) ls (v :: rest))) : W p l e R s m args below meth c H locs cells slots Q (F0 m pc ls (.ref h0 :: rest)) :=
  va_get hx hb hts hin hown hK hH.1 0 rfl hc k hk (hts _ hlink) (fun _ h9 => h9) hv hdg kk
theorem y_put (hx : p.tables.exec = Jvm.exec) (hb : c.code = cc) (hts : ∀ w ∈ Ts, w.before args s = true) (hown : s.vm.findClass own = some m.cls) (hK : va_K E.1 vwCl (xT E) s) {h0 : Nat} {fs fs' : List Value} {ci : Nat} (hH : Hy E A s.heap ((h0, .inr (ci, fs)) :: W8) H locs) {C : String} {T : u_T} {N index : Nat} (hin : ∀ w ∈ u_ws C T N, w ∈ Ts) (ty0 : Nat → FieldType) (hty : ∀ k, k < N → parseFieldDescriptor (T k).2.2.1 = some (ty0 k)) (hnm : ∀ a, a < N → ∀ b, b < N → a ≠ b → (T a).2.1 ≠ (T b).2.1) (hc : vwCl[ci]? = some (C, T, N)) (k : Nat) (hk : k < N) (hlink : Cond.fieldLink own index (T k).1 (T k).2.1 (T k).2.2.1 ∈ Ts) (hfin : (T k).2.2.2 = false) {ty : FieldType} {v : Value} (hd : parseFieldDescriptor (T k).2.2.1 = some ty) (hn : narrow ty v = v) (hfit : fits ty v = true) (hl : k < fs.length) (he : fs.set k v = fs') (hdg : decode cc pc = .ok (.putfield index, 3))
    (kk : ∀ (H1 : Heap) (locs1 : List Loc), Hy E A s.heap ((h0, .inr (ci, fs')) :: W8) H1 locs1 → W p l e R s m args below meth c H1 locs1 cells slots Q (F0 m (pc + 3) ls rest)) : W p l e R s m args below meth c H locs cells slots Q (F0 m pc ls (v :: .ref h0 :: rest)) := by
  subst he
  exact va_put hx hb hts hin ty0 hty hnm hown hK hH.1 hH.2.1 hH.2.2.1 0 rfl hc k hk (hts _ hlink) (fun _ h9 => h9) hfin hd hn hfit hl hdg (fun H1 locs1 hP hD hS => kk H1 locs1 ⟨hP, hD, hS, hH.2.2.2⟩)
theorem y_putF (hx : p.tables.exec = Jvm.exec) (hb : c.code = cc) (hts : ∀ w ∈ Ts, w.before args s = true) (hown : s.vm.findClass own = some m.cls) (hK : va_K E.1 vwCl (xT E) s) {h0 : Nat} {fs fs' : List Value} {ci : Nat} (hH : Hy E A s.heap ((h0, .inr (ci, fs)) :: W8) H locs) {C : String} {T : u_T} {N index : Nat} (hin : ∀ w ∈ u_ws C T N, w ∈ Ts) (ty0 : Nat → FieldType) (hty : ∀ k, k < N → parseFieldDescriptor (T k).2.2.1 = some (ty0 k)) (hnm : ∀ a, a < N → ∀ b, b < N → a ≠ b → (T a).2.1 ≠ (T b).2.1) (hc : vwCl[ci]? = some (C, T, N)) (k : Nat) (hk : k < N) (hlink : Cond.fieldLink own index (T k).1 (T k).2.1 (T k).2.2.1 ∈ Ts) (hfin : (T k).2.2.2 = true) (hname : meth.name = "<init>") (hdecl : (T k).1 = own) {ty : FieldType} {v : Value} (hd : parseFieldDescriptor (T k).2.2.1 = some ty) (hn : narrow ty v = v) (hfit : fits ty v = true) (hl : k < fs.length) (he : fs.set k v = fs') (hdg : decode cc pc = .ok (.putfield index, 3))
    (kk : ∀ (H1 : Heap) (locs1 : List Loc), Hy E A s.heap ((h0, .inr (ci, fs')) :: W8) H1 locs1 → W p l e R s m args below meth c H1 locs1 cells slots Q (F0 m (pc + 3) ls rest)) : W p l e R s m args below meth c H locs cells slots Q (F0 m pc ls (v :: .ref h0 :: rest)) := by
  subst he
  exact va_putF hx hb hts hin ty0 hty hnm hown hK hH.1 hH.2.1 hH.2.2.1 0 rfl hc k hk (hts _ hlink) (fun _ h9 => h9) hfin hname hdecl hd hn hfit hl hdg (fun H1 locs1 hP hD hS => kk H1 locs1 ⟨hP, hD, hS, hH.2.2.2⟩)
/-- a new row: of the type that the tables name -/
theorem y_newa (hx : p.tables.exec = Jvm.exec) (hb : c.code = cc) (hts : ∀ w ∈ Ts, w.before args s = true) (hK : va_K E.1 vwCl (xT E) s) (hH : Hy E A s.heap W9 H locs) {atype : ArrayType} {ty : FieldType} (hty : newarray.typeOf atype = ty) (harr : Cond.arrayClass ty ∈ Ts) {cA : ClassId} (t0 : Nat) (ht : (xT E)[t0]? = some (cA, ty)) (hra : ∀ c1 c2 : ClassId, va_RA s c1 ty → va_RA s c2 ty → c1 = c2) {n : Int} {N : Nat} (hn : n = (N : Int)) (hN : N ≤ 1000) (hby : componentBytes ty ≤ 8) {a0 : vp_A} (ha : ∀ cA : ClassId, vp_cell cA a0 = arrV cA N (fun _ => defaultValue ty)) (hcells : cells + 1 ≤ R.cells) (hslots : slots + N ≤ R.slots) (hdg : decode cc pc = .ok (.newarray atype, 2))
    (kk : ∀ (q : Nat) (H1 : Heap), Hy E A s.heap (W9 ++ [(q, .inl (cA, a0))]) H1 locs → W p l e R s m args below meth c H1 locs (cells + 1) (slots + N) Q (F0 m (pc + 2) ls (.ref q :: rest))) : W p l e R s m args below meth c H locs cells slots Q (F0 m pc ls (.int (iZ n) :: rest)) := by
  subst hn
  subst hty
  refine va_newa (N' := N) hx hb (hts _ harr) rfl hK hH.1 hH.2.1 hH.2.2.1 hH.2.2.2 ha (by rw [← iZ_0, iZ_lt ⟨by omega, by omega⟩ ⟨by omega, by omega⟩]; omega) (by rw [iZ_clamp (by omega) (by omega)]; omega) (by have h9 := Nat.mul_le_mul hN hby; omega) hcells hslots hdg (fun q cB H1 hK1 hP hD hS => ?_)
  have h1 : va_RA s cB (newarray.typeOf atype) := (hK1.2 (xT E).length (cB, newarray.typeOf atype) (by simp)).2
  have h2 := hra _ _ h1 (hK.2 t0 _ ht).2
  subst h2
  exact kk q H1 ⟨hP, hD, hS, hH.2.2.2⟩
theorem cell_c0 (N : Nat) (cA : ClassId) : vp_cell cA (N, .inl (ar (fun _ => 0))) = arrV cA N (fun _ => defaultValue .char) := rfl
theorem y_newI (hx : p.tables.exec = Jvm.exec) (hb : c.code = cc) (hts : ∀ w ∈ Ts, w.before args s = true) (hK : va_K E.1 vwCl (xT E) s) (hH : Hy E A s.heap W9 H locs) (harr : Cond.arrayClass .int ∈ Ts) {n : Int} {N : Nat} (hn : n = (N : Int)) (hN : N ≤ 1000) (hcells : cells + 1 ≤ R.cells) (hslots : slots + N ≤ R.slots) (hdg : decode cc pc = .ok (.newarray .int, 2))
    (kk : ∀ (q : Nat) (H1 : Heap), Hy E A s.heap (W9 ++ [(q, aI E N (fun _ => 0))]) H1 locs → W p l e R s m args below meth c H1 locs (cells + 1) (slots + N) Q (F0 m (pc + 2) ls (.ref q :: rest))) : W p l e R s m args below meth c H locs cells slots Q (F0 m pc ls (.int (iZ n) :: rest)) :=
  y_newa (atype := .int) hx hb hts hK hH rfl harr 0 rfl (fun c1 c2 h1 h2 => Option.some.inj ((show s.vm.findClass _ = some c1 from h1).symm.trans h2)) hn hN (by decide) (cell_i0 N) hcells hslots hdg kk
theorem y_newC (hx : p.tables.exec = Jvm.exec) (hb : c.code = cc) (hts : ∀ w ∈ Ts, w.before args s = true) (hK : va_K E.1 vwCl (xT E) s) (hH : Hy E A s.heap W9 H locs) (harr : Cond.arrayClass .char ∈ Ts) {n : Int} {N : Nat} (hn : n = (N : Int)) (hN : N ≤ 1000) (hcells : cells + 1 ≤ R.cells) (hslots : slots + N ≤ R.slots) (hdg : decode cc pc = .ok (.newarray .char, 2))
    (kk : ∀ (q : Nat) (H1 : Heap), Hy E A s.heap (W9 ++ [(q, aC E N (fun _ => 0))]) H1 locs → W p l e R s m args below meth c H1 locs (cells + 1) (slots + N) Q (F0 m (pc + 2) ls (.ref q :: rest))) : W p l e R s m args below meth c H locs cells slots Q (F0 m pc ls (.int (iZ n) :: rest)) :=
  y_newa (atype := .char) hx hb hts hK hH rfl harr 1 rfl (fun c1 c2 h1 h2 => Option.some.inj ((show s.vm.findClass _ = some c1 from h1).symm.trans h2)) hn hN (by decide) (cell_c0 N) hcells hslots hdg kk
/-- the row of boards -/
theorem y_newB (hx : p.tables.exec = Jvm.exec) (hb : c.code = cc) (hts : ∀ w ∈ Ts, w.before args s = true) (hown : s.vm.findClass own = some m.cls) (hK : va_K E.1 vwCl (xT E) s) (hH : Hy E A s.heap W9 H locs) (hao : va_AO RX1 s) {ik : Nat} (hcl : Cond.classLink own ik RX1 ∈ Ts) {n : Int} {N : Nat} (hn : n = (N : Int)) (hN : N ≤ 1000) (hcells : cells + 1 ≤ R.cells) (hslots : slots + N ≤ R.slots) (hdg : decode cc pc = .ok (.anewarray ik, 3))
    (kk : ∀ (q : Nat) (H1 : Heap), Hy E A s.heap (W9 ++ [(q, .inl (xBd E, N, .inr (.inr (.inr (.inr (fun _ => none))))))]) H1 locs → W p l e R s m args below meth c H1 locs (cells + 1) (slots + N) Q (F0 m (pc + 3) ls (.ref q :: rest))) : W p l e R s m args below meth c H locs cells slots Q (F0 m pc ls (.int (iZ n) :: rest)) := by
  subst hn
  refine va_newq (N' := N) hx hb hown (hts _ hcl) hao hK hH.1 hH.2.1 hH.2.2.1 hH.2.2.2 (by rw [← iZ_0, iZ_lt ⟨by omega, by omega⟩ ⟨by omega, by omega⟩]; omega) (by rw [iZ_clamp (by omega) (by omega)]; omega) (by omega) hcells hslots hdg (fun q cB H1 hK1 hP hD hS => ?_)
  obtain ⟨-, -, -, -, -, h1⟩ := (hK1.2 (xT E).length (cB, .object RX1) (by simp)).2
  obtain ⟨-, -, -, -, -, h2⟩ := (hK.2 2 (xBd E, .object RX1) rfl).2
  have h3 : cB = xBd E := Option.some.inj (h1.symm.trans h2)
  subst h3
  exact kk q H1 ⟨hP, hD, hS, hH.2.2.2⟩
theorem y_ast (hx : p.tables.exec = Jvm.exec) (hb : c.code = cc) (hK : va_K E.1 vwCl (xT E) s) (hH : Hy E A s.heap W9 H locs) (k0 : Nat) {a N : Nat} {f : Int → Int} (he : W9[k0]? = some (a, aI E N f)) {i v : Int} (h0 : 0 ≤ i) (h1 : i < N) (hN : N ≤ 1000) (hdg : decode cc pc = .ok (.iastore, 1))
    (kk : ∀ (H1 : Heap) (locs1 : List Loc), Hy E A s.heap (W9.set k0 (a, aI E N (ui f i v))) H1 locs1 → W p l e R s m args below meth c H1 locs1 cells slots Q (F0 m (pc + 1) ls rest)) : W p l e R s m args below meth c H locs cells slots Q (F0 m pc ls (.int (iZ v) :: .int (iZ i) :: .ref a :: rest)) := by
  refine va_iast hx hb hK hH.1 hH.2.1 hH.2.2.1 k0 0 he rfl (iZ_in h0 h1 (by omega)) hdg (fun H1 locs1 hP hD hS => ?_)
  rw [ar_set h0 (by omega)] at hP hD
  exact kk H1 locs1 ⟨hP, hD, hS, hH.2.2.2⟩
theorem y_astB (hx : p.tables.exec = Jvm.exec) (hb : c.code = cc) (hK : va_K E.1 vwCl (xT E) s) (hH : Hy E A s.heap W9 H locs) (k0 qk : Nat) {a b N : Nat} {f : Nat → Option Nat} (he : W9[k0]? = some (a, .inl (xBd E, N, .inr (.inr (.inr (.inr f)))))) {vs : List Value} (hv : W9[qk]? = some (b, .inr (0, vs))) {i : Int} (h0 : 0 ≤ i) (h1 : i < N) (hN : N ≤ 1000) (hdg : decode cc pc = .ok (.aastore, 1))
    (kk : ∀ (H1 : Heap) (locs1 : List Loc), Hy E A s.heap (W9.set k0 (a, .inl (xBd E, N, .inr (.inr (.inr (.inr (va_up f i.toNat (some b)))))))) H1 locs1 → W p l e R s m args below meth c H1 locs1 cells slots Q (F0 m (pc + 1) ls rest)) : W p l e R s m args below meth c H locs cells slots Q (F0 m pc ls (.ref b :: .int (iZ i) :: .ref a :: rest)) := by
  refine va_astq (r := (RX1, TX1, 9)) hx hb hK hH.1 hH.2.1 hH.2.2.1 k0 2 qk 0 he rfl hv rfl (iZ_in h0 h1 (by omega)) hdg (fun H1 locs1 hP hD hS => ?_)
  rw [iZ_clamp (by omega) h0] at hP hD
  exact kk H1 locs1 ⟨hP, hD, hS, hH.2.2.2⟩
/-- a row's content under another name -/
theorem Hy.norm {H0 : Heap} (hH : Hy E A H0 W9 H locs) (k0 : Nat) {a N : Nat} {cA : ClassId} {f g : Nat → Int32} (he : W9[k0]? = some (a, .inl (cA, N, .inl f))) (h : ∀ j : Nat, j < N → f j = g j) : Hy E A H0 (W9.set k0 (a, .inl (cA, N, .inl g))) H locs := by
  obtain ⟨hP, hD, hS, hA⟩ := hH
  have e : va_at E.1 vwCl (a, .inl (cA, N, .inl g)) H := by
    have h1 : H[a]? = some (vp_cell cA (N, .inl f)) := hP k0 _ he
    show H[a]? = some (vp_cell cA (N, .inl g))
    rw [h1]
    exact congrArg some (ar_cell h)
  exact ⟨hP.set hD he e (fun _ _ => rfl), hD.set he, hS, hA⟩
end YR
