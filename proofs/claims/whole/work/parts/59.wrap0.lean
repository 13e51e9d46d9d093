/-! ===== the law's own methods: rows ===== -/
def xcN : List String := ["java/lang/IndexOutOfBoundsException", "java/lang/IllegalArgumentException", "java/lang/IllegalStateException", "java/lang/UnsupportedOperationException", "java/util/NoSuchElementException"]
def SX (ST : xST) : Prop := ∀ (A : Nat → Prop) (U : State) (H : Heap), ST A U H → (∀ a ∈ xcN, va_Nw (.castable a a) U) ∧ ∀ a ∈ xcN, ∀ b ∈ xcN, a ≠ b → va_Nc a b U
abbrev oJ (E : xE) (v : Int64) : va_E := .inl (xJ E, 1, .inr (.inl (fun _ => v)))
abbrev oD (E : xE) (v : UInt64) : va_E := .inl (xDb E, 1, .inr (.inr (.inr (.inl (fun _ => v)))))
section XWR
variable {p : Program} {l : Launch} {e : Env} {R : Room} {s : State} {m : MethodId} {args : Array Value} {below : List Frame} {meth : Method} {c : Code} {H : Heap} {locs : List Loc} {cells slots : Nat} {Q : State → Prop}
variable {cc : ByteArray} {pc : Nat} {ls : Array Slot} {rest st0 : List Value} {E : xE} {ST : xST} {A : Nat → Prop} {σ : xW} {Ts : List Cond} {own : String} {nL : Nat}
/-- a row's content, said otherwise -/
theorem x_cell {H0 : Heap} {cA : ClassId} {a b : vp_A} (k0 : Nat) (hk0 : k0 < 98) (he : σ k0 = .inl (cA, a)) (h : vp_cell cA a = vp_cell cA b) (hH : Hx E A H0 σ H locs) : Hx E A H0 (wu σ k0 (.inl (cA, b))) H locs := by
  obtain ⟨hP, hD, hS, hA⟩ := hH
  have e : va_at E.1 vwCl (xad E k0, .inl (cA, b)) H := by
    have h1 : H[xad E k0]? = some (vp_cell cA a) := hP k0 _ (wl_get hk0 he)
    show H[xad E k0]? = some (vp_cell cA b)
    rw [h1, h]
  exact ⟨by have h9 := hP.set hD (wl_get hk0 he) e (fun _ _ => rfl); rw [wl_set] at h9; exact h9, by have h9 := hD.set (e := .inl (cA, b)) (wl_get hk0 he); rw [wl_set] at h9; exact h9, hS, hA⟩
theorem lJ_cell {cA : ClassId} {f g : Nat → Int64} (h : f 0 = g 0) : vp_cell cA (1, .inr (.inl f)) = vp_cell cA (1, .inr (.inl g)) := by
  rw [vp_cell_l, vp_cell_l]
  unfold arrV
  congr 1
  apply Array.ext
  · simp
  · intro i h1 h2
    have : i = 0 := by simp at h1; omega
    subst this
    simp [h]
theorem lD_cell {cA : ClassId} {f g : Nat → UInt64} (h : f 0 = g 0) : vp_cell cA (1, .inr (.inr (.inr (.inl f)))) = vp_cell cA (1, .inr (.inr (.inr (.inl g)))) := by
  rw [vp_cell_d, vp_cell_d]
  unfold arrV
  congr 1
  apply Array.ext
  · simp
  · intro i h1 h2
    have : i = 0 := by simp at h1; omega
    subst this
    simp [h]
theorem in_0 : vp_in (iZ 0) 1 := iZ_in (by decide) (by decide) (by decide)
theorem x_last (hx : p.tables.exec = Jvm.exec) (hb : c.code = cc) (hK : va_K E.1 vwCl (xT E) s) (hH : Hx E A s.heap σ H locs) {f : Nat → Int64} {v : Int64} (he : σ 96 = .inl (xJ E, 1, .inr (.inl f))) (hdg : decode cc pc = .ok (.lastore, 1))
    (kk : ∀ (u : xW) (H1 : Heap) (locs1 : List Loc), u 96 = oJ E v → (∀ j : Nat, j ≠ 96 → u j = σ j) → Hx E A s.heap u H1 locs1 → W p l e R s m args below meth c H1 locs1 cells slots Q (F0 m (pc + 1) ls rest)) : W p l e R s m args below meth c H locs cells slots Q (F0 m pc ls (.long v :: .int (iZ 0) :: .ref (xad E 96) :: rest)) := by
  refine va_last hx hb hK hH.1 hH.2.1 hH.2.2.1 96 3 (wl_get (by decide) he) rfl in_0 hdg (fun H1 locs1 hP hD hS => ?_)
  have h1 := hH.set hP hD hS
  have h2 := x_cell (b := (1, .inr (.inl (fun _ => v)))) 96 (by decide) wu_s (lJ_cell (by rfl)) h1
  exact kk _ H1 locs1 wu_s (fun j h => (wu_n h).trans (wu_n h)) h2
theorem x_dast (hx : p.tables.exec = Jvm.exec) (hb : c.code = cc) (hK : va_K E.1 vwCl (xT E) s) (hH : Hx E A s.heap σ H locs) {f : Nat → UInt64} {v : UInt64} (he : σ 97 = .inl (xDb E, 1, .inr (.inr (.inr (.inl f))))) (hdg : decode cc pc = .ok (.dastore, 1))
    (kk : ∀ (u : xW) (H1 : Heap) (locs1 : List Loc), u 97 = oD E v → (∀ j : Nat, j ≠ 97 → u j = σ j) → Hx E A s.heap u H1 locs1 → W p l e R s m args below meth c H1 locs1 cells slots Q (F0 m (pc + 1) ls rest)) : W p l e R s m args below meth c H locs cells slots Q (F0 m pc ls (.double v :: .int (iZ 0) :: .ref (xad E 97) :: rest)) := by
  refine va_dast hx hb hK hH.1 hH.2.1 hH.2.2.1 97 4 (wl_get (by decide) he) rfl in_0 hdg (fun H1 locs1 hP hD hS => ?_)
  have h1 := hH.set hP hD hS
  have h2 := x_cell (b := (1, .inr (.inr (.inr (.inl (fun _ => v)))))) 97 (by decide) wu_s (lD_cell (by rfl)) h1
  exact kk _ H1 locs1 wu_s (fun j h => (wu_n h).trans (wu_n h)) h2
theorem x_lald (hx : p.tables.exec = Jvm.exec) (hb : c.code = cc) (hK : va_K E.1 vwCl (xT E) s) (hH : Hx E A s.heap σ H locs) {v : Int64} (he : σ 96 = oJ E v) (hdg : decode cc pc = .ok (.laload, 1))
    (kk : W p l e R s m args below meth c H locs cells slots Q (F0 m (pc + 1) ls (.long v :: rest))) : W p l e R s m args below meth c H locs cells slots Q (F0 m pc ls (.int (iZ 0) :: .ref (xad E 96) :: rest)) :=
  va_lald hx hb hK hH.1 96 3 (wl_get (by decide) he) rfl in_0 hdg kk
theorem x_dald (hx : p.tables.exec = Jvm.exec) (hb : c.code = cc) (hK : va_K E.1 vwCl (xT E) s) (hH : Hx E A s.heap σ H locs) {v : UInt64} (he : σ 97 = oD E v) (hdg : decode cc pc = .ok (.daload, 1))
    (kk : W p l e R s m args below meth c H locs cells slots Q (F0 m (pc + 1) ls (.double v :: rest))) : W p l e R s m args below meth c H locs cells slots Q (F0 m pc ls (.int (iZ 0) :: .ref (xad E 97) :: rest)) :=
  va_dald hx hb hK hH.1 97 4 (wl_get (by decide) he) rfl in_0 hdg kk
/-- caught: the handler x of the table pre ++ x :: suf -/
theorem x_catch (hown : s.vm.findClass own = some m.cls) (hts : ∀ w ∈ Ts, w.before args s = true) (hSX : SX ST) (hST : ST A s s.heap) (pre : List (Nat × Nat × Nat × Nat)) (x : Nat × Nat × Nat × Nat) (suf : List (Nat × Nat × Nat × Nat)) (hsplit : c.exceptionTable.toList = tableOf (pre ++ x :: suf)) {n : String} {ce : Cell} {q : Addr} (hn : n ∈ xcN)
    (hpass : ∀ z ∈ pre, z.2.2.2 ≠ 0 ∧ ∃ nm : String, Cond.classLink own z.2.2.2 nm ∈ Ts ∧ nm ∈ xcN ∧ n ≠ nm) (hx : covers ⟨x.1, x.2.1, x.2.2.1, x.2.2.2⟩ pc = true) (h0 : x.2.2.2 ≠ 0)
    (hlink : Cond.classLink own x.2.2.2 n ∈ Ts) (hcell : H[q]? = some ce) (hv : ce.vm = .none) (hcl : s.vm.findClass n = some ce.cls)
    (kk : W p l e R s m args below meth c H locs cells slots Q (F0 m x.2.2.1 ls [.ref q])) : vx_W p l e R s m args below meth c H locs cells slots Q (F0 m pc ls rest) q := by
  refine vx_catch (name := n) hown (tableOf pre) ⟨x.1, x.2.1, x.2.2.1, x.2.2.2⟩ (tableOf suf) (by rw [hsplit]; unfold tableOf; rw [List.map_append, List.map_cons]) (fun z hz => ?_) hx h0 (hts _ hlink) (va_Nw.use rfl ((hSX _ _ _ hST).1 n hn)) hcell hv hcl kk
  obtain ⟨y, hy, rfl⟩ := List.mem_map.mp hz
  obtain ⟨h1, nm, h2, h3, h4⟩ := hpass y hy
  exact Or.inr ⟨h1, nm, hts _ h2, (hSX _ _ _ hST).2 n hn nm h3 h4⟩
/-! calls that answer longs, floats, doubles; a static call of a method with handlers -/
theorem x_cVL (hx : p.tables.exec = Jvm.exec) (hb : c.code = cc) (hml : c.maxLocals = nL) (hts : ∀ w ∈ Ts, w.before args s = true) (hown : s.vm.findClass own = some m.cls) (hK : va_K E.1 vwCl (xT E) s) (hST : ST A s s.heap) (hOK : xOK ST) (hH : Hx E A s.heap σ H locs) {y : MethodName} {bytes : ByteArray} {maxL n index : Nat} {ret : Option FieldType} {ws : List Cond} {rm : Room} {C : String} {As : List Value} {post : Int64 → xW → Prop} (k0 : Nat) (hM : CL l E ST y ws rm (.ref (xad E k0) :: As) σ post) (cw : CallW R s args own C index y bytes maxL ret ws rm rm.cells rm.slots n) (hk0 : k0 < 98) {ci : Nat} {fs : List Value} {T : u_T} {N : Nat} (he : σ k0 = .inr (ci, fs)) (hc : vwCl[ci]? = some (C, T, N)) (hn : As.length = n) (hls : ls.size = nL) (hst : st0 = As.reverse ++ .ref (xad E k0) :: rest) (hroom : (rest.map fun v => v.category).sum ≤ 8) (hdg : decode cc pc = .ok (.invokevirtual index, 3)) (hf : cells + rm.cells ≤ R.cells ∧ slots + rm.slots ≤ R.slots)
    (kk : ∀ (z : Int64) (u : xW) (H1 : Heap) (locs1 : List Loc), post z u → Hx E A s.heap u H1 locs1 → W p l e R s m args below meth c H1 locs1 (cells + rm.cells) (slots + rm.slots) Q (F0 m (pc + 3) ls (.long z :: rest))) : W p l e R s m args below meth c H locs cells slots Q (F0 m pc ls st0) :=
  va_calll (va_runV ⟨hx, hb, hml, hown, hts⟩ (hM H.size) cw ⟨(xPre.blind hOK _ _ _), va_recv hK hH.1 hc (wl_get hk0 he), fun U hU hW => ⟨rfl, xPre.of hOK hK hST hH hU hW⟩⟩ rfl hn hls hst (lv_room hroom) hdg hf) hH.2.2.1 (fun q _ h => hH.A q h) hH.A (fun r u t H1 locs1 ht hvm hw hB hz hk1 hS => kk r u H1 locs1 hw ⟨ht ▸ hB.1, hB.2.weaken (fun k q hk hq => hH.A q.1 hq), hS, hH.2.2.2⟩)
theorem x_cVF (hx : p.tables.exec = Jvm.exec) (hb : c.code = cc) (hml : c.maxLocals = nL) (hts : ∀ w ∈ Ts, w.before args s = true) (hown : s.vm.findClass own = some m.cls) (hK : va_K E.1 vwCl (xT E) s) (hST : ST A s s.heap) (hOK : xOK ST) (hH : Hx E A s.heap σ H locs) {y : MethodName} {bytes : ByteArray} {maxL n index : Nat} {ret : Option FieldType} {ws : List Cond} {rm : Room} {C : String} {As : List Value} {post : UInt32 → xW → Prop} (k0 : Nat) (hM : CF l E ST y ws rm (.ref (xad E k0) :: As) σ post) (cw : CallW R s args own C index y bytes maxL ret ws rm rm.cells rm.slots n) (hk0 : k0 < 98) {ci : Nat} {fs : List Value} {T : u_T} {N : Nat} (he : σ k0 = .inr (ci, fs)) (hc : vwCl[ci]? = some (C, T, N)) (hn : As.length = n) (hls : ls.size = nL) (hst : st0 = As.reverse ++ .ref (xad E k0) :: rest) (hroom : (rest.map fun v => v.category).sum ≤ 8) (hdg : decode cc pc = .ok (.invokevirtual index, 3)) (hf : cells + rm.cells ≤ R.cells ∧ slots + rm.slots ≤ R.slots)
    (kk : ∀ (z : UInt32) (u : xW) (H1 : Heap) (locs1 : List Loc), post z u → Hx E A s.heap u H1 locs1 → W p l e R s m args below meth c H1 locs1 (cells + rm.cells) (slots + rm.slots) Q (F0 m (pc + 3) ls (.float z :: rest))) : W p l e R s m args below meth c H locs cells slots Q (F0 m pc ls st0) :=
  va_callf (va_runV ⟨hx, hb, hml, hown, hts⟩ (hM H.size) cw ⟨(xPre.blind hOK _ _ _), va_recv hK hH.1 hc (wl_get hk0 he), fun U hU hW => ⟨rfl, xPre.of hOK hK hST hH hU hW⟩⟩ rfl hn hls hst (lv_room hroom) hdg hf) hH.2.2.1 (fun q _ h => hH.A q h) hH.A (fun r u t H1 locs1 ht hvm hw hB hz hk1 hS => kk r u H1 locs1 hw ⟨ht ▸ hB.1, hB.2.weaken (fun k q hk hq => hH.A q.1 hq), hS, hH.2.2.2⟩)
theorem x_cVD (hx : p.tables.exec = Jvm.exec) (hb : c.code = cc) (hml : c.maxLocals = nL) (hts : ∀ w ∈ Ts, w.before args s = true) (hown : s.vm.findClass own = some m.cls) (hK : va_K E.1 vwCl (xT E) s) (hST : ST A s s.heap) (hOK : xOK ST) (hH : Hx E A s.heap σ H locs) {y : MethodName} {bytes : ByteArray} {maxL n index : Nat} {ret : Option FieldType} {ws : List Cond} {rm : Room} {C : String} {As : List Value} {post : UInt64 → xW → Prop} (k0 : Nat) (hM : CD l E ST y ws rm (.ref (xad E k0) :: As) σ post) (cw : CallW R s args own C index y bytes maxL ret ws rm rm.cells rm.slots n) (hk0 : k0 < 98) {ci : Nat} {fs : List Value} {T : u_T} {N : Nat} (he : σ k0 = .inr (ci, fs)) (hc : vwCl[ci]? = some (C, T, N)) (hn : As.length = n) (hls : ls.size = nL) (hst : st0 = As.reverse ++ .ref (xad E k0) :: rest) (hroom : (rest.map fun v => v.category).sum ≤ 8) (hdg : decode cc pc = .ok (.invokevirtual index, 3)) (hf : cells + rm.cells ≤ R.cells ∧ slots + rm.slots ≤ R.slots)
    (kk : ∀ (z : UInt64) (u : xW) (H1 : Heap) (locs1 : List Loc), post z u → Hx E A s.heap u H1 locs1 → W p l e R s m args below meth c H1 locs1 (cells + rm.cells) (slots + rm.slots) Q (F0 m (pc + 3) ls (.double z :: rest))) : W p l e R s m args below meth c H locs cells slots Q (F0 m pc ls st0) :=
  va_calld (va_runV ⟨hx, hb, hml, hown, hts⟩ (hM H.size) cw ⟨(xPre.blind hOK _ _ _), va_recv hK hH.1 hc (wl_get hk0 he), fun U hU hW => ⟨rfl, xPre.of hOK hK hST hH hU hW⟩⟩ rfl hn hls hst (lv_room hroom) hdg hf) hH.2.2.1 (fun q _ h => hH.A q h) hH.A (fun r u t H1 locs1 ht hvm hw hB hz hk1 hS => kk r u H1 locs1 hw ⟨ht ▸ hB.1, hB.2.weaken (fun k q hk hq => hH.A q.1 hq), hS, hH.2.2.2⟩)
theorem x_cXVF (hx : p.tables.exec = Jvm.exec) (hb : c.code = cc) (hml : c.maxLocals = nL) (hts : ∀ w ∈ Ts, w.before args s = true) (hown : s.vm.findClass own = some m.cls) (hK : va_K E.1 vwCl (xT E) s) (hST : ST A s s.heap) (hOK : xOK ST) (hH : Hx E A s.heap σ H locs) {y : MethodName} {bytes : ByteArray} {maxL n index : Nat} {ret : Option FieldType} {ws : List Cond} {rm : Room} {C : String} {As : List Value} {post : UInt32 → xW → Prop} {px : String → xW → Prop} (k0 : Nat) (hM : XF l E ST y ws rm (.ref (xad E k0) :: As) σ post px) (cw : CallW R s args own C index y bytes maxL ret ws rm rm.cells rm.slots n) (hk0 : k0 < 98) {ci : Nat} {fs : List Value} {T : u_T} {N : Nat} (he : σ k0 = .inr (ci, fs)) (hc : vwCl[ci]? = some (C, T, N)) (hn : As.length = n) (hls : ls.size = nL) (hst : st0 = As.reverse ++ .ref (xad E k0) :: rest) (hroom : (rest.map fun v => v.category).sum ≤ 8) (hdg : decode cc pc = .ok (.invokevirtual index, 3)) (hf : cells + rm.cells ≤ R.cells ∧ slots + rm.slots ≤ R.slots)
    (kx : ∀ (n : String) (ce : Cell) (q9 : Addr) (u : xW) (H1 : Heap) (locs1 : List Loc), px n u → Hx E A s.heap u H1 locs1 → H1[q9]? = some ce → ce.vm = .none → s.vm.findClass n = some ce.cls → vx_W p l e R s m args below meth c H1 locs1 (cells + rm.cells) (slots + rm.slots) Q (F0 m pc ls rest) q9)
    (kk : ∀ (z : UInt32) (u : xW) (H1 : Heap) (locs1 : List Loc), post z u → Hx E A s.heap u H1 locs1 → W p l e R s m args below meth c H1 locs1 (cells + rm.cells) (slots + rm.slots) Q (F0 m (pc + 3) ls (.float z :: rest))) : W p l e R s m args below meth c H locs cells slots Q (F0 m pc ls st0) :=
  vx_callf (vx_runV ⟨hx, hb, hml, hown, hts⟩ (hM H.size) cw ⟨(xPre.blind hOK _ _ _), va_recv hK hH.1 hc (wl_get hk0 he), fun U hU hW => ⟨rfl, xPre.of hOK hK hST hH hU hW⟩⟩ rfl hn hls hst (lv_room hroom) hdg hf) hH.2.2.1 (fun q _ h => hH.A q h) hH.A (fun q _ h => hH.A q h) (fun n ce q9 u t H1 locs1 ht hvm hp hB hz hk1 hS hce hcv hcl => kx n ce q9 u H1 locs1 hB.1 ⟨ht ▸ hB.2.1, hB.2.2.weaken (fun k q hk hq => hH.A q.1 hq), hS, hH.2.2.2⟩ hce hcv hcl) (fun r u t H1 locs1 ht hvm hw hB hz hk1 hS => kk r u H1 locs1 hw ⟨ht ▸ hB.1, hB.2.weaken (fun k q hk hq => hH.A q.1 hq), hS, hH.2.2.2⟩)
theorem x_cSW (hx : p.tables.exec = Jvm.exec) (hb : c.code = cc) (hml : c.maxLocals = nL) (hts : ∀ w ∈ Ts, w.before args s = true) (hown : s.vm.findClass own = some m.cls) (hK : va_K E.1 vwCl (xT E) s) (hST : ST A s s.heap) (hOK : xOK ST) (hH : Hx E A s.heap σ H locs) {y : MethodName} {bytes : ByteArray} {maxL n index : Nat} {ret : Option FieldType} {hh : List (Nat × Nat × Nat × Nat)} {ws : List Cond} {rm : Room} {As : List Value} {post : Int → xW → Prop} (hM : CI l E ST y ws rm As σ post) (cw : vx_CSW R s args own index y bytes maxL ret hh ws rm rm.cells rm.slots n) (hn : As.length = n) (hls : ls.size = nL) (hst : st0 = As.reverse ++ rest) (hroom : (rest.map fun v => v.category).sum ≤ 8) (hdg : decode cc pc = .ok (.invokestatic index, 3)) (hf : cells + rm.cells ≤ R.cells ∧ slots + rm.slots ≤ R.slots)
    (kk : ∀ (z : Int) (u : xW) (H1 : Heap) (locs1 : List Loc), post z u → Hx E A s.heap u H1 locs1 → W p l e R s m args below meth c H1 locs1 (cells + rm.cells) (slots + rm.slots) Q (F0 m (pc + 3) ls (.int (iZ z) :: rest))) : W p l e R s m args below meth c H locs cells slots Q (F0 m pc ls st0) :=
  x_aftI (vx_runSW ⟨hx, hb, hml, hown, hts⟩ (hM H.size) cw ⟨(xPre.blind hOK _ _ _), fun U hU hW => ⟨rfl, xPre.of hOK hK hST hH hU hW⟩⟩ rfl hn hls hst (lv_room hroom) hdg hf) hH kk
end XWR
def Gw9 (E : xE) (ST : xST) (own : String) (Ts : List Cond) (cc : ByteArray) (nL : Nat) (hh : List (Nat × Nat × Nat × Nat)) (p : Program) (s : State) (m : MethodId) (args : Array Value) (meth : Method) (c : Code) : Prop :=
  p.tables.exec = Jvm.exec ∧ c.code = cc ∧ c.maxLocals = nL ∧ s.vm.findClass own = some m.cls ∧ (∀ w ∈ Ts, w.before args s = true) ∧ va_K E.1 vwCl (xT E) s ∧ ST (xA E s.heap.size) s s.heap ∧ meth.locks = false ∧ meth.sig.returnType = some .int ∧ c.exceptionTable.toList = tableOf hh
theorem CW_of {l : Launch} {E : xE} {ST : xST} {y : MethodName} {ws ws' : List Cond} {rm : Room} {av : List Value} {σ : xW} {cc : ByteArray} {maxL : Nat} {hh : List (Nat × Nat × Nat × Nat)} {post : Int → xW → Prop} (hy : plainName y.cls = true) (hw : ws = Cond.codeWith y cc maxL (some .int) hh :: ws') (hn : (lg_sl av).length ≤ maxL)
    (body : ∀ (p : Program) (e : Env) (s : State) (m : MethodId) (args : Array Value) (below : List Frame) (meth : Method) (c : Code) (Q : State → Prop) (ls : Array Slot), Gw9 E ST y.cls ws cc maxL hh p s m args meth c → Hx E (xA E s.heap.size) s.heap σ s.heap [] → lv_has ls maxL (lv_args 0 av) → Q = MQ below (va_Qi (fun (r : Int32) (u : xW) => ∃ z : Int, r = iZ z ∧ post z u) (xB E s.heap.size) (xA E s.heap.size)) args s rm.cells rm.slots (xA E s.heap.size) →
      W p l e rm s m args below meth c s.heap [] 0 0 Q (F0 m 0 ls [])) : CI l E ST y ws rm av σ post := by
  intro sz
  refine va_MetW hy hw ?_
  intro p e s m args below meth c s₁ B hml hv
  obtain ⟨rfl, hsz, hP, hK, hD, hST⟩ := hv
  have hts := atoms_spec (ws := ws) B.pre
  have htab := vx_table (x := y) B (hts _ (by rw [hw]; exact List.mem_cons_self))
  subst hsz
  rw [lg_entry_eq]
  exact body p e s m _ below meth c _ _ ⟨B.exec, B.bytes, hml, findClass_of_methodNamed B.named, hts, hK, hST, B.notSynchronized, B.returns, htab⟩ ⟨hP, ⟨hD.1, fun k q hk => Or.inl ⟨k, wl_lt hk, by
    have h1 := wl_get (E := E) (σ := σ) (wl_lt hk) rfl
    rw [hk] at h1
    rw [Option.some.inj h1]⟩⟩, va_S.rf, fun q h => Or.inr h⟩ (lv_entry av hn) rfl
