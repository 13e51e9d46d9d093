/-! ===== rows on texts, builders and their rows of bytes; methods behind which the world has other addresses ===== -/
def CG (l : Launch) (E : xE) (ST : xST) (y : MethodName) (ws : List Cond) (rm : Room) (av : List Value) (σ : xW) (post : xE → xW → Prop) : Prop := ∀ sz : Nat, Met l y ws rm (va_Pc av (xPre E ST σ sz)) (va_Qv (fun u : xE × xW => post u.1 u.2) (fun u t => va_P u.1.1 vwCl (wl u.1 u.2) t.heap ∧ va_D (xA E sz) (wl u.1 u.2)) (xA E sz)) rm.cells rm.slots (xA E sz)
theorem CG_of {l : Launch} {E : xE} {ST : xST} {y : MethodName} {ws : List Cond} {ws' : List Cond} {rm : Room} {av : List Value} {σ : xW} {cc : ByteArray} {maxL : Nat} {ret : Option FieldType} {post : xE → xW → Prop} (hy : plainName y.cls = true) (hw : ws = Cond.code y cc maxL ret :: ws') (hn : (lg_sl av).length ≤ maxL)
    (body : ∀ (p : Program) (e : Env) (s : State) (m : MethodId) (args : Array Value) (below : List Frame) (meth : Method) (c : Code) (Q : State → Prop) (ls : Array Slot), Gx E ST y.cls ws cc maxL ret p s m args meth c → meth.name = y.name → Hx E (xA E s.heap.size) s.heap σ s.heap [] → lv_has ls maxL (lv_args 0 av) → Q = MQ below (va_Qv (fun u : xE × xW => post u.1 u.2) (fun u t => va_P u.1.1 vwCl (wl u.1 u.2) t.heap ∧ va_D (xA E s.heap.size) (wl u.1 u.2)) (xA E s.heap.size)) args s rm.cells rm.slots (xA E s.heap.size) →
      W p l e rm s m args below meth c s.heap [] 0 0 Q (F0 m 0 ls [])) : CG l E ST y ws rm av σ post := by
  intro sz
  refine Met.ofW hy hw ?_
  intro p e s m args below meth c s₁ B hml hv
  have hname := (name_of_methodNamed B.named B.method).1
  obtain ⟨rfl, rfl, G, hH⟩ := Gx_of hw B hml hv
  rw [lg_entry_eq]
  exact body p e s m _ below meth c _ _ G hname hH (lv_entry av hn) rfl
section XSR
variable {p : Program} {l : Launch} {e : Env} {R : Room} {s : State} {m : MethodId} {args : Array Value} {below : List Frame} {meth : Method} {c : Code} {H : Heap} {locs : List Loc} {cells slots : Nat} {Q : State → Prop}
variable {cc : ByteArray} {pc : Nat} {ls : Array Slot} {rest st0 : List Value} {E E0 : xE} {ST : xST} {A : Nat → Prop} {σ u : xW} {Ts : List Cond} {own : String} {nL : Nat} {Z : zE} {B : BT} {S : Option BT} {Y : lnQ}
theorem x_gret (hx : p.tables.exec = Jvm.exec) (hb : c.code = cc) (hr : meth.sig.returnType = none) (hlocks : meth.locks = false) (hH : Hx E (xA E0 s.heap.size) s.heap u H locs) {mc ms : Nat} (hc : cells ≤ mc) (hs : slots ≤ ms) {post : xE → xW → Prop} (hp : post E u) (hdg : decode cc pc = .ok (.return_, 1)) : W p l e R s m args below meth c H locs cells slots (MQ below (va_Qv (fun u : xE × xW => post u.1 u.2) (fun u t => va_P u.1.1 vwCl (wl u.1 u.2) t.heap ∧ va_D (xA E0 s.heap.size) (wl u.1 u.2)) (xA E0 s.heap.size)) args s mc ms (xA E0 s.heap.size)) (F0 m pc ls []) :=
  W.widen hc hs (W.vret hx hb hr (fun t ht hW => ⟨⟨(E, u), rfl, hp, ht ▸ hH.1, hH.2.1⟩, hH.2.2.1.F ht⟩) hH.2.2.1.2.2 hdg hlocks)
theorem x_oret (hx : p.tables.exec = Jvm.exec) (hb : c.code = cc) {C : String} (hr : meth.sig.returnType = some (.object C)) (hlocks : meth.locks = false) (hH : Hx E (xA E0 s.heap.size) s.heap u H locs) {mc ms : Nat} (hc : cells ≤ mc) (hs : slots ≤ ms) {post : xE → Nat → xW → Prop} {g : Nat} (hp : post E g u) (hdg : decode cc pc = .ok (.areturn, 1)) : W p l e R s m args below meth c H locs cells slots (MQ below (va_Qr (S := xE × Nat × xW) (fun u => post u.1 u.2.1 u.2.2) (fun u a t => a = xad u.1 u.2.1 ∧ va_P u.1.1 vwCl (wl u.1 u.2.2) t.heap ∧ va_D (xA E0 s.heap.size) (wl u.1 u.2.2)) (xA E0 s.heap.size)) args s mc ms (xA E0 s.heap.size)) (F0 m pc ls [.ref (xad E g)]) :=
  W.widen hc hs (W.aret hx hb hr (Or.inl ⟨C, rfl⟩) (Or.inr ⟨_, rfl⟩) (fun t ht hW => ⟨⟨(E, g, u), _, rfl, hp, rfl, ht ▸ hH.1, hH.2.1⟩, hH.2.2.1.F ht⟩) hH.2.2.1.2.2 hdg hlocks)
theorem x_bret (hx : p.tables.exec = Jvm.exec) (hb : c.code = cc) (hr : meth.sig.returnType = (some .byte)) (hlocks : meth.locks = false) (hH : Hx E (xA E s.heap.size) s.heap σ H locs) {mc ms : Nat} (hc : cells ≤ mc) (hs : slots ≤ ms) {post : Int → xW → Prop} {z : Int} (hz : narrow .byte (.int (iZ z)) = .int (iZ z)) (hp : post z σ) (hdg : decode cc pc = .ok (.ireturn, 1)) : W p l e R s m args below meth c H locs cells slots (MQ below (va_Qi (fun (r : Int32) (u : xW) => ∃ z : Int, r = iZ z ∧ post z u) (xB E s.heap.size) (xA E s.heap.size)) args s mc ms (xA E s.heap.size)) (F0 m pc ls [.int (iZ z)]) :=
  W.widen hc hs (W.zret hx hb hr hz (fun t ht hW => ⟨⟨iZ z, σ, rfl, ⟨z, rfl, hp⟩, ht ▸ hH.1, hH.2.1⟩, hH.2.2.1.F ht⟩) hH.2.2.1.2.2 hdg hlocks)
/-! behind a call -/
theorem x_aftR {post : xE → Nat → xW → Prop} {y : MethodName} {ws : List Cond} {rm : Room} {av : List Value} (_hM : CR l E ST y ws rm av σ post) {mc ms : Nat} {a : Array Value} (hr : va_Run p l e R s m args below meth c H locs cells slots mc ms (F0 m pc ls st0) rest (va_Qr (S := xE × Nat × xW) (fun u => post u.1 u.2.1 u.2.2) (fun u a t => a = xad u.1 u.2.1 ∧ va_P u.1.1 vwCl (wl u.1 u.2.2) t.heap ∧ va_D (xA E H.size) (wl u.1 u.2.2)) (xA E H.size) a) (xA E H.size)) (hH : Hx E A s.heap σ H locs)
    (kk : ∀ (E1 : xE) (g : Nat) (u : xW) (H1 : Heap) (locs1 : List Loc), post E1 g u → Hx E1 A s.heap u H1 locs1 → W p l e R s m args below meth c H1 locs1 (cells + mc) (slots + ms) Q (F0 m (pc + 3) ls (.ref (xad E1 g) :: rest))) : W p l e R s m args below meth c H locs cells slots Q (F0 m pc ls st0) :=
  va_callr hr hH.2.2.1 (fun q _ h => hH.A q h) hH.A (fun w ra t H1 locs1 ht hvm hp hB hz hk1 hS => by
    obtain ⟨E1, g, u⟩ := w
    obtain ⟨rfl, h1, h2⟩ := hB
    exact kk E1 g u H1 locs1 hp ⟨ht ▸ h1, h2.weaken (fun k q hk hq => hH.A q.1 hq), hS, hH.2.2.2⟩)
theorem x_aftG {post : xE → xW → Prop} {y : MethodName} {ws : List Cond} {rm : Room} {av : List Value} (_hM : CG l E ST y ws rm av σ post) {mc ms : Nat} {a : Array Value} (hr : va_Run p l e R s m args below meth c H locs cells slots mc ms (F0 m pc ls st0) rest (va_Qv (fun u : xE × xW => post u.1 u.2) (fun u t => va_P u.1.1 vwCl (wl u.1 u.2) t.heap ∧ va_D (xA E H.size) (wl u.1 u.2)) (xA E H.size) a) (xA E H.size)) (hH : Hx E A s.heap σ H locs)
    (kk : ∀ (E1 : xE) (u : xW) (H1 : Heap) (locs1 : List Loc), post E1 u → Hx E1 A s.heap u H1 locs1 → W p l e R s m args below meth c H1 locs1 (cells + mc) (slots + ms) Q (F0 m (pc + 3) ls rest)) : W p l e R s m args below meth c H locs cells slots Q (F0 m pc ls st0) :=
  va_callv hr hH.2.2.1 (fun q _ h => hH.A q h) hH.A (fun w t H1 locs1 ht hvm hp hB hz hk1 hS => by
    obtain ⟨E1, u⟩ := w
    exact kk E1 u H1 locs1 hp ⟨ht ▸ hB.1, hB.2.weaken (fun k q hk hq => hH.A q.1 hq), hS, hH.2.2.2⟩)
/-! what a call asks of the caller, in one word -/
def xCf (p : Program) (E : xE) (ST : xST) (A : Nat → Prop) (s : State) (m : MethodId) (args : Array Value) (c : Code) (cc : ByteArray) (nL : Nat) (Ts : List Cond) (own : String) : Prop := p.tables.exec = Jvm.exec ∧ c.code = cc ∧ c.maxLocals = nL ∧ s.vm.findClass own = some m.cls ∧ (∀ w ∈ Ts, w.before args s = true) ∧ va_K E.1 vwCl (xT E) s ∧ ST A s s.heap ∧ xOK ST
theorem xCf.mv {E1 : xE} (F : xCf p E ST A s m args c cc nL Ts own) (h1 : E1.1 = E.1) (h2 : E1.2.2.1 = E.2.2.1) : xCf p E1 ST A s m args c cc nL Ts own := by
  obtain ⟨a1, a2, a3, a4, a5, a6, a7⟩ := F
  exact ⟨a1, a2, a3, a4, a5, by rw [h1, xT_eq h2]; exact a6, a7⟩
theorem xCf.pre (F : xCf p E ST A s m args c cc nL Ts own) (hH : Hx E A s.heap σ H locs) (av : List Value) : PreS s H (va_Pc av (xPre E ST σ H.size)) av := by
  obtain ⟨a1, a2, a3, a4, a5, a6, a7, a8⟩ := F
  exact ⟨(xPre.blind a8 _ _ _), fun U hU hW => ⟨rfl, xPre.of a8 a6 a7 hH hU hW⟩⟩
theorem xCf.prv (F : xCf p E ST A s m args c cc nL Ts own) (hH : Hx E A s.heap σ H locs) {C : String} {b : Nat} (hr : ∃ cell : Cell, H[b]? = some cell ∧ cell.vm.isStatics = false ∧ s.vm.findClass C = some cell.cls) (As : List Value) : PreV s H C b (va_Pc (.ref b :: As) (xPre E ST σ H.size)) As := by
  obtain ⟨a1, a2, a3, a4, a5, a6, a7, a8⟩ := F
  exact ⟨(xPre.blind a8 _ _ _), hr, fun U hU hW => ⟨rfl, xPre.of a8 a6 a7 hH hU hW⟩⟩
theorem xCf.fx (F : xCf p E ST A s m args c cc nL Ts own) : CallFix p m c cc nL s args Ts own := ⟨F.1, F.2.1, F.2.2.1, F.2.2.2.1, F.2.2.2.2.1⟩
theorem xCf.rcv (F : xCf p E ST A s m args c cc nL Ts own) (hH : Hx E A s.heap σ H locs) {k0 ci : Nat} (hk0 : k0 < 85 + xx E) {fs : List Value} {q : vw_C} (he : σ k0 = .inr (ci, fs)) (hc : vwCl[ci]? = some q) : ∃ cell : Cell, H[xad E k0]? = some cell ∧ cell.vm.isStatics = false ∧ s.vm.findClass q.1 = some cell.cls := va_recv F.2.2.2.2.2.1 hH.1 hc (wl_get hk0 he)
/-! rows of bytes -/
theorem x_yalen (hx : p.tables.exec = Jvm.exec) (hb : c.code = cc) (hK : va_K E.1 vwCl (xT E) s) (hH : Hx E A s.heap σ H locs) (k0 : Nat) (hk0 : k0 < 85 + xx E) {n : Nat} {f : Int → Int} (he : σ k0 = aY E n f) (hdg : decode cc pc = .ok (.arraylength, 1)) (kk : W p l e R s m args below meth c H locs cells slots Q (F0 m (pc + 1) ls (.int (iZ (n : Int)) :: rest))) : W p l e R s m args below meth c H locs cells slots Q (F0 m pc ls (.ref (xad E k0) :: rest)) :=
  va_alen hx hb hK hH.1 k0 3 (wl_get hk0 he) rfl rfl hdg kk
theorem x_yald (hx : p.tables.exec = Jvm.exec) (hb : c.code = cc) (hK : va_K E.1 vwCl (xT E) s) (hH : Hx E A s.heap σ H locs) (k0 : Nat) (hk0 : k0 < 85 + xx E) {n : Nat} {f : Int → Int} {a : Int} (he : σ k0 = aY E n f) (h0 : 0 ≤ a) (h1 : a < n) (hn : n ≤ 2147483647) (hdg : decode cc pc = .ok (.baload, 1))
    (kk : W p l e R s m args below meth c H locs cells slots Q (F0 m (pc + 1) ls (.int (iZ (f a)) :: rest))) : W p l e R s m args below meth c H locs cells slots Q (F0 m pc ls (.int (iZ a) :: .ref (xad E k0) :: rest)) :=
  va_bald hx hb hK hH.1 k0 3 (wl_get hk0 he) rfl (iZ_in h0 h1 hn) hdg (by rw [ar_at h0 (by omega)]; exact kk)
theorem x_yast (hx : p.tables.exec = Jvm.exec) (hb : c.code = cc) (hK : va_K E.1 vwCl (xT E) s) (hH : Hx E A s.heap σ H locs) (k0 : Nat) (hk0 : k0 < 85 + xx E) {n : Nat} {f : Int → Int} {a v : Int} (he : σ k0 = aY E n f) (h0 : 0 ≤ a) (h1 : a < n) (hn : n ≤ 2147483647) (hv0 : 0 ≤ v) (hv1 : v ≤ 127) (hdg : decode cc pc = .ok (.bastore, 1))
    (kk : ∀ (u : xW) (H1 : Heap) (locs1 : List Loc), u k0 = aY E n (ui f a v) → (∀ j : Nat, j ≠ k0 → u j = σ j) → Hx E A s.heap u H1 locs1 → W p l e R s m args below meth c H1 locs1 cells slots Q (F0 m (pc + 1) ls rest)) : W p l e R s m args below meth c H locs cells slots Q (F0 m pc ls (.int (iZ v) :: .int (iZ a) :: .ref (xad E k0) :: rest)) :=
  va_bast hx hb hK hH.1 hH.2.1 hH.2.2.1 k0 3 (wl_get hk0 he) rfl (iZ_in h0 h1 hn) hdg (fun H1 locs1 hP hD hS => kk _ H1 locs1 wu_s (fun j h => wu_n h) (by rw [(nar_byte hv0 hv1).1, ar_set h0 (by omega)] at hP hD; exact hH.set hP hD hS))
theorem cell_y0 (N : Nat) (cA : ClassId) : vp_cell cA (N, .inl (ar (fun _ => 0))) = arrV cA N (fun _ => defaultValue .byte) := rfl
theorem x_newY (hx : p.tables.exec = Jvm.exec) (hb : c.code = cc) (hts : ∀ w ∈ Ts, w.before args s = true) (hK : va_K E.1 vwCl (xT E) s) (hH : Hx E A s.heap σ H locs) (hc : cw E σ B S Y) (harr : Cond.arrayClass .byte ∈ Ts) {n : Int} {N : Nat} (M : Nat) (hn : n = (N : Int)) (hN : N ≤ M) (hM : M ≤ 1000) (hcells : cells + 1 ≤ R.cells) (hslots : slots + M ≤ R.slots) (hdg : decode cc pc = .ok (.newarray .byte, 2))
    (kk : ∀ (E1 : xE) (g : Nat) (u : xW) (H1 : Heap), xE1 E E1 g → va_K E1.1 vwCl (xT E1) s → Hx E1 A s.heap u H1 locs → cw E1 u B S Y → u g = aY E1 N (fun _ => 0) → (∀ j : Nat, 85 ≤ j → j ≠ g → u j = σ j) → W p l e R s m args below meth c H1 locs (cells + 1) (slots + M) Q (F0 m (pc + 2) ls (.ref (xad E1 g) :: rest))) : W p l e R s m args below meth c H locs cells slots Q (F0 m pc ls (.int (iZ n) :: rest)) := by
  subst hn
  refine va_newa (atype := .byte) (ty := .byte) (N' := N) (a0 := (N, .inl (ar (fun _ => 0)))) hx hb (hts _ harr) rfl hK hH.1 hH.2.1 hH.2.2.1 hH.2.2.2 (cell_y0 N) (by rw [← iZ_0, iZ_lt ⟨by omega, by omega⟩ ⟨by omega, by omega⟩]; omega) (by rw [iZ_clamp (by omega) (by omega)]; omega) (by have h9 : N * componentBytes FieldType.byte ≤ 1000 * 8 := Nat.mul_le_mul (by omega) (by decide); omega) hcells (by omega) hdg (fun q cB H1 hK1 hP hD hS => ?_)
  have h1 : va_RA s cB .byte := (hK1.2 (xT E).length (cB, .byte) (by simp)).2
  have h2 : cB = xY E := Option.some.inj ((show s.vm.findClass _ = some cB from h1).symm.trans (hK.2 3 _ rfl).2)
  subst h2
  obtain ⟨E1, g, u, hE, h3, h4, h5, h6, h7⟩ := Hx.push hc hP hD hS hH.2.2.2
  rw [← h7]
  exact W.widen (Nat.le_refl _) (by omega) (kk E1 g u H1 hE (hE.K hK) h3 h4 (by rw [h5, ← hE.Y]) h6)
theorem x_newO (hx : p.tables.exec = Jvm.exec) (hb : c.code = cc) (hts : ∀ w ∈ Ts, w.before args s = true) (hown : s.vm.findClass own = some m.cls) (hK : va_K E.1 vwCl (xT E) s) (hH : Hx E A s.heap σ H locs) (hw : cw E σ B S Y) {C : String} {T : u_T} {N ci index : Nat} {fs : List Value} (hin : ∀ w ∈ u_ws C T N, w ∈ Ts) (ty : Nat → FieldType) (hty : ∀ k, k < N → parseFieldDescriptor (T k).2.2.1 = some (ty k)) (hcl : Cond.classLink own index C ∈ Ts) (hinst : Cond.instantiable C N ∈ Ts) (hini : Cond.initialized C ∈ Ts) (hc : vwCl[ci]? = some (C, T, N)) (hfs : ∀ j, j < N → defaultValue (ty j) = vp_V fs j) (hcells : cells + 1 ≤ R.cells) (hslots : slots + N ≤ R.slots) (hdg : decode cc pc = .ok (.new index, 3))
    (kk : ∀ (E1 : xE) (g : Nat) (u : xW) (H1 : Heap), xE1 E E1 g → va_K E1.1 vwCl (xT E1) s → Hx E1 A s.heap u H1 locs → cw E1 u B S Y → u g = oB ci fs → (∀ j : Nat, 85 ≤ j → j ≠ g → u j = σ j) → W p l e R s m args below meth c H1 locs (cells + 1) (slots + N) Q (F0 m (pc + 3) ls (.ref (xad E1 g) :: rest))) : W p l e R s m args below meth c H locs cells slots Q (F0 m pc ls rest) :=
  va_new hx hb hts hin ty hty hown (hts _ hcl) (hts _ hinst) (hts _ hini) hK hH.1 hH.2.1 hH.2.2.1 hH.2.2.2 hc hfs hcells hslots hdg (fun q H1 hP hD hS => by
    obtain ⟨E1, g, u, hE, h3, h4, h5, h6, h7⟩ := Hx.push hw hP hD hS hH.2.2.2
    rw [← h7]
    exact kk E1 g u H1 hE (hE.K hK) h3 h4 h5 h6)
theorem x_putF (hx : p.tables.exec = Jvm.exec) (hb : c.code = cc) (hts : ∀ w ∈ Ts, w.before args s = true) (hown : s.vm.findClass own = some m.cls) (hK : va_K E.1 vwCl (xT E) s) (hH : Hx E A s.heap σ H locs) {C : String} {T : u_T} {N ci index : Nat} (k0 : Nat) (hk0 : k0 < 85 + xx E) {fs fs' : List Value} (he : σ k0 = .inr (ci, fs)) (hin : ∀ w ∈ u_ws C T N, w ∈ Ts) (hc : vwCl[ci]? = some (C, T, N)) (ty0 : Nat → FieldType) (hty : ∀ k, k < N → parseFieldDescriptor (T k).2.2.1 = some (ty0 k)) (hnm : ∀ a, a < N → ∀ b, b < N → a ≠ b → (T a).2.1 ≠ (T b).2.1) (k : Nat) (hk : k < N) (hlink : Cond.fieldLink own index (T k).1 (T k).2.1 (T k).2.2.1 ∈ Ts) (hfin : (T k).2.2.2 = true) (hname : meth.name = "<init>") (hdecl : (T k).1 = own) {ty : FieldType} {v : Value} (hd : parseFieldDescriptor (T k).2.2.1 = some ty) (hn : narrow ty v = v) (hfit : fits ty v = true) (hl : k < fs.length) (hset : fs.set k v = fs') (hdg : decode cc pc = .ok (.putfield index, 3))
    (kk : ∀ (u : xW) (H1 : Heap) (locs1 : List Loc), u k0 = (.inr (ci, fs')) → (∀ j : Nat, j ≠ k0 → u j = σ j) → Hx E A s.heap u H1 locs1 → W p l e R s m args below meth c H1 locs1 cells slots Q (F0 m (pc + 3) ls rest)) : W p l e R s m args below meth c H locs cells slots Q (F0 m pc ls (v :: .ref (xad E k0) :: rest)) := by
  subst hset
  exact va_putF hx hb hts hin ty0 hty hnm hown hK hH.1 hH.2.1 hH.2.2.1 k0 (wl_get hk0 he) hc k hk (hts _ hlink) (fun _ h9 => h9) hfin hname hdecl hd hn hfit hl hdg (fun H1 locs1 hP hD hS => kk _ H1 locs1 wu_s (fun j h => wu_n h) (hH.set hP hD hS))
theorem x_ycopy (hx : p.tables.exec = Jvm.exec) (hb : c.code = cc) (hml : c.maxLocals = nL) (hts : ∀ w ∈ Ts, w.before args s = true) (hown : s.vm.findClass own = some m.cls) (hK : va_K E.1 vwCl (xT E) s) (hH : Hx E A s.heap σ H locs) {index : Nat} (h1 : Cond.methodLink own index arraycopyName ∈ Ts) (h2 : Cond.native arraycopyName ∈ Ts) (h3 : Cond.static arraycopyName ∈ Ts) (h4 : Cond.initialized "java/lang/System" ∈ Ts) (q0 q1 : Nat) (hq0 : q0 < 85 + xx E) (hq1 : q1 < 85 + xx E) {n0 n1 : Nat} {f g : Int → Int} (he0 : σ q0 = aY E n0 f) (he1 : σ q1 = aY E n1 g) {z d : Int} {n dn : Nat} (hz : z = (n : Int)) (hd : d = (dn : Int)) (hn0 : n ≤ n0) (hn1 : dn + n ≤ n1) (hn : n1 ≤ 1000) (hf7 : lt7 n f) (hls : ls.size = nL)
    (hframes : 1 ≤ R.frames) (hlocals : (rest.map fun v => v.category).sum + (nativeFrameWords "java/lang/System" "arraycopy" 5 + 11) ≤ R.locals) (hdg : decode cc pc = .ok (.invokestatic index, 3))
    (kk : ∀ (u : xW) (H1 : Heap) (locs1 : List Loc), u q1 = aY E n1 (cdZ d n f g) → (∀ j : Nat, j ≠ q1 → u j = σ j) → Hx E A s.heap u H1 locs1 → W p l e R s m args below meth c H1 locs1 cells slots Q (F0 m (pc + 3) ls rest)) : W p l e R s m args below meth c H locs cells slots Q (F0 m pc ls (.int (iZ z) :: .int (iZ d) :: .ref (xad E q1) :: .int (iZ 0) :: .ref (xad E q0) :: rest)) := by
  subst hz
  subst hd
  have hc : (iZ (n : Int)).toNatClampNeg = n := by rw [iZ_clamp (by omega) (by omega)]; omega
  have hcd : (iZ (dn : Int)).toNatClampNeg = dn := by rw [iZ_clamp (by omega) (by omega)]; omega
  have h0 : (iZ 0).toNatClampNeg = 0 := rfl
  refine va_copyi hx hb (hml.trans hls.symm) hown (hts _ h1) (hts _ h2) (hts _ h3) (hts _ h4) hK hH.1 hH.2.1 hH.2.2.1 q0 q1 3 3 (wl_get hq0 he0) (wl_get hq1 he1) rfl rfl rfl (by decide) (by rw [← iZ_0, iZ_lt ⟨by omega, by omega⟩ ⟨by omega, by omega⟩]; omega) (by rw [← iZ_0, iZ_lt ⟨by omega, by omega⟩ ⟨by omega, by omega⟩]; omega) (by rw [hc, h0]; omega) (by rw [hc, hcd]; omega) (fun i hi => ?_) hframes hlocals hdg (fun H1 locs1 hP hD hS => ?_)
  · rw [hc] at hi
    rw [h0]
    have h9 := hf7 (i : Int) (by omega) (by omega)
    show fits .byte (.int (iZ (f ((0 + i : Nat) : Int)))) = true
    rw [Nat.zero_add]
    exact (nar_byte h9.1 h9.2).2.2
  · rw [hc, h0, hcd, ar_cpd] at hP hD
    exact kk _ H1 locs1 wu_s (fun j h => wu_n h) (hH.set hP hD hS)
theorem x_clone (hx : p.tables.exec = Jvm.exec) (hb : c.code = cc) (hml : c.maxLocals = nL) (hts : ∀ w ∈ Ts, w.before args s = true) (hown : s.vm.findClass own = some m.cls) (hK : va_K E.1 vwCl (xT E) s) (hSQ : SQ Z ST) (hST : ST A s s.heap) (hH : Hx E A s.heap σ H locs) (hw : cw E σ B S Y) {index : Nat} (h1 : Cond.methodLink own index ⟨"[B", "clone", "()Ljava/lang/Object;"⟩ ∈ Ts) (h2 : Cond.sameMethod "[B" "java/lang/Object" "clone" "()Ljava/lang/Object;" ∈ Ts) (h3 : Cond.native ⟨"java/lang/Object", "clone", "()Ljava/lang/Object;"⟩ ∈ Ts) (h4 : Cond.instanceMethod ⟨"java/lang/Object", "clone", "()Ljava/lang/Object;"⟩ ∈ Ts) (h5 : Cond.selects "[B" ⟨"[B", "clone", "()Ljava/lang/Object;"⟩ ⟨"java/lang/Object", "clone", "()Ljava/lang/Object;"⟩ ∈ Ts) (q0 : Nat) (hq0 : q0 < 85 + xx E) {n : Nat} (M : Nat) {f : Int → Int} (he : σ q0 = aY E n f) (hnM : n ≤ M) (hf7 : lt7 n f) (hls : ls.size = nL)
    (hframes : 1 ≤ R.frames) (hlocals : (rest.map fun v => v.category).sum + 14 ≤ R.locals) (hcells : cells + 1 ≤ R.cells) (hslots : slots + M ≤ R.slots) (hdg : decode cc pc = .ok (.invokevirtual index, 3))
    (kk : ∀ (E1 : xE) (g : Nat) (u : xW) (H1 : Heap), xE1 E E1 g → va_K E1.1 vwCl (xT E1) s → Hx E1 A s.heap u H1 locs → cw E1 u B S Y → u g = aY E1 n f → (∀ j : Nat, 85 ≤ j → j ≠ g → u j = σ j) → W p l e R s m args below meth c H1 locs (cells + 1) (slots + M) Q (F0 m (pc + 3) ls (.ref (xad E1 g) :: rest))) : W p l e R s m args below meth c H locs cells slots Q (F0 m pc ls (.ref (xad E q0) :: rest)) := by
  refine va_clone hx hb (hml.trans hls.symm) hown (hts _ h1) (hts _ h2) (hts _ h3) (hts _ h4) (hts _ h5) (hSQ _ _ _ hST).2.2.2.2 hK hH.1 hH.2.1 hH.2.2.1 hH.2.2.2 q0 3 (wl_get hq0 he) rfl (va_nm_byte (hK.2 3 _ rfl).2) (va_fit (ty := .byte) (F := fun j => .int (ar f j)) (fun i hi => ?_)) hframes hlocals hcells (by show slots + n ≤ _; omega) hdg (fun q H1 hK1 hP hD hS => ?_)
  · have h9 := hf7 (i : Int) (by omega) (by omega)
    exact (nar_byte h9.1 h9.2).2.2
  · obtain ⟨E1, g, u, hE, h3, h4, h5, h6, h7⟩ := Hx.push hw hP hD hS hH.2.2.2
    rw [← h7]
    exact W.widen (Nat.le_refl _) (by show slots + n ≤ _; omega) (kk E1 g u H1 hE (hE.K hK) h3 h4 (by rw [h5, ← hE.Y]) h6)
theorem x_castB (hx : p.tables.exec = Jvm.exec) (hb : c.code = cc) (hts : ∀ w ∈ Ts, w.before args s = true) (hown : s.vm.findClass own = some m.cls) (hK : va_K E.1 vwCl (xT E) s) (hH : Hx E A s.heap σ H locs) {index : Nat} (hl : Cond.classLink own index "[B" ∈ Ts) (q0 : Nat) (hq0 : q0 < 85 + xx E) {n : Nat} {f : Int → Int} (he : σ q0 = aY E n f) (hdg : decode cc pc = .ok (.checkcast index, 3)) (kk : W p l e R s m args below meth c H locs cells slots Q (F0 m (pc + 3) ls (.ref (xad E q0) :: rest))) : W p l e R s m args below meth c H locs cells slots Q (F0 m pc ls (.ref (xad E q0) :: rest)) :=
  va_castA hx hb hown (hts _ hl) hH.1 q0 (wl_get hq0 he) (va_nm_byte (hK.2 3 _ rfl).2) hdg kk
/-! texts that stand from the start -/
theorem x_sval (hx : p.tables.exec = Jvm.exec) (hb : c.code = cc) (hSQ : SQ Z ST) (hST : ST A s s.heap) (hH : Hx E A s.heap σ H locs) (hown : s.vm.findClass own = some m.cls) (hts : ∀ w ∈ Ts, w.before args s = true) {index : Nat} {i : Int} (h0 : 0 ≤ i) (h1 : i < 6) (hl : Cond.fieldLink own index "java/lang/String" "value" "[B" ∈ Ts) (hdg : decode cc pc = .ok (.getfield index, 3)) (kk : W p l e R s m args below meth c H locs cells slots Q (F0 m (pc + 3) ls (.ref (zV Z i) :: rest))) : W p l e R s m args below meth c H locs cells slots Q (F0 m pc ls (.ref (zK Z i) :: rest)) :=
  vk_getf hx hb ((hSQ _ _ _ hST).1.1 i.toNat (by omega)).2.2.1 hH.2.2.1 hown (hts _ hl) (fun _ h => h) hdg kk
theorem x_scod (hx : p.tables.exec = Jvm.exec) (hb : c.code = cc) (hSQ : SQ Z ST) (hST : ST A s s.heap) (hH : Hx E A s.heap σ H locs) (hown : s.vm.findClass own = some m.cls) (hts : ∀ w ∈ Ts, w.before args s = true) {index : Nat} {i : Int} (h0 : 0 ≤ i) (h1 : i < 6) (hl : Cond.fieldLink own index "java/lang/String" "coder" "B" ∈ Ts) (hdg : decode cc pc = .ok (.getfield index, 3)) (kk : W p l e R s m args below meth c H locs cells slots Q (F0 m (pc + 3) ls (.int (iZ 0) :: rest))) : W p l e R s m args below meth c H locs cells slots Q (F0 m pc ls (.ref (zK Z i) :: rest)) :=
  vk_getf hx hb ((hSQ _ _ _ hST).1.1 i.toNat (by omega)).2.1 hH.2.2.1 hown (hts _ hl) (fun _ h => h) hdg kk
theorem x_svlen (hx : p.tables.exec = Jvm.exec) (hb : c.code = cc) (hSQ : SQ Z ST) (hST : ST A s s.heap) (hH : Hx E A s.heap σ H locs) {i : Int} (h0 : 0 ≤ i) (h1 : i < 6) (hdg : decode cc pc = .ok (.arraylength, 1)) (kk : W p l e R s m args below meth c H locs cells slots Q (F0 m (pc + 1) ls (.int (iZ (slZ i)) :: rest))) : W p l e R s m args below meth c H locs cells slots Q (F0 m pc ls (.ref (zV Z i) :: rest)) :=
  va_tlen hx hb ((hSQ _ _ _ hST).1.1 i.toNat (by omega)).2.2.2 hH.2.2.1 rfl hdg kk
theorem x_sbyt (hx : p.tables.exec = Jvm.exec) (hb : c.code = cc) (hSQ : SQ Z ST) (hST : ST A s s.heap) (hH : Hx E A s.heap σ H locs) {i k : Int} (h0 : 0 ≤ i) (h1 : i < 6) (h2 : 0 ≤ k) (h3 : k < slZ i) (hdg : decode cc pc = .ok (.baload, 1)) (kk : W p l e R s m args below meth c H locs cells slots Q (F0 m (pc + 1) ls (.int (iZ (scZ i k)) :: rest))) : W p l e R s m args below meth c H locs cells slots Q (F0 m pc ls (.int (iZ k) :: .ref (zV Z i) :: rest)) := by
  have hb9 := slZ_b h0 h1
  refine va_tb hx hb ((hSQ _ _ _ hST).1.1 i.toNat (by omega)).2.2.2 hH.2.2.1 (iZ_in h2 (by unfold slZ at h3; exact h3) (by unfold slZ at hb9; omega)) ?_ hdg kk
  rw [iZ_clamp (by omega) h2]
  show Value.int ((sByt.getD i.toNat []).getD k.toNat 0) = _
  rw [sByt_at (by omega) (by unfold slZ at h3; omega)]
  rfl
theorem x_gcs (hx : p.tables.exec = Jvm.exec) (hb : c.code = cc) (hSQ : SQ Z ST) (hST : ST A s s.heap) (hH : Hx E A s.heap σ H locs) (hown : s.vm.findClass own = some m.cls) (hts : ∀ w ∈ Ts, w.before args s = true) {index : Nat} (hl : Cond.fieldLink own index "java/lang/String" "COMPACT_STRINGS" "Z" ∈ Ts) (hdg : decode cc pc = .ok (.getstatic index, 3)) (kk : W p l e R s m args below meth c H locs cells slots Q (F0 m (pc + 3) ls (.int (iZ 1) :: rest))) : W p l e R s m args below meth c H locs cells slots Q (F0 m pc ls rest) :=
  va_gets hx hb (hSQ _ _ _ hST).2.1 hH.2.2.1 hown (hts _ hl) (fun _ h => h) hdg kk
theorem x_gsi (hx : p.tables.exec = Jvm.exec) (hb : c.code = cc) (hSQ : SQ Z ST) (hST : ST A s s.heap) (hH : Hx E A s.heap σ H locs) (hown : s.vm.findClass own = some m.cls) (hts : ∀ w ∈ Ts, w.before args s = true) {index : Nat} (hl : Cond.fieldLink own index "jdk/internal/util/Preconditions" "SIOOBE_FORMATTER" "Ljava/util/function/BiFunction;" ∈ Ts) (hdg : decode cc pc = .ok (.getstatic index, 3)) (kk : ∀ v : Value, v.category = 1 → W p l e R s m args below meth c H locs cells slots Q (F0 m (pc + 3) ls (v :: rest))) : W p l e R s m args below meth c H locs cells slots Q (F0 m pc ls rest) := by
  rcases (hSQ _ _ _ hST).2.2.1 with h | ⟨t, h⟩
  · exact va_gets hx hb h hH.2.2.1 hown (hts _ hl) (fun _ h => h) hdg (kk _ rfl)
  · exact va_gets hx hb h hH.2.2.1 hown (hts _ hl) (fun _ h => h) hdg (kk _ rfl)
theorem x_recS (hSQ : SQ Z ST) (hST : ST A s s.heap) (hH : Hx E A s.heap σ H locs) {i : Int} (h0 : 0 ≤ i) (h1 : i < 6) : ∃ cell : Cell, H[zK Z i]? = some cell ∧ cell.vm.isStatics = false ∧ s.vm.findClass "java/lang/String" = some cell.cls :=
  vk_recv (hSQ _ _ _ hST).1 (by omega) hH.2.2.1
theorem x_scopy (hx : p.tables.exec = Jvm.exec) (hb : c.code = cc) (hml : c.maxLocals = nL) (hts : ∀ w ∈ Ts, w.before args s = true) (hown : s.vm.findClass own = some m.cls) (hK : va_K E.1 vwCl (xT E) s) (hSQ : SQ Z ST) (hST : ST A s s.heap) (hH : Hx E A s.heap σ H locs) {index : Nat} (h1 : Cond.methodLink own index arraycopyName ∈ Ts) (h2 : Cond.native arraycopyName ∈ Ts) (h3 : Cond.static arraycopyName ∈ Ts) (h4 : Cond.initialized "java/lang/System" ∈ Ts) {i : Int} (hi0 : 0 ≤ i) (hi1 : i < 6) (q1 : Nat) (hq1 : q1 < 85 + xx E) {n1 : Nat} {g : Int → Int} (he1 : σ q1 = aY E n1 g) {d : Int} {dn : Nat} (hd : d = (dn : Int)) (hn1 : d + slZ i ≤ n1) (hn : n1 ≤ 1000) (hls : ls.size = nL)
    (hframes : 1 ≤ R.frames) (hlocals : (rest.map fun v => v.category).sum + (nativeFrameWords "java/lang/System" "arraycopy" 5 + 11) ≤ R.locals) (hdg : decode cc pc = .ok (.invokestatic index, 3))
    (kk : ∀ (u : xW) (H1 : Heap) (locs1 : List Loc), u q1 = aY E n1 (cdZ d (slZ i) (scZ i) g) → (∀ j : Nat, j ≠ q1 → u j = σ j) → Hx E A s.heap u H1 locs1 → W p l e R s m args below meth c H1 locs1 cells slots Q (F0 m (pc + 3) ls rest)) : W p l e R s m args below meth c H locs cells slots Q (F0 m pc ls (.int (iZ (slZ i)) :: .int (iZ d) :: .ref (xad E q1) :: .int (iZ 0) :: .ref (zV Z i) :: rest)) := by
  subst hd
  have hb9 := slZ_b hi0 hi1
  obtain ⟨n, hn9⟩ : ∃ n : Nat, slZ i = (n : Int) := ⟨(slZ i).toNat, by omega⟩
  have hn8 : sLen.getD i.toNat 0 = n := by unfold slZ at hn9; omega
  rw [hn9] at hb9 hn1 kk ⊢
  have hc : (iZ (n : Int)).toNatClampNeg = n := by rw [iZ_clamp (by omega) (by omega)]; omega
  have hcd : (iZ (dn : Int)).toNatClampNeg = dn := by rw [iZ_clamp (by omega) (by omega)]; omega
  have h0 : (iZ 0).toNatClampNeg = 0 := rfl
  have hT := ((hSQ _ _ _ hST).1.1 i.toNat (by omega)).2.2.2
  rw [hn8] at hT
  have hby : ∀ j : Nat, j < n → (sByt.getD i.toNat []).getD j 0 = iZ (scZ i (j : Int)) := fun j hj => by
    rw [sByt_at (by omega) (by omega)]
    unfold scZ
    rw [Int.toNat_natCast]
  refine vk_copyt hx hb (hml.trans hls.symm) hown (hts _ h1) (hts _ h2) (hts _ h3) (hts _ h4) hK hH.1 hH.2.1 hH.2.2.1 hT q1 3 (wl_get hq1 he1) rfl (by decide) (by rw [← iZ_0, iZ_lt ⟨by omega, by omega⟩ ⟨by omega, by omega⟩]; omega) (by rw [← iZ_0, iZ_lt ⟨by omega, by omega⟩ ⟨by omega, by omega⟩]; omega) (by rw [hc, h0]; omega) (by rw [hc, hcd]; omega) (fun j hj => ?_) hframes hlocals hdg (fun H1 locs1 hP hD hS => ?_)
  · rw [hc] at hj
    rw [h0, Nat.zero_add, hby j hj]
    have h9 := scZ_b hi0 hi1 (k := (j : Int)) (by omega) (by omega)
    exact (nar_byte (by omega) (by omega)).2.2
  · rw [hc, h0, hcd] at hP hD
    have e : va_cpy (fun j => (sByt.getD i.toNat []).getD j 0) (ar g) 0 dn n = ar (cdZ (dn : Int) (n : Int) (scZ i) g) := by
      rw [← ar_cpd]
      funext j
      unfold va_cpy
      by_cases h : dn ≤ j ∧ j < dn + n
      · rw [if_pos h, if_pos h]
        exact hby _ (by omega)
      · rw [if_neg h, if_neg h]
    rw [e] at hP hD
    exact kk _ H1 locs1 wu_s (fun j h => wu_n h) (hH.set hP hD hS)
theorem x_ldcS (hx : p.tables.exec = Jvm.exec) (hb : c.code = cc) (hown : s.vm.findClass own = some m.cls) {tx : String} {index q : Nat} (hZ : vk_R own index tx q s) (hdg : decode cc pc = .ok (.ldc index, 2)) (kk : W p l e R s m args below meth c H locs cells slots Q (F0 m (pc + 2) ls (.ref q :: rest))) : W p l e R s m args below meth c H locs cells slots Q (F0 m pc ls rest) := by
  intro T hT X
  obtain ⟨t, a1, b1⟩ := kk T hT X
  refine ⟨t, ?_, b1⟩
  obtain ⟨kc, cf, i, q2, h1, h2, h3, -, h5, h6⟩ := Cond.stringRef_spec hown hZ.1
  have e2 : q = q2 := by
    have h7 := hZ.2.symm.trans h6
    cases h7
    rfl
  subst e2
  obtain ⟨kd, h8, h9⟩ := X.warmed.alike.2.2 _ _ h1
  have h10 : kd.resolved[index]? = some (some (.string q)) := by
    rcases X.warmed.entry h1 h8 index with h | ⟨h, -⟩
    · exact h.trans h5
    · exact absurd (h5.symm.trans h) (by simp)
  jvm_step X.here [hx, hb, hdg, ldc.wp_string (e := e) (s := T) (f := F0 m pc ls rest) X.here.top h8 (by rw [h9]; exact h2) h3 h10]
  exact a1
end XSR
