/-! ===== a method that answers a new row ===== -/
def CR (l : Launch) (E : xE) (ST : xST) (y : MethodName) (ws : List Cond) (rm : Room) (av : List Value) (σ : xW) (post : xE → Nat → xW → Prop) : Prop := ∀ sz : Nat, Met l y ws rm (va_Pc av (xPre E ST σ sz)) (va_Qr (S := xE × Nat × xW) (fun u => post u.1 u.2.1 u.2.2) (fun u a t => a = xad u.1 u.2.1 ∧ va_P u.1.1 vwCl (wl u.1 u.2.2) t.heap ∧ va_D (xA E sz) (wl u.1 u.2.2)) (xA E sz)) rm.cells rm.slots (xA E sz)
theorem CR_of {l : Launch} {E : xE} {ST : xST} {y : MethodName} {ws : List Cond} {ws' : List Cond} {rm : Room} {av : List Value} {σ : xW} {cc : ByteArray} {maxL : Nat} {ret : Option FieldType} {post : xE → Nat → xW → Prop} (hy : plainName y.cls = true) (hw : ws = Cond.code y cc maxL ret :: ws') (hn : (lg_sl av).length ≤ maxL)
    (body : ∀ (p : Program) (e : Env) (s : State) (m : MethodId) (args : Array Value) (below : List Frame) (meth : Method) (c : Code) (Q : State → Prop) (ls : Array Slot), Gx E ST y.cls ws cc maxL ret p s m args meth c → Hx E (xA E s.heap.size) s.heap σ s.heap [] → lv_has ls maxL (lv_args 0 av) → Q = MQ below (va_Qr (S := xE × Nat × xW) (fun u => post u.1 u.2.1 u.2.2) (fun u a t => a = xad u.1 u.2.1 ∧ va_P u.1.1 vwCl (wl u.1 u.2.2) t.heap ∧ va_D (xA E s.heap.size) (wl u.1 u.2.2)) (xA E s.heap.size)) args s rm.cells rm.slots (xA E s.heap.size) →
      W p l e rm s m args below meth c s.heap [] 0 0 Q (F0 m 0 ls [])) : CR l E ST y ws rm av σ post := by
  intro sz
  refine Met.ofW hy hw ?_
  intro p e s m args below meth c s₁ B hml hv
  obtain ⟨rfl, rfl, G, hH⟩ := Gx_of hw B hml hv
  rw [lg_entry_eq]
  exact body p e s m _ below meth c _ _ G hH (lv_entry av hn) rfl
section XRR
variable {p : Program} {l : Launch} {e : Env} {R : Room} {s : State} {m : MethodId} {args : Array Value} {below : List Frame} {meth : Method} {c : Code} {H : Heap} {locs : List Loc} {cells slots : Nat} {Q : State → Prop}
variable {cc : ByteArray} {pc : Nat} {ls : Array Slot} {rest st0 : List Value} {E E0 : xE} {ST : xST} {A : Nat → Prop} {σ u : xW} {Ts : List Cond} {own : String} {nL : Nat}
theorem x_aret (hx : p.tables.exec = Jvm.exec) (hb : c.code = cc) {ty : FieldType} (hr : meth.sig.returnType = some (.array ty)) (hlocks : meth.locks = false) (hH : Hx E (xA E0 s.heap.size) s.heap u H locs) {mc ms : Nat} (hc : cells ≤ mc) (hs : slots ≤ ms) {post : xE → Nat → xW → Prop} {g : Nat} (hp : post E g u) (hdg : decode cc pc = .ok (.areturn, 1)) : W p l e R s m args below meth c H locs cells slots (MQ below (va_Qr (S := xE × Nat × xW) (fun u => post u.1 u.2.1 u.2.2) (fun u a t => a = xad u.1 u.2.1 ∧ va_P u.1.1 vwCl (wl u.1 u.2.2) t.heap ∧ va_D (xA E0 s.heap.size) (wl u.1 u.2.2)) (xA E0 s.heap.size)) args s mc ms (xA E0 s.heap.size)) (F0 m pc ls [.ref (xad E g)]) :=
  W.widen hc hs (W.aret hx hb hr (Or.inr ⟨ty, rfl⟩) (Or.inr ⟨_, rfl⟩) (fun t ht hW => ⟨⟨(E, g, u), _, rfl, hp, rfl, ht ▸ hH.1, hH.2.1⟩, hH.2.2.1.F ht⟩) hH.2.2.1.2.2 hdg hlocks)
theorem x_cSR (hx : p.tables.exec = Jvm.exec) (hb : c.code = cc) (hml : c.maxLocals = nL) (hts : ∀ w ∈ Ts, w.before args s = true) (hown : s.vm.findClass own = some m.cls) (hK : va_K E.1 vwCl (xT E) s) (hST : ST A s s.heap) (hOK : xOK ST) (hH : Hx E A s.heap σ H locs) {y : MethodName} {bytes : ByteArray} {maxL n index : Nat} {ret : Option FieldType} {ws : List Cond} {rm : Room} {As : List Value} {post : xE → Nat → xW → Prop} (hM : CR l E ST y ws rm As σ post) (cw : CallB R s args own index y bytes maxL ret ws rm rm.cells rm.slots n ∧ (Cond.static y).before args s = true) (hn : As.length = n) (hls : ls.size = nL) (hst : st0 = As.reverse ++ rest) (hroom : (rest.map fun v => v.category).sum ≤ 8) (hdg : decode cc pc = .ok (.invokestatic index, 3)) (hf : cells + rm.cells ≤ R.cells ∧ slots + rm.slots ≤ R.slots)
    (kk : ∀ (E1 : xE) (g : Nat) (u : xW) (H1 : Heap) (locs1 : List Loc), post E1 g u → Hx E1 A s.heap u H1 locs1 → W p l e R s m args below meth c H1 locs1 (cells + rm.cells) (slots + rm.slots) Q (F0 m (pc + 3) ls (.ref (xad E1 g) :: rest))) : W p l e R s m args below meth c H locs cells slots Q (F0 m pc ls st0) :=
  va_callr (va_runS ⟨hx, hb, hml, hown, hts⟩ (hM H.size) cw ⟨(xPre.blind hOK _ _ _), fun U hU hW => ⟨rfl, xPre.of hOK hK hST hH hU hW⟩⟩ rfl hn hls hst (lv_room hroom) hdg hf) hH.2.2.1 (fun q _ h => hH.A q h) hH.A (fun w ra t H1 locs1 ht hvm hp hB hz hk1 hS => by
    obtain ⟨E1, g, u⟩ := w
    obtain ⟨rfl, h1, h2⟩ := hB
    exact kk E1 g u H1 locs1 hp ⟨ht ▸ h1, h2.weaken (fun k q hk hq => hH.A q.1 hq), hS, hH.2.2.2⟩)
end XRR
