/-! ===== constructors: their frame, and the two methods that they call ===== -/
def Gy (E : xE) (ST : xST) (own : String) (Ts : List Cond) (cc : ByteArray) (nL : Nat) (A : Nat → Prop) (p : Program) (s : State) (m : MethodId) (args : Array Value) (meth : Method) (c : Code) : Prop :=
  p.tables.exec = Jvm.exec ∧ c.code = cc ∧ c.maxLocals = nL ∧ s.vm.findClass own = some m.cls ∧ (∀ w ∈ Ts, w.before args s = true) ∧ va_K E.1 vwCl (xT E) s ∧ ST A s s.heap ∧ meth.locks = false ∧ meth.sig.returnType = none ∧ meth.name = "<init>"
theorem CN_of {U9 : Type} {l : Launch} {E : xE} {ST : xST} {y : MethodName} {ws ws' : List Cond} {rm : Room} {ci : Nat} {fs : List Value} {L : Nat → U9 → va_W} {cc : ByteArray} {maxL : Nat} (hy : plainName y.cls = true) (hw : ws = Cond.code y cc maxL none :: ws') (hn : 1 ≤ maxL) (hi : y.name = "<init>")
    (body : ∀ (p : Program) (e : Env) (s : State) (m : MethodId) (args : Array Value) (below : List Frame) (meth : Method) (c : Code) (Q : State → Prop) (ls : Array Slot) (h0 : Nat) (A : Nat → Prop), Gy E ST y.cls ws cc maxL A p s m args meth c → Hy E A s.heap [(h0, .inr (ci, fs))] s.heap [] → lv_has ls maxL [(0, .ref h0)] → Q = MQ below (va_Qv (fun _ : U9 => True) (fun u t => va_P E.1 vwCl (L h0 u) t.heap ∧ va_D A (L h0 u)) A) args s rm.cells rm.slots A →
      W p l e rm s m args below meth c s.heap [] 0 0 Q (F0 m 0 ls [])) : CN U9 l E ST y ws rm ci fs L := by
  intro h0 sz
  refine Met.ofW hy hw ?_
  intro p e s m args below meth c s₁ B hml hv
  obtain ⟨rfl, hsz, hP, hK, hD0, hST⟩ := hv
  have hts := atoms_spec (ws := ws) B.pre
  subst hsz
  have hD := hD0.self (sz := s.heap.size)
  rw [lg_entry_eq]
  have hl := lv_entry ([.ref h0]) (n := maxL) hn
  exact body p e s m _ below meth c _ _ h0 _ ⟨B.exec, B.bytes, hml, findClass_of_methodNamed B.named, hts, hK, hST, B.notSynchronized, B.returns, (name_of_methodNamed B.named B.method).1.trans hi⟩ ⟨hP, hD, va_S.rf, fun q h => Or.inr h⟩ hl rfl
/-- fill, over the one row -/
theorem c_fillY {l : Launch} {E : xE} {ST : xST} (a sz N : Nat) (f : Int → Int) (v : Int) (hN : N ≤ 1000) : Met l yJ7_fill_53178 wsJ7_fill_53178 rm_J7_fill_53178 (va_Pc [.ref a, .int (iZ v)] (yPre E ST [(a, aI E N f)] sz)) (va_Qv (fun _ : Unit => True) (fun _ t => va_P E.1 vwCl [(a, aI E N (fun _ => v))] t.heap) (va_A [(a, aI E N f)] sz)) rm_J7_fill_53178.cells rm_J7_fill_53178.slots (va_A [(a, aI E N f)] sz) := by
  refine Met.ofW (cc := cJ7_fill_53178) (maxL := 4) (ret := none) (by decide) rfl ?_
  intro p e s m args below meth c s₁ B hml hv
  obtain ⟨rfl, hsz, hP, hK, hD0, hST⟩ := hv
  subst hsz
  have hx := B.exec
  have hb := B.bytes
  have hr := B.returns
  have hlocks := B.notSynchronized
  have hD := hD0.self (sz := s.heap.size)
  have hA : ∀ q : Nat, s.heap.size ≤ q → va_A [(a, aI E N f)] s.heap.size q := fun q h => Or.inr h
  generalize va_A [(a, aI E N f)] s.heap.size = A at hD hA ⊢
  have hH : Hy E A s.heap [(a, aI E N f)] s.heap [] := ⟨hP, hD, va_S.rf, hA⟩
  rw [lg_entry_eq]
  have hl := lv_entry ([.ref a, .int (iZ v)]) (n := 4) (Nat.le_of_ble_eq_true rfl)
  generalize (lg_sl ([.ref a, .int (iZ v)]) ++ List.replicate (4 - (lg_sl ([.ref a, .int (iZ v)])).length) Slot.unset).toArray = ls at hl ⊢
  have hl : lv_has ls 4 [(0, .ref a), (1, .int (iZ v))] := hl
  refine x_iconst hx hb dJ7_fill_53178_0 ?_
  refine lv_istore_n (lv' := [(2, .int (iZ 0)), (0, .ref a), (1, .int (iZ v))]) hx hb dJ7_fill_53178_1 rfl hl (by decide) rfl (fun ls hl => ?_)
  refine lv_aload_n hx hb dJ7_fill_53178_2 rfl (lv_at hl 1 rfl) ?_
  refine va_alen hx hb hK hH.1 0 0 (a := a) (cA := xI E) (ty := .int) rfl rfl (by rfl) dJ7_fill_53178_3 ?_
  refine lv_istore_n (lv' := [(3, .int (iZ (N : Int))), (2, .int (iZ 0)), (0, .ref a), (1, .int (iZ v))]) hx hb dJ7_fill_53178_4 rfl hl (by decide) rfl (fun ls hl => ?_)
  have K5 : ∀ (nK : Nat) (i : Int) (g : Int → Int) (H : Heap) (locs : List Loc) (ls : Array Slot), (N - i).toNat < nK → (0 ≤ i ∧ i ≤ N) → (∀ j : Int, 0 ≤ j → j < i → g j = v) → Hy E A s.heap [(a, aI E N g)] H locs → lv_has ls 4 [(3, .int (iZ (N : Int))), (2, .int (iZ i)), (0, .ref a), (1, .int (iZ v))] → W p l e rm_J7_fill_53178 s m #[.ref a, .int (iZ v)] below meth c H locs 0 0 (MQ below (va_Qv (fun _ : Unit => True) (fun _ t => va_P E.1 vwCl [(a, aI E N (fun _ => v))] t.heap) A) #[.ref a, .int (iZ v)] s rm_J7_fill_53178.cells rm_J7_fill_53178.slots A) (F0 m 5 ls []) := by
    intro n5
    induction n5 with
    | zero =>
      intro i g H locs ls hm
      exact absurd hm (Nat.not_lt_zero _)
    | succ n5 ih5 =>
      intro i g H locs ls hm5 hi hg hH hl
      refine lv_iload_n hx hb dJ7_fill_53178_5 rfl (lv_at hl 1 rfl) ?_
      refine lv_iload_n hx hb dJ7_fill_53178_6 rfl (lv_at hl 0 rfl) ?_
      refine x_icmp_ge (tgt := 20) hx hb dJ7_fill_53178_7 (by decide) ⟨by omega, by omega⟩ ⟨by omega, by omega⟩ (fun c7 => ?_) (fun c7 => ?_)
      · have hH2 := hH.norm 0 (g := ar (fun _ => v)) rfl (fun j hj => by unfold ar; rw [hg _ (by omega) (by omega)])
        exact W.widen (Nat.zero_le _) (Nat.zero_le _) (W.vret hx hb hr (fun t ht hW => ⟨⟨(), rfl, trivial, (by show va_P _ _ _ t.heap; rw [ht]; exact hH2.1)⟩, hH2.2.2.1.F ht⟩) hH2.2.2.1.2.2 dJ7_fill_53178_20 hlocks)
      · refine lv_aload_n hx hb dJ7_fill_53178_10 rfl (lv_at hl 2 rfl) ?_
        refine lv_iload_n hx hb dJ7_fill_53178_11 rfl (lv_at hl 1 rfl) ?_
        refine lv_iload_n hx hb dJ7_fill_53178_12 rfl (lv_at hl 3 rfl) ?_
        refine y_ast hx hb hK hH 0 rfl (by omega) (by omega) hN dJ7_fill_53178_13 (fun H locs hH => ?_)
        refine x_iinc (lv' := [(2, .int (iZ (i + 1))), (3, .int (iZ (N : Int))), (0, .ref a), (1, .int (iZ v))]) hx hb dJ7_fill_53178_14 hl (k := 1) rfl (by decide) rfl (fun ls hl => ?_)
        refine lv_goto (tgt := 5) hx hb dJ7_fill_53178_17 (by decide) ?_
        exact ih5 (i + 1) (ui g i v) _ _ _ (by omega) (by omega) (fun j h0 h1 => by by_cases e : j = i; (rw [e, ui_s]); (rw [ui_n e]; exact hg j h0 (by omega))) hH (lv_sub hl [1, 0, 2, 3] rfl)
  exact K5 (N + 1) 0 f _ _ _ (by omega) ⟨by omega, by omega⟩ (fun j h0 h1 => by omega) hH (lv_sub hl [0, 1, 2, 3] rfl)
section YQ
variable {p : Program} {l : Launch} {e : Env} {R : Room} {s : State} {m : MethodId} {args : Array Value} {below : List Frame} {meth : Method} {c : Code} {H : Heap} {locs : List Loc} {cells slots : Nat} {Q : State → Prop}
variable {cc : ByteArray} {pc : Nat} {ls : Array Slot} {rest st0 : List Value} {E : xE} {ST : xST} {A : Nat → Prop} {W9 W8 : va_W} {Ts : List Cond} {own : String} {nL : Nat} {U9 : Type} {L : Nat → U9 → va_W}
theorem y_ret (hx : p.tables.exec = Jvm.exec) (hb : c.code = cc) (hr : meth.sig.returnType = none) (hlocks : meth.locks = false) {h0 mc ms : Nat} {u : U9} (hH : Hy E A s.heap (L h0 u) H locs) (hc : cells ≤ mc) (hs : slots ≤ ms) (hdg : decode cc pc = .ok (.return_, 1)) : W p l e R s m args below meth c H locs cells slots (MQ below (va_Qv (fun _ : U9 => True) (fun u t => va_P E.1 vwCl (L h0 u) t.heap ∧ va_D A (L h0 u)) A) args s mc ms A) (F0 m pc ls []) :=
  W.widen hc hs (W.vret hx hb hr (fun t ht hW => ⟨⟨u, rfl, trivial, ht ▸ hH.1, hH.2.1⟩, hH.2.2.1.F ht⟩) hH.2.2.1.2.2 hdg hlocks)
theorem y_fill (hx : p.tables.exec = Jvm.exec) (hb : c.code = cc) (hml : c.maxLocals = nL) (hts : ∀ w ∈ Ts, w.before args s = true) (hown : s.vm.findClass own = some m.cls) (hK : va_K E.1 vwCl (xT E) s) (hST : ST A s s.heap) (hOK : xOK ST) (hH : Hy E A s.heap W9 H locs) (k0 : Nat) {a N : Nat} {f : Int → Int} (he : W9[k0]? = some (a, aI E N f)) (hN : N ≤ 1000) {ix : Nat} {v : Int} (cw : CallB R s args own ix yJ7_fill_53178 cJ7_fill_53178 4 none wsJ7_fill_53178 rm_J7_fill_53178 rm_J7_fill_53178.cells rm_J7_fill_53178.slots 2 ∧ (Cond.static yJ7_fill_53178).before args s = true) (hls : ls.size = nL) (hroom : (rest.map fun v => v.category).sum ≤ 8) (hdg : decode cc pc = .ok (.invokestatic ix, 3)) (hcells : cells + rm_J7_fill_53178.cells ≤ R.cells) (hslots : slots + rm_J7_fill_53178.slots ≤ R.slots)
    (kk : ∀ (H1 : Heap) (locs1 : List Loc), Hy E A s.heap (W9.set k0 (a, aI E N (fun _ => v))) H1 locs1 → W p l e R s m args below meth c H1 locs1 (cells + rm_J7_fill_53178.cells) (slots + rm_J7_fill_53178.slots) Q (F0 m (pc + 3) ls rest)) : W p l e R s m args below meth c H locs cells slots Q (F0 m pc ls (.int (iZ v) :: .ref a :: rest)) := by
  obtain ⟨hP, hD, hS, hA⟩ := hH
  have hC : [k0].map (fun i => W9[i]?) = [((a, aI E N f) : Nat × va_E)].map some := by simp [he]
  have hC2 : [k0].filterMap (fun i => W9[i]?) = [((a, aI E N f) : Nat × va_E)] := by simp [he]
  have hF := va_free (wc := [(a, aI E N f)]) hD hS hA [k0] hC
  refine va_callv (va_runS (As := [.ref a, .int (iZ v)]) (rest := rest) ⟨hx, hb, hml, hown, hts⟩ (c_fillY a H.size N f v hN) cw ⟨yPre.blind hOK _ _ _, fun U hU hW => ⟨rfl, by rw [hU], by rw [hU]; exact hP.sub [k0] hC2, va_K.moved hW.alike hK, (hD.sub [k0] rfl hC).weaken (fun _ _ _ _ => trivial), ?_⟩⟩ rfl rfl hls rfl (lv_room hroom) hdg ⟨hcells, hslots⟩) hS (fun q _ h => hF q h) hF (fun u t H2 locs2 ht hvm hw hB hz hk hS2 => ?_)
  · rw [hU]
    exact hOK.2.2.2 _ _ _ _ hF (hOK.1 _ _ _ _ hW (hOK.2.2.1 _ _ _ _ hS.2.1 hST))
  · rw [ht] at hB
    refine kk H2 locs2 ⟨?_, hD.set he, hS2, hA⟩
    intro k q hq
    by_cases e9 : k = k0
    · subst e9
      rw [List.getElem?_set_self (List.getElem?_eq_some_iff.mp he).1] at hq
      have h2 := Option.some.inj hq
      subst h2
      exact hB 0 _ rfl
    · rw [List.getElem?_set_ne (fun q => e9 q.symm)] at hq
      refine (hP k q hq).kept (hk q.1 (hP k q hq).lt (fun h => ?_))
      rcases h with ⟨k2, e2, h⟩ | h
      · have h3 : k2 = 0 ∧ (a, aI E N f) = (q.1, e2) := by
          rcases k2 with _ | k2
          · exact ⟨rfl, Option.some.inj h⟩
          · exact absurd h (by simp)
        exact e9 (hD.1 k k0 q (a, aI E N f) hq he (congrArg Prod.fst h3.2).symm)
      · exact absurd (hP k q hq).lt (by omega)
end YQ
