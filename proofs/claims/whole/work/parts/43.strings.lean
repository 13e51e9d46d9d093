/-! ===== texts, constants and rows of numbers that stand from the start ===== -/
abbrev zE : Type := (Nat → Nat) × (Nat → Nat) × (Nat → Nat) × Nat × Nat
abbrev zK (Z : zE) (i : Int) : Nat := Z.1 i.toNat
abbrev zV (Z : zE) (i : Int) : Nat := Z.2.1 i.toNat
abbrev zC (Z : zE) (i : Int) : Nat := Z.2.2.1 i.toNat
abbrev zT (Z : zE) : Nat := Z.2.2.2.1
abbrev zM (Z : zE) : Nat := Z.2.2.2.2
def sStr : List (List Int) := [[116, 105, 108, 101, 32, 68, 68, 32, 78], [116, 117, 114, 110, 32, 68, 68, 32, 68], [112, 105, 110, 32, 68, 68], [117, 110, 112, 105, 110, 32, 68, 68], [114, 111, 119, 32, 68, 83, 68], [99, 111, 108, 117, 109, 110, 32, 68, 83, 68], [107, 101, 121, 32, 76, 32, 68, 68], [108, 111, 99, 107, 32, 68, 68, 32, 76], [111, 112, 101, 110, 32, 68, 68], [101, 110, 116, 101, 114, 32, 68, 68], [119, 97, 108, 107, 32, 68, 32, 68, 68], [116, 105, 108, 101, 32, 116, 117, 114, 110, 32, 112, 105, 110, 32, 117, 110, 112, 105, 110, 32, 114, 111, 119, 32, 99, 111, 108, 117, 109, 110, 32, 107, 101, 121, 32, 108, 111, 99, 107, 32, 111, 112, 101, 110, 32, 101, 110, 116, 101, 114, 32, 119, 97, 108, 107, 32]]
def sLen : List Nat := sStr.map List.length
def sByt : List (List Int32) := sStr.map (fun q => q.map iZ)
def slZ (i : Int) : Int := ((sLen.getD i.toNat 0 : Nat) : Int)
def scZ (i k : Int) : Int := (sStr.getD i.toNat []).getD k.toNat 0
def cNm : List String := ["TILE", "TURN", "PIN", "UNPIN", "ROW", "COLUMN", "KEY", "LOCK", "OPEN", "ENTER", "WALK"]
def cFl : List (String × String × String × List Int32) := [("java/lang/Enum", "ordinal", "I", [0, 1, 2, 3, 4, 5, 6, 7, 8, 9, 10])]
def sNames : String := "tile turn pin unpin row column key lock open enter walk "
/-- the compiler's row for the switch over commands: the last command is the default -/
def smZ (i : Int) : Int := if i = 10 then 0 else i + 1
theorem smZ_c {i : Int} : (smZ i = 0 ∧ i = 10) ∨ (smZ i = i + 1 ∧ ¬ i = 10) := by
  unfold smZ
  by_cases h : i = 10
  · exact Or.inl ⟨if_pos h, h⟩
  · exact Or.inr ⟨if_neg h, h⟩
def SQ (Z : zE) (ST : xST) : Prop := ∀ (A : Nat → Prop) (U : State) (H : Heap), ST A U H →
  vk_S 12 sLen sByt Z.1 Z.2.1 A U H ∧ va_En RX2 "LBrambleShift$Command;" cNm cFl Z.2.2.1 A U H ∧ va_Ef 11 RX2 "pattern" "Ljava/lang/String;" (fun k => .ref (Z.1 k)) Z.2.2.1 A U H ∧
  va_Z RX6 "COMMANDS" "[LBrambleShift$Command;" (.ref (zT Z)) A U H ∧ va_T (.object RX2) (zT Z) 11 (fun j => .ref (Z.2.2.1 j)) A U H ∧
  va_Z "BrambleShift$1" "$SwitchMap$BrambleShift$Command" "[I" (.ref (zM Z)) A U H ∧ va_T .int (zM Z) 11 (fun j => .int (iZ (smZ (j : Int)))) A U H ∧
  va_Z "java/lang/String" "COMPACT_STRINGS" "Z" (.int 1) A U H ∧ va_Zq "jdk/internal/util/Preconditions" "SIOOBE_FORMATTER" "Ljava/util/function/BiFunction;" A U H ∧
  vk_R RX7 259 sNames (Z.1 11) U ∧ va_Nw (.fieldLinkNest RX4 39 RX6 "COMMANDS" "[LBrambleShift$Command;" "BrambleShift") U
theorem slZ_tab : ∀ i : Nat, i < 12 → sLen.getD i 0 < 100 ∧ (sStr.getD i []).length = sLen.getD i 0 ∧ (∀ c ∈ sStr.getD i [], 32 ≤ c ∧ c ≤ 122) := by decide +kernel
theorem slZ_b {i : Int} (h0 : 0 ≤ i) (h1 : i < 12) : 0 ≤ slZ i ∧ slZ i < 100 := by
  have h := (slZ_tab i.toNat (by omega)).1
  unfold slZ
  omega
theorem scZ_b {i k : Int} (h0 : 0 ≤ i) (h1 : i < 12) (h2 : 0 ≤ k) (h3 : k < slZ i) : 32 ≤ scZ i k ∧ scZ i k ≤ 122 := by
  have h := slZ_tab i.toNat (by omega)
  unfold slZ at h3
  unfold scZ
  have hk : k.toNat < (sStr.getD i.toNat []).length := by omega
  have e : (sStr.getD i.toNat []).getD k.toNat 0 = (sStr.getD i.toNat [])[k.toNat] := by
    rw [List.getD_eq_getElem?_getD, List.getElem?_eq_getElem hk]
    rfl
  rw [e]
  exact h.2.2 _ (List.getElem_mem hk)
theorem sByt_at {i j : Nat} (hi : i < 12) (hj : j < sLen.getD i 0) : (sByt.getD i []).getD j 0 = iZ ((sStr.getD i []).getD j 0) := by
  have hl : sStr.length = 12 := rfl
  have e : sByt.getD i [] = (sStr.getD i []).map iZ := by
    unfold sByt
    rw [List.getD_eq_getElem?_getD, List.getD_eq_getElem?_getD, List.getElem?_map, List.getElem?_eq_getElem (by omega)]
    rfl
  have hj2 : j < (sStr.getD i []).length := by
    rw [(slZ_tab i hi).2.1]
    exact hj
  rw [e]
  generalize sStr.getD i [] = q at hj2
  rw [List.getD_eq_getElem?_getD, List.getD_eq_getElem?_getD, List.getElem?_map, List.getElem?_eq_getElem hj2]
  rfl
section XRZ
variable {p : Program} {l : Launch} {e : Env} {R : Room} {s : State} {m : MethodId} {args : Array Value} {below : List Frame} {meth : Method} {c : Code} {H : Heap} {locs : List Loc} {cells slots : Nat} {Q : State → Prop}
variable {cc : ByteArray} {pc : Nat} {ls : Array Slot} {rest st0 : List Value} {E : xE} {ST : xST} {A : Nat → Prop} {σ : xW} {Ts : List Cond} {own : String} {nL : Nat} {Z : zE}
theorem x_sval (hx : p.tables.exec = Jvm.exec) (hb : c.code = cc) (hSQ : SQ Z ST) (hST : ST A s s.heap) (hH : Hx E A s.heap σ H locs) (hown : s.vm.findClass own = some m.cls) (hts : ∀ w ∈ Ts, w.before args s = true) {index : Nat} {i : Int} (h0 : 0 ≤ i) (h1 : i < 12) (hl : Cond.fieldLink own index "java/lang/String" "value" "[B" ∈ Ts) (hdg : decode cc pc = .ok (.getfield index, 3)) (kk : W p l e R s m args below meth c H locs cells slots Q (F0 m (pc + 3) ls (.ref (zV Z i) :: rest))) : W p l e R s m args below meth c H locs cells slots Q (F0 m pc ls (.ref (zK Z i) :: rest)) :=
  vk_getf hx hb ((hSQ _ _ _ hST).1.1 i.toNat (by omega)).2.2.1 hH.2.2.1 hown (hts _ hl) (fun _ h => h) hdg kk
theorem x_scod (hx : p.tables.exec = Jvm.exec) (hb : c.code = cc) (hSQ : SQ Z ST) (hST : ST A s s.heap) (hH : Hx E A s.heap σ H locs) (hown : s.vm.findClass own = some m.cls) (hts : ∀ w ∈ Ts, w.before args s = true) {index : Nat} {i : Int} (h0 : 0 ≤ i) (h1 : i < 12) (hl : Cond.fieldLink own index "java/lang/String" "coder" "B" ∈ Ts) (hdg : decode cc pc = .ok (.getfield index, 3)) (kk : W p l e R s m args below meth c H locs cells slots Q (F0 m (pc + 3) ls (.int (iZ 0) :: rest))) : W p l e R s m args below meth c H locs cells slots Q (F0 m pc ls (.ref (zK Z i) :: rest)) :=
  vk_getf hx hb ((hSQ _ _ _ hST).1.1 i.toNat (by omega)).2.1 hH.2.2.1 hown (hts _ hl) (fun _ h => h) hdg kk
theorem x_svlen (hx : p.tables.exec = Jvm.exec) (hb : c.code = cc) (hSQ : SQ Z ST) (hST : ST A s s.heap) (hH : Hx E A s.heap σ H locs) {i : Int} (h0 : 0 ≤ i) (h1 : i < 12) (hdg : decode cc pc = .ok (.arraylength, 1)) (kk : W p l e R s m args below meth c H locs cells slots Q (F0 m (pc + 1) ls (.int (iZ (slZ i)) :: rest))) : W p l e R s m args below meth c H locs cells slots Q (F0 m pc ls (.ref (zV Z i) :: rest)) :=
  va_tlen hx hb ((hSQ _ _ _ hST).1.1 i.toNat (by omega)).2.2.2 hH.2.2.1 rfl hdg kk
theorem x_sbyt (hx : p.tables.exec = Jvm.exec) (hb : c.code = cc) (hSQ : SQ Z ST) (hST : ST A s s.heap) (hH : Hx E A s.heap σ H locs) {i k : Int} (h0 : 0 ≤ i) (h1 : i < 12) (h2 : 0 ≤ k) (h3 : k < slZ i) (hdg : decode cc pc = .ok (.baload, 1)) (kk : W p l e R s m args below meth c H locs cells slots Q (F0 m (pc + 1) ls (.int (iZ (scZ i k)) :: rest))) : W p l e R s m args below meth c H locs cells slots Q (F0 m pc ls (.int (iZ k) :: .ref (zV Z i) :: rest)) := by
  have hb9 := slZ_b h0 h1
  refine va_tb hx hb ((hSQ _ _ _ hST).1.1 i.toNat (by omega)).2.2.2 hH.2.2.1 (iZ_in h2 (by unfold slZ at h3; exact h3) (by unfold slZ at hb9; omega)) ?_ hdg kk
  rw [iZ_clamp (by omega) h2]
  show Value.int ((sByt.getD i.toNat []).getD k.toNat 0) = _
  rw [sByt_at (by omega) (by unfold slZ at h3; omega)]
  rfl
theorem x_gcs (hx : p.tables.exec = Jvm.exec) (hb : c.code = cc) (hSQ : SQ Z ST) (hST : ST A s s.heap) (hH : Hx E A s.heap σ H locs) (hown : s.vm.findClass own = some m.cls) (hts : ∀ w ∈ Ts, w.before args s = true) {index : Nat} (hl : Cond.fieldLink own index "java/lang/String" "COMPACT_STRINGS" "Z" ∈ Ts) (hdg : decode cc pc = .ok (.getstatic index, 3)) (kk : W p l e R s m args below meth c H locs cells slots Q (F0 m (pc + 3) ls (.int (iZ 1) :: rest))) : W p l e R s m args below meth c H locs cells slots Q (F0 m pc ls rest) :=
  va_gets hx hb (hSQ _ _ _ hST).2.2.2.2.2.2.2.1 hH.2.2.1 hown (hts _ hl) (fun _ h => h) hdg kk
theorem x_gsi (hx : p.tables.exec = Jvm.exec) (hb : c.code = cc) (hSQ : SQ Z ST) (hST : ST A s s.heap) (hH : Hx E A s.heap σ H locs) (hown : s.vm.findClass own = some m.cls) (hts : ∀ w ∈ Ts, w.before args s = true) {index : Nat} (hl : Cond.fieldLink own index "jdk/internal/util/Preconditions" "SIOOBE_FORMATTER" "Ljava/util/function/BiFunction;" ∈ Ts) (hdg : decode cc pc = .ok (.getstatic index, 3)) (kk : ∀ v : Value, v.category = 1 → W p l e R s m args below meth c H locs cells slots Q (F0 m (pc + 3) ls (v :: rest))) : W p l e R s m args below meth c H locs cells slots Q (F0 m pc ls rest) := by
  rcases (hSQ _ _ _ hST).2.2.2.2.2.2.2.2.1 with h | ⟨t, h⟩
  · exact va_gets hx hb h hH.2.2.1 hown (hts _ hl) (fun _ h => h) hdg (kk _ rfl)
  · exact va_gets hx hb h hH.2.2.1 hown (hts _ hl) (fun _ h => h) hdg (kk _ rfl)
theorem x_gcm (hx : p.tables.exec = Jvm.exec) (hb : c.code = cc) (hSQ : SQ Z ST) (hST : ST A s s.heap) (hH : Hx E A s.heap σ H locs) (hown : s.vm.findClass RX4 = some m.cls) (hdg : decode cc pc = .ok (.getstatic 39, 3)) (kk : W p l e R s m args below meth c H locs cells slots Q (F0 m (pc + 3) ls (.ref (zT Z) :: rest))) : W p l e R s m args below meth c H locs cells slots Q (F0 m pc ls rest) :=
  va_getsN hx hb (hSQ _ _ _ hST).2.2.2.1 hH.2.2.1 hown (va_Nw.use rfl (hSQ _ _ _ hST).2.2.2.2.2.2.2.2.2.2) (fun _ h => h) hdg kk
theorem x_cmlen (hx : p.tables.exec = Jvm.exec) (hb : c.code = cc) (hSQ : SQ Z ST) (hST : ST A s s.heap) (hH : Hx E A s.heap σ H locs) (hdg : decode cc pc = .ok (.arraylength, 1)) (kk : W p l e R s m args below meth c H locs cells slots Q (F0 m (pc + 1) ls (.int (iZ 11) :: rest))) : W p l e R s m args below meth c H locs cells slots Q (F0 m pc ls (.ref (zT Z) :: rest)) :=
  va_tlen hx hb (hSQ _ _ _ hST).2.2.2.2.1 hH.2.2.1 rfl hdg kk
theorem x_cmald (hx : p.tables.exec = Jvm.exec) (hb : c.code = cc) (hSQ : SQ Z ST) (hST : ST A s s.heap) (hH : Hx E A s.heap σ H locs) {i : Int} (h0 : 0 ≤ i) (h1 : i < 11) (hdg : decode cc pc = .ok (.aaload, 1)) (kk : W p l e R s m args below meth c H locs cells slots Q (F0 m (pc + 1) ls (.ref (zC Z i) :: rest))) : W p l e R s m args below meth c H locs cells slots Q (F0 m pc ls (.int (iZ i) :: .ref (zT Z) :: rest)) :=
  vb_tq hx hb (hSQ _ _ _ hST).2.2.2.2.1 hH.2.2.1 (iZ_in h0 (by omega) (by omega)) (by rw [iZ_clamp (by omega) h0]) hdg kk
theorem x_cmpat (hx : p.tables.exec = Jvm.exec) (hb : c.code = cc) (hSQ : SQ Z ST) (hST : ST A s s.heap) (hH : Hx E A s.heap σ H locs) (hown : s.vm.findClass own = some m.cls) (hts : ∀ w ∈ Ts, w.before args s = true) {index : Nat} {i : Int} (h0 : 0 ≤ i) (h1 : i < 11) (hl : Cond.fieldLink own index RX2 "pattern" "Ljava/lang/String;" ∈ Ts) (hdg : decode cc pc = .ok (.getfield index, 3)) (kk : W p l e R s m args below meth c H locs cells slots Q (F0 m (pc + 3) ls (.ref (zK Z i) :: rest))) : W p l e R s m args below meth c H locs cells slots Q (F0 m pc ls (.ref (zC Z i) :: rest)) :=
  va_getX (i := i.toNat) hx hb (hSQ _ _ _ hST).2.2.1 (by omega) hH.2.2.1 hown (hts _ hl) (fun _ h => h) hdg kk
theorem x_gsm (hx : p.tables.exec = Jvm.exec) (hb : c.code = cc) (hSQ : SQ Z ST) (hST : ST A s s.heap) (hH : Hx E A s.heap σ H locs) (hown : s.vm.findClass own = some m.cls) (hts : ∀ w ∈ Ts, w.before args s = true) {index : Nat} (hl : Cond.fieldLink own index "BrambleShift$1" "$SwitchMap$BrambleShift$Command" "[I" ∈ Ts) (hdg : decode cc pc = .ok (.getstatic index, 3)) (kk : W p l e R s m args below meth c H locs cells slots Q (F0 m (pc + 3) ls (.ref (zM Z) :: rest))) : W p l e R s m args below meth c H locs cells slots Q (F0 m pc ls rest) :=
  va_gets hx hb (hSQ _ _ _ hST).2.2.2.2.2.1 hH.2.2.1 hown (hts _ hl) (fun _ h => h) hdg kk
theorem x_smald (hx : p.tables.exec = Jvm.exec) (hb : c.code = cc) (hSQ : SQ Z ST) (hST : ST A s s.heap) (hH : Hx E A s.heap σ H locs) {i : Int} (h0 : 0 ≤ i) (h1 : i < 11) (hdg : decode cc pc = .ok (.iaload, 1)) (kk : W p l e R s m args below meth c H locs cells slots Q (F0 m (pc + 1) ls (.int (iZ (smZ i)) :: rest))) : W p l e R s m args below meth c H locs cells slots Q (F0 m pc ls (.int (iZ i) :: .ref (zM Z) :: rest)) :=
  va_ti hx hb (hSQ _ _ _ hST).2.2.2.2.2.2.1 hH.2.2.1 (iZ_in h0 (by omega) (by omega)) (by rw [iZ_clamp (by omega) h0, Int.toNat_of_nonneg h0]) hdg kk
theorem cOrd : ∀ i : Nat, i < 11 → ([0, 1, 2, 3, 4, 5, 6, 7, 8, 9, 10] : List Int32).getD i 0 = iZ (i : Int) := by decide +kernel
theorem x_cmord (hx : p.tables.exec = Jvm.exec) (hb : c.code = cc) (hSQ : SQ Z ST) (hST : ST A s s.heap) (hH : Hx E A s.heap σ H locs) (hown : s.vm.findClass own = some m.cls) (hts : ∀ w ∈ Ts, w.before args s = true) {index : Nat} {i : Int} (h0 : 0 ≤ i) (h1 : i < 11) (hl : Cond.fieldLink own index "java/lang/Enum" "ordinal" "I" ∈ Ts) (hdg : decode cc pc = .ok (.getfield index, 3)) (kk : W p l e R s m args below meth c H locs cells slots Q (F0 m (pc + 3) ls (.int (iZ i) :: rest))) : W p l e R s m args below meth c H locs cells slots Q (F0 m pc ls (.ref (zC Z i) :: rest)) := by
  refine va_getE (i := i.toNat) (q := ("java/lang/Enum", "ordinal", "I", [0, 1, 2, 3, 4, 5, 6, 7, 8, 9, 10])) hx hb (hSQ _ _ _ hST).2.1 (show i.toNat < 11 by omega) hH.2.2.1 hown List.mem_cons_self (hts _ hl) (fun _ h => h) hdg ?_
  rw [cOrd _ (by omega), Int.toNat_of_nonneg h0]
  exact kk
theorem x_recS (hSQ : SQ Z ST) (hST : ST A s s.heap) (hH : Hx E A s.heap σ H locs) {i : Int} (h0 : 0 ≤ i) (h1 : i < 12) : ∃ cell : Cell, H[zK Z i]? = some cell ∧ cell.vm.isStatics = false ∧ s.vm.findClass "java/lang/String" = some cell.cls :=
  vk_recv (hSQ _ _ _ hST).1 (by omega) hH.2.2.1
theorem x_recC (hSQ : SQ Z ST) (hST : ST A s s.heap) (hH : Hx E A s.heap σ H locs) {i : Int} (h0 : 0 ≤ i) (h1 : i < 11) : ∃ cell : Cell, H[zC Z i]? = some cell ∧ cell.vm.isStatics = false ∧ s.vm.findClass RX2 = some cell.cls :=
  va_recvE (hSQ _ _ _ hST).2.1 (show i.toNat < 11 by omega) hH.2.2.1
/-- a text of the pool, by the long load -/
theorem x_ldcwS (hx : p.tables.exec = Jvm.exec) (hb : c.code = cc) (hown : s.vm.findClass own = some m.cls) {tx : String} {index q : Nat} (hZ : vk_R own index tx q s) (hdg : decode cc pc = .ok (.ldc_w index, 3)) (kk : W p l e R s m args below meth c H locs cells slots Q (F0 m (pc + 3) ls (.ref q :: rest))) : W p l e R s m args below meth c H locs cells slots Q (F0 m pc ls rest) := by
  intro T hT X
  obtain ⟨t, a1, b1⟩ := kk T hT X
  refine ⟨t, ?_, b1⟩
  obtain ⟨kc, cf, i, q2, h1, h2, h3, -, h5, h6⟩ := Cond.stringRef_spec hown hZ.1
  have e2 : q = q2 := by
    have h7 := hZ.2.symm.trans h6
    cases h7
    rfl
  subst e2
  obtain ⟨kd, h8, h9⟩ := X.warmed.alike.2.2 _ _ h1
  have h10 : kd.resolved[index]? = some (some (.string q)) := by
    rcases X.warmed.entry h1 h8 index with h | ⟨h, -⟩
    · exact h.trans h5
    · exact absurd (h5.symm.trans h) (by simp)
  jvm_step X.here [hx, hb, hdg, ldc_w.wp_string (e := e) (s := T) (f := F0 m pc ls rest) X.here.top h8 (by rw [h9]; exact h2) h3 h10]
  exact a1
theorem x_ldcNm (hx : p.tables.exec = Jvm.exec) (hb : c.code = cc) (hSQ : SQ Z ST) (hST : ST A s s.heap) (hown : s.vm.findClass RX7 = some m.cls) (hdg : decode cc pc = .ok (.ldc_w 259, 3)) (kk : W p l e R s m args below meth c H locs cells slots Q (F0 m (pc + 3) ls (.ref (zK Z 11) :: rest))) : W p l e R s m args below meth c H locs cells slots Q (F0 m pc ls rest) :=
  x_ldcwS hx hb hown (hSQ _ _ _ hST).2.2.2.2.2.2.2.2.2.1 hdg kk
theorem x_cRID {z0 : Int} (hx : p.tables.exec = Jvm.exec) (hb : c.code = cc) (hml : c.maxLocals = nL) (hts : ∀ w ∈ Ts, w.before args s = true) (hown : s.vm.findClass own = some m.cls) (hK : va_K E.1 vwCl (xT E) s) (hST : ST A s s.heap) (hOK : xOK ST) (hH : Hx E A s.heap σ H locs) {y : MethodName} {bytes : ByteArray} {maxL n index : Nat} {ret : Option FieldType} {ws : List Cond} {rm : Room} {C : String} {As : List Value} {b : Nat} {post : Int → xW → Prop} (hr : ∃ cell : Cell, H[b]? = some cell ∧ cell.vm.isStatics = false ∧ s.vm.findClass C = some cell.cls) (hM : CI l E ST y ws rm (.ref b :: As) σ post) (cw : CallW R s args own C index y bytes maxL ret ws rm rm.cells rm.slots n) (hn : As.length = n) (hls : ls.size = nL) (hst : st0 = As.reverse ++ .ref b :: rest) (hroom : (rest.map fun v => v.category).sum ≤ 8) (hdg : decode cc pc = .ok (.invokevirtual index, 3)) (hf : cells + rm.cells ≤ R.cells ∧ slots + rm.slots ≤ R.slots)
    (hd : ∀ (z : Int) (u : xW), post z u → z = z0 ∧ u = σ) (kk : ∀ (H1 : Heap) (locs1 : List Loc), Hx E A s.heap σ H1 locs1 → W p l e R s m args below meth c H1 locs1 (cells + rm.cells) (slots + rm.slots) Q (F0 m (pc + 3) ls (.int (iZ z0) :: rest))) : W p l e R s m args below meth c H locs cells slots Q (F0 m pc ls st0) :=
  x_aftI (va_runV ⟨hx, hb, hml, hown, hts⟩ (hM H.size) cw ⟨(xPre.blind hOK _ _ _), hr, fun U hU hW => ⟨rfl, xPre.of hOK hK hST hH hU hW⟩⟩ rfl hn hls hst (lv_room hroom) hdg hf) hH (fun z u H1 locs1 hp hH1 => by obtain ⟨h1, h2⟩ := hd z u hp; rw [h2] at hH1; rw [h1]; exact kk H1 locs1 hH1)
theorem x_cUID {z0 : Int} (hx : p.tables.exec = Jvm.exec) (hb : c.code = cc) (hml : c.maxLocals = nL) (hts : ∀ w ∈ Ts, w.before args s = true) (hown : s.vm.findClass own = some m.cls) (hK : va_K E.1 vwCl (xT E) s) (hST : ST A s s.heap) (hOK : xOK ST) (hH : Hx E A s.heap σ H locs) {x y : MethodName} {bytes : ByteArray} {maxL n index : Nat} {ret : Option FieldType} {ws : List Cond} {rm : Room} {C owner : String} {As : List Value} {b : Nat} {post : Int → xW → Prop} (hr : ∃ cell : Cell, H[b]? = some cell ∧ cell.vm.isStatics = false ∧ s.vm.findClass C = some cell.cls) (hM : CI l E ST y ws rm (.ref b :: As) σ post) (cw : va_CU R s args own C owner index x y bytes maxL ret ws rm rm.cells rm.slots n) (hn : As.length = n) (hls : ls.size = nL) (hst : st0 = As.reverse ++ .ref b :: rest) (hroom : (rest.map fun v => v.category).sum ≤ 8) (hdg : decode cc pc = .ok (.invokevirtual index, 3)) (hf : cells + rm.cells ≤ R.cells ∧ slots + rm.slots ≤ R.slots)
    (hd : ∀ (z : Int) (u : xW), post z u → z = z0 ∧ u = σ) (kk : ∀ (H1 : Heap) (locs1 : List Loc), Hx E A s.heap σ H1 locs1 → W p l e R s m args below meth c H1 locs1 (cells + rm.cells) (slots + rm.slots) Q (F0 m (pc + 3) ls (.int (iZ z0) :: rest))) : W p l e R s m args below meth c H locs cells slots Q (F0 m pc ls st0) :=
  x_aftI (va_runU ⟨hx, hb, hml, hown, hts⟩ (hM H.size) cw ⟨(xPre.blind hOK _ _ _), hr, fun U hU hW => ⟨rfl, xPre.of hOK hK hST hH hU hW⟩⟩ rfl hn hls hst (lv_room hroom) hdg hf) hH (fun z u H1 locs1 hp hH1 => by obtain ⟨h1, h2⟩ := hd z u hp; rw [h2] at hH1; rw [h1]; exact kk H1 locs1 hH1)
theorem x_bret (hx : p.tables.exec = Jvm.exec) (hb : c.code = cc) (hr : meth.sig.returnType = (some .byte)) (hlocks : meth.locks = false) (hH : Hx E (xA E s.heap.size) s.heap σ H locs) {mc ms : Nat} (hc : cells ≤ mc) (hs : slots ≤ ms) {post : Int → xW → Prop} {z : Int} (hz : narrow .byte (.int (iZ z)) = .int (iZ z)) (hp : post z σ) (hdg : decode cc pc = .ok (.ireturn, 1)) : W p l e R s m args below meth c H locs cells slots (MQ below (va_Qi (fun (r : Int32) (u : xW) => ∃ z : Int, r = iZ z ∧ post z u) (xB E s.heap.size) (xA E s.heap.size)) args s mc ms (xA E s.heap.size)) (F0 m pc ls [.int (iZ z)]) :=
  W.widen hc hs (W.zret hx hb hr hz (fun t ht hW => ⟨⟨iZ z, σ, rfl, ⟨z, rfl, hp⟩, ht ▸ hH.1, hH.2.1⟩, hH.2.2.1.F ht⟩) hH.2.2.1.2.2 hdg hlocks)
end XRZ
theorem ishr_0 {x : Int} (h0 : 0 ≤ x) (h1 : x ≤ 1000) : ishrZ x 0 = x := by
  have h : ∀ n : Nat, n ≤ 1000 → ishrZ (n : Int) 0 = (n : Int) := by decide +kernel
  have h2 := h x.toNat (by omega)
  rw [Int.toNat_of_nonneg h0] at h2
  exact h2
theorem iand_255 {x : Int} (h0 : 0 ≤ x) (h1 : x ≤ 255) : iandZ x 255 = x := by
  have h : ∀ n : Nat, n ≤ 255 → iandZ (n : Int) 255 = (n : Int) := by decide +kernel
  have h2 := h x.toNat (by omega)
  rw [Int.toNat_of_nonneg h0] at h2
  exact h2
theorem ixor_m1 {x : Int} (h0 : -200 ≤ x) (h1 : x ≤ 200) : ixorZ x (-1) = -1 - x := by
  have h : ∀ n : Nat, n ≤ 400 → ixorZ ((n : Int) - 200) (-1) = -1 - ((n : Int) - 200) := by decide +kernel
  have h2 := h (x + 200).toNat (by omega)
  rw [Int.toNat_of_nonneg (by omega), show x + 200 - 200 = x by omega] at h2
  exact h2
