/-! ===== the statics at the start ===== -/
abbrev zF : List Cond := flatC (Jvm.Cond.and given_1 narrow_1)
def zTm : List Term := [.string "BrambleShiftLaw" 209, .string "BrambleShiftLaw" 218, .string "BrambleShiftLaw" 220, .string "BrambleShiftLaw" 230, .string "BrambleShiftLaw" 232, .string "BrambleShiftLaw" 251]
def zBs : List Nat := [916, 920, 925, 945, 950, 962]
def zTi (i : Nat) : Term := zTm.getD i (.arg 0)
abbrev zVl (i : Nat) : Term := .field (zTi i) "java/lang/String" "value" "[B"
set_option maxRecDepth 100000 in
theorem zS_ex : ∀ i : Nat, i < 6 → zF[zBs.getD i 0]? = some (Cond.exactly (zTi i) "java/lang/String") := by decide +kernel
set_option maxRecDepth 100000 in
theorem zS_co : ∀ i : Nat, i < 6 → zF[zBs.getD i 0 + 1]? = some (Cond.eq (.field (zTi i) "java/lang/String" "coder" "B") (.int 0)) := by decide +kernel
set_option maxRecDepth 100000 in
theorem zS_ar : ∀ i : Nat, i < 6 → zF[zBs.getD i 0 + 2]? = some (Cond.arrayOf (zVl i) .byte) := by decide +kernel
set_option maxRecDepth 100000 in
theorem zS_le : ∀ i : Nat, i < 6 → zF[zBs.getD i 0 + 3]? = some (Cond.eq (.length (zVl i)) (.int (Int32.ofNat (sLen.getD i 0)))) := by decide +kernel
set_option maxRecDepth 100000 in
theorem zS_el : ∀ i : Nat, i < 6 → ∀ j : Nat, j < sLen.getD i 0 → zF[zBs.getD i 0 + 4 + j]? = some (Cond.eq (.elem (zVl i) (.int (Int32.ofNat j))) (.int ((sByt.getD i []).getD j 0))) := by decide +kernel
theorem zS_bl : ∀ i : Nat, i < 6 → (sByt.getD i []).length = sLen.getD i 0 := by decide +kernel
theorem zS_bi : ∀ i : Nat, i < 6 → ∀ j : Nat, j < 6 → sByt.getD i [] = sByt.getD j [] → i = j := by decide +kernel
section ZST
variable {s : State} {args : Array Value} {A : Nat → Prop}
def zS1 (i : Nat) (s : State) (A : Nat → Prop) (q : Nat × Nat) : Prop := va_O "java/lang/String" q.1 A s s.heap ∧ va_OF "java/lang/String" "coder" "B" (.int 0) q.1 A s s.heap ∧ va_OF "java/lang/String" "value" "[B" (.ref q.2) q.1 A s s.heap ∧ va_T .byte q.2 (sLen.getD i 0) (fun j => .int ((sByt.getD i []).getD j 0)) A s s.heap
theorem zS_one (hs : ∀ c ∈ zF, c.before args s = true) (hA : ∀ a : Nat, a < s.heap.size → ¬ A a) (i : Nat) (hi : i < 6) : ∃ q : Nat × Nat, (zTi i).eval args s none [] s = some (.ref q.1) ∧ zS1 i s A q := by
  obtain ⟨adK, adV, hS, hev⟩ := vk_Sof (args := args) (s := s) (N := 1) (tm := fun _ => zTi i) (len := [sLen.getD i 0]) (byt := [sByt.getD i []]) (A := A)
    (fun k hk => by have e : k = 0 := by omega
                    subst e
                    have := (slZ_tab i hi).1
                    show sLen.getD i 0 < 2 ^ 31
                    omega)
    (fun k hk => hs _ (List.mem_of_getElem? (zS_ex i hi))) (fun k hk => hs _ (List.mem_of_getElem? (zS_co i hi))) (fun k hk => hs _ (List.mem_of_getElem? (zS_ar i hi)))
    (fun k hk => by have e : k = 0 := by omega
                    subst e
                    exact hs _ (List.mem_of_getElem? (zS_le i hi)))
    (fun k hk j hj => by have e : k = 0 := by omega
                         subst e
                         exact hs _ (List.mem_of_getElem? (zS_el i hi j hj)))
    (fun a b ha hb hab => absurd (show a = b by omega) hab) hA
  exact ⟨(adK 0, adV 0), hev 0 (by decide), hS.1 0 (by decide)⟩
theorem va_OF.one {o n d : String} {a : Nat} {v w : Value} {U : State} {H : Heap} (h : va_OF o n d v a A U H) (g : va_OF o n d w a A U H) : v = w := by
  obtain ⟨cf, k, i, f, cell, h1, h2, h3, h4, h5, h6⟩ := h
  obtain ⟨cf', k', i', f', cell', g1, g2, g3, g4, g5, g6⟩ := g
  have e := h1.symm.trans g1
  cases e
  cases h3.symm.trans g3
  exact Option.some.inj (h5.symm.trans g5)
theorem va_T.one {ty : FieldType} {t N M : Nat} {f g : Nat → Value} {U : State} {H : Heap} (h : va_T ty t N f A U H) (h2 : va_T ty t M g A U H) (hN : N < 2 ^ 31) (hM : M < 2 ^ 31) : N = M ∧ ∀ j : Nat, j < N → f j = g j := by
  obtain ⟨cell, p1, p2, p3, p4, p5, p6, p7⟩ := h
  obtain ⟨cell', q1, q2, q3, q4, q5, q6, q7⟩ := h2
  cases p1.symm.trans q1
  have e := p5.symm.trans q5
  have e2 : N = M := by
    have h9 := congrArg Int32.toInt e
    have a1 : (Int32.ofNat N).toInt = N := Int32.toInt_ofNat_of_lt (by omega)
    have a2 : (Int32.ofNat M).toInt = M := Int32.toInt_ofNat_of_lt (by omega)
    rw [a1, a2] at h9
    omega
  subst e2
  exact ⟨rfl, fun j hj => Option.some.inj ((p6 j hj).symm.trans (q6 j hj))⟩
theorem zgd {l : List Int32} {k : Nat} (h : k < l.length) : l.getD k 0 = l[k] := by
  rw [List.getD_eq_getElem?_getD, List.getElem?_eq_getElem h]
  rfl
theorem zS_of (hs : ∀ c ∈ zF, c.before args s = true) (hA : ∀ a : Nat, a < s.heap.size → ¬ A a) : ∃ adK adV : Nat → Nat, vk_S 6 sLen sByt adK adV A s s.heap ∧ ∀ i : Nat, i < 6 → (zTi i).eval args s none [] s = some (.ref (adK i)) := by
  have h0 : ∀ i : Nat, ∃ q : Nat × Nat, i < 6 → (zTi i).eval args s none [] s = some (.ref q.1) ∧ zS1 i s A q := by
    intro i
    by_cases hi : i < 6
    · obtain ⟨q, h1, h2⟩ := zS_one (args := args) hs hA i hi
      exact ⟨q, fun _ => ⟨h1, h2⟩⟩
    · exact ⟨(0, 0), fun h => absurd h hi⟩
  obtain ⟨ad, had⟩ := Classical.axiomOfChoice h0
  refine ⟨fun i => (ad i).1, fun i => (ad i).2, ⟨fun i hi => (had i hi).2, fun i j hi hj e => ?_⟩, fun i hi => (had i hi).1⟩
  have hI := (had i hi).2
  have hJ := (had j hj).2
  have e : (ad i).1 = (ad j).1 := e
  unfold zS1 at hI hJ
  rw [e] at hI
  have e2 : (ad i).2 = (ad j).2 := by
    exact Value.ref.inj (va_OF.one hI.2.2.1 hJ.2.2.1)
  rw [e2] at hI
  have h9 := va_T.one hI.2.2.2 hJ.2.2.2 (by have := (slZ_tab i hi).1; omega) (by have := (slZ_tab j hj).1; omega)
  refine zS_bi i hi j hj (List.ext_getElem (by rw [zS_bl i hi, zS_bl j hj]; exact h9.1) (fun k k1 k2 => ?_))
  have h8 := h9.2 k (by rw [← zS_bl i hi]; exact k1)
  have h7 : (sByt.getD i []).getD k 0 = (sByt.getD j []).getD k 0 := Value.int.inj h8
  exact ((zgd k1).symm.trans h7).trans (zgd k2)
end ZST
