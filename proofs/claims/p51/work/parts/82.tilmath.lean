/-! ===== the law's tiles: groups by the lowest number, counts ===== -/
theorem ui_same {f : Int → Int} {k : Int} : ui f k (f k) = f := by
  funext j
  unfold ui
  split
  · rename_i h
    rw [h]
  · rfl
def tgS (op g : Int → Int) : Prop := ∀ c, 0 ≤ c → c ≤ 24 → (0 ≤ g c ∧ g c ≤ c) ∧ cnP op (g c) c
def tgI (op : Int → Int) (r : Int) (g : Int → Int) : Prop := tgS op g ∧ ∀ (n : Nat) (b c : Int), 0 ≤ b → b ≤ 24 → (n : Int) ≤ r → wk (cnZ op) n b c → g c ≤ b
def tsI (op : Int → Int) (k : Int) (g0 g : Int → Int) : Prop := tgS op g ∧ (∀ c, 0 ≤ c → c ≤ 24 → g c ≤ g0 c) ∧ ∀ b d, 0 ≤ b → b ≤ 24 → 0 ≤ d → d ≤ 3 → 4 * b + d < k → ¬ cnZ op b d = -1 → g b ≤ g0 (cnZ op b d)
section TIL
variable {op g g0 : Int → Int} {r k : Int}
theorem tgI_0 (h : ∀ j, 0 ≤ j → j < 25 → g j = j) : tgI op 0 g := by
  refine ⟨fun c h0 h1 => ?_, fun n b c h0 h1 hn hw => ?_⟩
  · rw [h c h0 (by omega)]
    exact ⟨⟨h0, Int.le_refl _⟩, cnP_rf c⟩
  · have e : n = 0 := by omega
    subst e
    have e2 : c = b := hw
    rw [e2, h b h0 (by omega)]
    exact Int.le_refl _
theorem tsI_0 (h : tgI op r g) : tsI op 0 g g := ⟨h.1, fun _ _ _ => Int.le_refl _, fun b d h0 _ h2 _ h4 => by omega⟩
theorem tsI_no (h : tsI op k g0 g) (hk : 0 ≤ k ∧ k < 100) (hn : cnZ op (k / 4) (k % 4) < 0) : tsI op (k + 1) g0 (ui g (k / 4) (g (k / 4))) := by
  rw [ui_same]
  obtain ⟨a, b, c⟩ := h
  refine ⟨a, b, fun b9 d9 h0 h1 h2 h3 h4 h5 => ?_⟩
  by_cases e : 4 * b9 + d9 < k
  · exact c b9 d9 h0 h1 h2 h3 e h5
  · have e1 : k / 4 = b9 := by omega
    have e2 : k % 4 = d9 := by omega
    rw [e1, e2] at hn
    have := cnZ_rg (op := op) (d := d9) h0 h1
    omega
theorem tsI_min (h : tsI op k g0 g) (hk : 0 ≤ k ∧ k < 100) (hn : ¬ cnZ op (k / 4) (k % 4) < 0) : tsI op (k + 1) g0 (ui g (k / 4) (if g (cnZ op (k / 4) (k % 4)) < g (k / 4) then g (cnZ op (k / 4) (k % 4)) else g (k / 4))) := by
  obtain ⟨a, b, c⟩ := h
  have hb : 0 ≤ k / 4 ∧ k / 4 ≤ 24 := by omega
  have hx := cnZ_rg (op := op) (d := k % 4) hb.1 hb.2
  have hne : ¬ cnZ op (k / 4) (k % 4) = -1 := by omega
  have e9 : cnP op (k / 4) (cnZ op (k / 4) (k % 4)) := cnP_e (by omega) hne
  generalize hX : cnZ op (k / 4) (k % 4) = x at hx hne e9 hn
  have ax := a x (by omega) hx.2
  have ab := a (k / 4) hb.1 hb.2
  have hle : (if g x < g (k / 4) then g x else g (k / 4)) ≤ g (k / 4) ∧ (if g x < g (k / 4) then g x else g (k / 4)) ≤ g x := by
    split <;> omega
  refine ⟨fun c9 h0 h1 => ?_, fun c9 h0 h1 => ?_, fun b9 d9 h0 h1 h2 h3 h4 h5 => ?_⟩
  · by_cases e : c9 = k / 4
    · rw [e, ui_s]
      by_cases q : g x < g (k / 4)
      · rw [if_pos q]
        exact ⟨by omega, cnP_tr ax.2 (cnP_sy hb e9)⟩
      · rw [if_neg q]
        exact ab
    · rw [ui_n e]
      exact a c9 h0 h1
  · by_cases e : c9 = k / 4
    · rw [e, ui_s]
      have := b (k / 4) hb.1 hb.2
      omega
    · rw [ui_n e]
      exact b c9 h0 h1
  · by_cases e : b9 = k / 4
    · rw [e, ui_s]
      by_cases e4 : 4 * b9 + d9 < k
      · have h7 := c b9 d9 h0 h1 h2 h3 e4 h5
        rw [e] at h7
        omega
      · have e2 : d9 = k % 4 := by omega
        rw [e2, hX]
        have := b x (by omega) hx.2
        omega
    · rw [ui_n e]
      exact c b9 d9 h0 h1 h2 h3 (by omega) h5
theorem tsI_end (h0 : tgI op r g0) (h : tsI op 100 g0 g) : tgI op (r + 1) g := by
  obtain ⟨a, b, c⟩ := h
  refine ⟨a, fun n b9 c9 g0' g1 hn hw => ?_⟩
  cases n with
  | zero =>
    have e : c9 = b9 := hw
    have h2 := (a c9 (by omega) (by omega)).1
    omega
  | succ n =>
    have hw2 := hw
    obtain ⟨y, d, h1, h2, h3, h4⟩ := hw
    have hy := wk_in (cnZ_ok (op := op)) ⟨g0', g1⟩ h1
    have hc := wk_in (cnZ_ok (op := op)) ⟨g0', g1⟩ hw2
    have hs := cnZ_sym hy h2 h3 h4
    have h5 := h0.2 n b9 y g0' g1 (by omega) h1
    have h6 := c c9 ((d + 2) % 4) hc.1 hc.2 (by omega) (by omega) (by omega) (by rw [hs]; omega)
    rw [hs] at h6
    omega
theorem tgI_end (hr : 24 ≤ r) (h : tgI op r g) {c : Int} (h0 : 0 ≤ c) (h1 : c ≤ 24) : g c = mz op c := by
  obtain ⟨m1, m2, m3⟩ := mz_spec (op := op) ⟨h0, h1⟩
  obtain ⟨a1, a2⟩ := h.1 c h0 h1
  have h2 := m3 (g c) a1.1 a2
  obtain ⟨n, hn⟩ := m2
  obtain ⟨k0, hk0, hs⟩ := wk_24 (cnZ_ok (op := op)) (st := mz op c) (by omega)
  obtain ⟨m, hm, hw⟩ := hs n c hn
  have h3 := h.2 m (mz op c) c m1.1 (by omega) (by omega) hw
  omega
theorem tg_cnt (hr : 24 ≤ r) (h : tgI op r g) : cnbK (fun c => decide (g c = c)) 25 = ngZ op := by
  unfold ngZ
  exact cnbN_congr 25 (fun j h0 h1 => by rw [tgI_end hr h h0 (by omega)])
end TIL
theorem aKp_eq {kp : Int → Int} {i k : Int} (h : 0 ≤ k ∧ k ≤ 24) : aKp kp i = k ↔ kp i = k := by
  unfold aKp
  split <;> omega
theorem aDz_rg {d : Int} (h : 0 ≤ d ∧ d ≤ 25) : -2004 ≤ aDz d ∧ aDz d ≤ 24 := by
  unfold aDz
  split <;> omega
theorem aKp_rg {kp : Int → Int} {i : Int} : -2004 ≤ aKp kp i ∧ aKp kp i ≤ 24 := by
  unfold aKp
  split <;> omega
theorem aLk_rg {lk : Int → Int} {c : Int} (h : -1 ≤ lk c ∧ lk c ≤ 5) : -2004 ≤ aLk lk c ∧ aLk lk c ≤ 102 := by
  unfold aLk
  split <;> omega
theorem lkq1 {lk : Int → Int} {c : Int} (h : ¬ aLk lk c < 0) : b2 (decide (¬ lk c = -1)) = 1 := by
  unfold aLk at h
  split at h
  · omega
  · rename_i e
    rw [decide_eq_true e]
    rfl
theorem lkq0 {lk : Int → Int} {c : Int} (hr : -1 ≤ lk c ∧ lk c ≤ 5) (h : aLk lk c < 0) : b2 (decide (¬ lk c = -1)) = 0 := by
  unfold aLk at h
  split at h
  · rename_i e
    rw [decide_eq_false (fun q => q e)]
    rfl
  · omega
theorem cnq1 {x : Int} (h : ¬ x < 0) : b2 (decide (¬ x = -1)) = 1 := by
  rw [decide_eq_true (show ¬ x = -1 by omega)]
  rfl
theorem cnq0 {x : Int} (hr : -1 ≤ x) (h : x < 0) : b2 (decide (¬ x = -1)) = 0 := by
  rw [decide_eq_false (fun q => q (by omega))]
  rfl
theorem meD_cmp_tab : ∀ n : Nat, n < 101 → FP.dcmp (meD (n : Int)) (meD (n : Int)) = some .eq := by decide +kernel
theorem meD_cmp {n : Int} (h0 : 0 ≤ n) (h1 : n ≤ 100) : FP.dcmp (meD n) (meD n) = some .eq := by
  have h := meD_cmp_tab n.toNat (by omega)
  rw [Int.toNat_of_nonneg h0] at h
  exact h
theorem shF_cmp_tab : ∀ n : Nat, n < 26 → FP.fcmp (shF (n : Int)) (shF (n : Int)) = some .eq := by decide +kernel
theorem shF_cmp {n : Int} (h0 : 0 ≤ n) (h1 : n ≤ 25) : FP.fcmp (shF n) (shF n) = some .eq := by
  have h := shF_cmp_tab n.toNat (by omega)
  rw [Int.toNat_of_nonneg h0] at h
  exact h
section CMPS
variable {p : Program} {l : Launch} {e : Env} {R : Room} {s : State} {m : MethodId} {args : Array Value} {below : List Frame} {meth : Method} {c : Code} {H : Heap} {locs : List Loc} {cells slots : Nat} {Q : State → Prop}
variable {cc : ByteArray} {pc : Nat} {ls : Array Slot} {rest : List Value}
theorem x_dcmp0 (hx : p.tables.exec = Jvm.exec) (hb : c.code = cc) {x : UInt64} (h : FP.dcmp x x = some .eq) (hdg : decode cc pc = .ok (.dcmp .l, 1)) (k : W p l e R s m args below meth c H locs cells slots Q (F0 m (pc + 1) ls (.int (iZ 0) :: rest))) : W p l e R s m args below meth c H locs cells slots Q (F0 m pc ls (.double x :: .double x :: rest)) := lv_dcmp hx hb hdg (by rw [h]; exact k)
theorem x_fcmp0 (hx : p.tables.exec = Jvm.exec) (hb : c.code = cc) {x : UInt32} (h : FP.fcmp x x = some .eq) (hdg : decode cc pc = .ok (.fcmp .l, 1)) (k : W p l e R s m args below meth c H locs cells slots Q (F0 m (pc + 1) ls (.int (iZ 0) :: rest))) : W p l e R s m args below meth c H locs cells slots Q (F0 m pc ls (.float x :: .float x :: rest)) := lv_fcmp hx hb hdg (by rw [h]; exact k)
end CMPS
section LDWF
variable {p : Program} {l : Launch} {e : Env} {R : Room} {s : State} {m : MethodId} {args : Array Value} {below : List Frame} {meth : Method} {c : Code} {H : Heap} {locs : List Loc} {cells slots : Nat} {Q : State → Prop}
variable {cc : ByteArray} {pc : Nat} {ls : Array Slot} {rest : List Value} {own : String}
theorem x_ldcwF (hx : p.tables.exec = Jvm.exec) (hb : c.code = cc) (hown : s.vm.findClass own = some m.cls) {index : Nat} {v : UInt32} (hconst : (Jvm.Cond.constantFloat own index v).before args s = true) (hdg : decode cc pc = .ok (.ldc_w index, 3)) (k : W p l e R s m args below meth c H locs cells slots Q (F0 m (pc + 3) ls (.float v :: rest))) : W p l e R s m args below meth c H locs cells slots Q (F0 m pc ls rest) := by
  intro T hT X
  obtain ⟨t, a1, b1⟩ := k T hT X
  refine ⟨t, ?_, b1⟩
  obtain ⟨k9, cf, hk, hcf, hcp⟩ := Cond.constantFloat_spec hown hconst
  obtain ⟨k', hk', he⟩ := X.warmed.alike.2.2 _ _ hk
  jvm_step X.here [hx, hb, hdg, ldc_w.wp_float (s := T) (f := F0 m pc ls rest) X.here.top hk' (by rw [he]; exact hcf) hcp]
  exact a1
end LDWF
