/-! ===== a command of the model ===== -/
theorem kh_ok {t : Int → Int} {n sp wr z sp1 wr1 : Int} (h : khP t n sp wr z sp1 wr1) (hs : 0 ≤ sp ∧ sp ≤ n) (h1 : wr1 = -1) : (0 ≤ z ∧ z < 11) ∧ pfZ t n sp z = wlZ z ∧ sp1 = sp + wlZ z := by
  rcases h with ⟨a1, a2, a3, a4⟩ | ⟨a1, a2, a3, a4⟩
  · have := fmZ_b (t := t) hs.2 (show (0 : Int) ≤ 11 by decide) (Int.le_refl _)
    omega
  · exact ⟨a1, a2, a4⟩
theorem kh_b {t : Int → Int} {n sp wr z sp1 wr1 : Int} (h : khP t n sp wr z sp1 wr1) (hs : 0 ≤ sp ∧ sp ≤ n) (hw : wr = -1) : (0 ≤ sp1 ∧ sp1 ≤ n) ∧ -1 ≤ wr1 ∧ wr1 ≤ n := by
  rcases h with ⟨a1, a2, a3, a4⟩ | ⟨a1, a2, a3, a4⟩
  · have := fmZ_b (t := t) hs.2 (show (0 : Int) ≤ 11 by decide) (Int.le_refl _)
    omega
  · have h1 := pf_b (t := t) (n := n) (sp := sp) a1.1 a1.2 hs.2
    have h2 := (wl_b a1.1 a1.2).2
    omega
theorem kh_no {t : Int → Int} {n sp wr z sp1 wr1 b : Int} {nu : Int → Int} (h : khP t n sp wr z sp1 wr1) (hs : 0 ≤ sp ∧ sp ≤ n) (hw : wr = -1) (h1 : ¬ wr1 = -1) : rcP t n sp sp1 wr1 nu b := by
  rcases h with ⟨a1, a2, a3, a4⟩ | ⟨a1, a2, a3, a4⟩
  · rw [a3]
    exact rc_none hs a2
  · omega
section SARG
variable {kd : Int}
theorem sArg_45 (h : kd = 4 ∨ kd = 5) : sArg kd = [68, 83, 68] := by
  rcases h with rfl | rfl
  · exact sArg_tab.2.2.2.2.1
  · exact sArg_tab.2.2.2.2.2.1
theorem sArg_6 (h : kd = 6) : sArg kd = [76, 32, 68, 68] := by subst h; exact sArg_tab.2.2.2.2.2.2.1
theorem sArg_10 (h : kd = 10) : sArg kd = [68, 32, 68, 68] := by subst h; exact sArg_tab.2.2.2.2.2.2.2.2.2.2
theorem sArg_2 (h : kd = 2 ∨ kd = 3 ∨ kd = 8 ∨ kd = 9) : sArg kd = [68, 68] := by
  rcases h with rfl | rfl | rfl | rfl
  · exact sArg_tab.2.2.1
  · exact sArg_tab.2.2.2.1
  · exact sArg_tab.2.2.2.2.2.2.2.2.1
  · exact sArg_tab.2.2.2.2.2.2.2.2.2.1
theorem sArg_0 (h : kd = 0) : sArg kd = [68, 68, 32, 78] := by subst h; exact sArg_tab.1
theorem sArg_1 (h : kd = 1) : sArg kd = [68, 68, 32, 68] := by subst h; exact sArg_tab.2.1
theorem sArg_7 (h : kd = 7) : sArg kd = [68, 68, 32, 76] := by subst h; exact sArg_tab.2.2.2.2.2.2.2.1
theorem sArg_dd (h0 : 0 ≤ kd) (h1 : kd < 11) (h4 : ¬ kd = 4) (h5 : ¬ kd = 5) (h6 : ¬ kd = 6) (h10 : ¬ kd = 10) : sArg kd = 68 :: 68 :: (sArg kd).drop 2 := by
  by_cases q : kd = 0
  · rw [sArg_0 q]; rfl
  · by_cases q1 : kd = 1
    · rw [sArg_1 q1]; rfl
    · by_cases q7 : kd = 7
      · rw [sArg_7 q7]; rfl
      · rw [sArg_2 (by omega)]; rfl
theorem sArg_b (h : kd = 0 ∨ kd = 1 ∨ kd = 7) : (sArg kd).drop 2 = 32 :: (sArg kd).drop 3 := by
  rcases h with q | q | q
  · rw [sArg_0 q]; rfl
  · rw [sArg_1 q]; rfl
  · rw [sArg_7 q]; rfl
theorem nm_45 {vs : List Int} {n1 n2 n3 b c : Int} (h : kd = 4 ∨ kd = 5) (e : vs = [n1, b, c]) (e2 : n2 = b * c) : nmP kd vs n1 n2 n3 := ⟨fun q => by omega, fun q => by omega, fun _ => ⟨b, c, e, e2⟩, fun q => by omega⟩
theorem nm_610 {vs : List Int} {n1 n2 n3 : Int} (h : kd = 6 ∨ kd = 10) (e : vs = [n3, n1, n2]) : nmP kd vs n1 n2 n3 := ⟨fun q => by omega, fun q => by omega, fun q => by omega, fun _ => e⟩
theorem nm_2 {vs : List Int} {n1 n2 n3 : Int} (h : kd = 2 ∨ kd = 3 ∨ kd = 8 ∨ kd = 9) (e : vs = [n1, n2]) : nmP kd vs n1 n2 n3 := ⟨fun q => by omega, fun _ => e, fun q => by omega, fun q => by omega⟩
theorem nm_0 {vs : List Int} {n1 n2 n3 : Int} (h : kd = 0 ∨ kd = 1 ∨ kd = 7) (e : vs = [n1, n2, n3]) : nmP kd vs n1 n2 n3 := ⟨fun _ => e, fun q => by omega, fun q => by omega, fun q => by omega⟩
end SARG
abbrev nuR (nu : Int → Int) : Prop := ∀ j : Int, -200 ≤ nu j ∧ nu j ≤ 200
theorem nu_r {nu : Int → Int} {k x : Int} (h : nuR nu) (hx : -200 ≤ x ∧ x ≤ 200) : nuR (ui nu k x) := fun j => by
  unfold ui
  split
  · exact hx
  · exact h j
theorem mul_pm {q d : Int} (hd : 0 ≤ d ∧ d ≤ 9) (hq : q = 1 ∨ q = -1) : -200 ≤ q * d ∧ q * d ≤ 200 := by
  rcases hq with rfl | rfl
  · rw [Int.one_mul]
    omega
  · rw [show (-1 : Int) * d = -d by omega]
    omega
