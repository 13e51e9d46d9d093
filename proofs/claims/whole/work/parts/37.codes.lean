/-! ===== what a call of the law answers: the number of its exception ===== -/
noncomputable def k1 (P : Prop) : Int := if dB P = true then 0 else 1
noncomputable def k2 (P Q : Prop) : Int := if dB P = true then (if dB Q = true then 0 else 2) else 1
theorem k1_0 {P : Prop} (h : P) : k1 P = 0 := by
  unfold k1
  rw [dB_t h]
  rfl
theorem k1_1 {P : Prop} (h : ¬ P) : k1 P = 1 := by
  unfold k1
  rw [dB_f h]
  rfl
theorem k2_0 {P Q : Prop} (h : P) (h2 : Q) : k2 P Q = 0 := by
  unfold k2
  rw [dB_t h, dB_t h2]
  rfl
theorem k2_1 {P Q : Prop} (h : ¬ P) : k2 P Q = 1 := by
  unfold k2
  rw [dB_f h]
  rfl
theorem k2_2 {P Q : Prop} (h : P) (h2 : ¬ Q) : k2 P Q = 2 := by
  unfold k2
  rw [dB_t h, dB_f h2]
  rfl
theorem k1_is {P : Prop} : k1 P = 0 ↔ P := by
  by_cases h : P
  · exact ⟨fun _ => h, fun _ => k1_0 h⟩
  · exact ⟨fun q => by rw [k1_1 h] at q; exact absurd q (by decide), fun q => absurd q h⟩
theorem k2_is {P Q : Prop} : k2 P Q = 0 ↔ P ∧ Q := by
  by_cases h : P
  · by_cases h2 : Q
    · exact ⟨fun _ => ⟨h, h2⟩, fun _ => k2_0 h h2⟩
    · exact ⟨fun q => by rw [k2_2 h h2] at q; exact absurd q (by decide), fun q => absurd q.2 h2⟩
  · exact ⟨fun q => by rw [k2_1 h] at q; exact absurd q (by decide), fun q => absurd q.1 h⟩
theorem k1_b (P : Prop) : 0 ≤ k1 P ∧ k1 P ≤ 1 := by
  unfold k1
  split <;> omega
theorem k2_b (P Q : Prop) : 0 ≤ k2 P Q ∧ k2 P Q ≤ 2 := by
  unfold k2
  (repeat' split) <;> omega
theorem g1_of {P Q : Prop} {i : Decidable Q} (h : Q ↔ P) : (if decide Q = true then (0 : Int) else 1) = k1 P := by
  by_cases q : Q
  · rw [k1_0 (h.mp q), if_pos (decide_eq_true q)]
  · rw [k1_1 (fun z => q (h.mpr z)), if_neg (fun z => q (of_decide_eq_true z))]
theorem g1_c {r c : Int} : (if decide ((0 ≤ r ∧ r ≤ 4) ∧ (0 ≤ c ∧ c ≤ 4)) = true then (0 : Int) else 1) = k1 (okC r c) := g1_of (by omega)
theorem g1_l {r : Int} : (if decide (0 ≤ r ∧ r ≤ 4) = true then (0 : Int) else 1) = k1 (0 ≤ r ∧ r < 5) := g1_of (by omega)
theorem g1_w {w n : Int} : (if decide (0 ≤ w ∧ w < n) = true then (0 : Int) else 1) = k1 (0 ≤ w ∧ w < n) := g1_of Iff.rfl
theorem g2_of {P Q R : Prop} {i : Decidable R} {b : Bool} (h : R ↔ P) (h2 : P → (b = true ↔ Q)) : thZ (decide R) b true = k2 P Q := by
  by_cases q : R
  · rw [decide_eq_true q]
    by_cases z : Q
    · rw [k2_0 (h.mp q) z, (h2 (h.mp q)).mpr z]
      rfl
    · rw [k2_2 (h.mp q) z]
      cases b
      · rfl
      · exact absurd ((h2 (h.mp q)).mp rfl) z
  · rw [decide_eq_false q, k2_1 (fun z => q (h.mpr z))]
    rfl
theorem fx1 {pn c : Int} : fxZ pn c = 1 ↔ fixP pn c := by
  unfold fxZ
  split
  · rename_i h
    exact ⟨fun _ => h, fun _ => rfl⟩
  · rename_i h
    exact ⟨fun q => absurd q (by decide), fun q => absurd q h⟩
theorem dec_iff {P : Prop} {i : Decidable P} {z a : Int} (h : z = a ↔ P) : z = a → true = decide P := fun q => (decide_eq_true (h.mp q)).symm
theorem dec_if2 {P : Prop} {i : Decidable P} {z a : Int} (h : z = a ↔ P) : ¬ z = a → false = decide P := fun q => (decide_eq_false (fun z => q (h.mpr z))).symm
theorem mD_m1 {x : Int} (h : 0 ≤ x ∧ x ≤ 25) : mD x = -1 ↔ ¬ x < 25 := by
  unfold mD
  split <;> omega
theorem mD_lt {x : Int} (h : x < 25) : mD x = x := by
  unfold mD
  rw [if_neg (by omega)]
/-! lines, by a flag and a number -/
def fsZ (b : Bool) (ln : Int) : Int := if b = true then ln * 5 else ln
def sdZ (b : Bool) : Int := if b = true then 1 else 5
theorem fs_lin {b : Bool} {ln : Int} (h0 : 0 ≤ ln) (h1 : ln ≤ 4) : linP (fsZ b ln) (sdZ b) := by
  cases b
  · exact Or.inr ⟨rfl, h0, h1⟩
  · exact Or.inl ⟨rfl, by unfold fsZ; rw [if_pos rfl]; omega, by unfold fsZ; rw [if_pos rfl]; omega⟩
theorem cellOf_eq {b : Bool} {ln i : Int} : (if b = true then 5 * ln + i else 5 * i + ln) = fsZ b ln + i * sdZ b := by
  cases b
  · show 5 * i + ln = ln + i * 5
    omega
  · show 5 * ln + i = ln * 5 + i * 1
    omega
noncomputable def frK (pn : Int) (b : Bool) (ln i : Int) : Bool := dB (0 ≤ ln → ln ≤ 4 → ∀ j : Int, 0 ≤ j → j < i → ¬ fixP pn (fsZ b ln + j * sdZ b))
theorem frK_0 {pn : Int} {b : Bool} {ln : Int} : true = frK pn b ln 0 := (dB_t (fun _ _ j h0 h1 => by omega)).symm
theorem frK_n {pn : Int} {b : Bool} {ln i : Int} (h : ¬ (0 ≤ ln ∧ ln ≤ 4)) : frK pn b ln i = true := dB_t (fun h0 h1 => absurd ⟨h0, h1⟩ h)
theorem frK_t {pn : Int} {b : Bool} {ln i : Int} (h : frK pn b ln i = true) (hz : fxZ pn (fsZ b ln + i * sdZ b) = 0) : frK pn b ln (i + 1) = true := dB_t (fun h0 h1 j j0 j1 => by
  by_cases e : j = i
  · rw [e]
    exact fxZ_0.mp hz
  · exact of_dB_t h h0 h1 j j0 (by omega))
theorem frK_f1 {pn : Int} {b : Bool} {ln i : Int} (h : frK pn b ln i = false) : frK pn b ln (i + 1) = false := dB_f (fun q => of_dB_f h (fun h0 h1 j j0 j1 => q h0 h1 j j0 (by omega)))
theorem frK_f2 {pn : Int} {b : Bool} {ln i : Int} (h0 : 0 ≤ ln) (h1 : ln ≤ 4) (hi : 0 ≤ i) (hz : ¬ fxZ pn (fsZ b ln + i * sdZ b) = 0) : frK pn b ln (i + 1) = false := dB_f (fun q => hz (fxZ_0.mpr (q h0 h1 i hi (by omega))))
noncomputable def frB (pn : Int) (b : Bool) (ln : Int) : Bool := frK pn b ln 5
theorem frB_lf {pn : Int} {b : Bool} {ln : Int} (h0 : 0 ≤ ln) (h1 : ln ≤ 4) : frB pn b ln = lfB pn (fsZ b ln) (sdZ b) := dB_iff ⟨fun h => h h0 h1, fun h _ _ => h⟩
theorem frB_row {pn ln : Int} (h0 : 0 ≤ ln) (h1 : ln ≤ 4) : frB pn true ln = lfB pn (ln * 5) 1 := frB_lf h0 h1
theorem frB_col {pn ln : Int} (h0 : 0 ≤ ln) (h1 : ln ≤ 4) : frB pn false ln = lfB pn ln 5 := frB_lf h0 h1
theorem cnbK_c {P Q : Int → Bool} {n : Int} (h : ∀ j : Int, 0 ≤ j → j < n → P j = Q j) : cnbK P n = cnbK Q n := by
  unfold cnbK
  exact cnbN_congr _ (fun j h0 h1 => h j h0 (by omega))
theorem plZ_is {kp : Int → Int} {k : Int} (h : 97 ≤ k ∧ k < 103) : plZ kp k = kM (kp (k - 97)) := by
  unfold plZ
  rw [if_pos (by omega)]
theorem kM_c {x : Int} (h : x ≤ 27) : (0 ≤ kM x ∧ kM x ≤ 24) ↔ (0 ≤ x ∧ x < 25) := by
  unfold kM
  split <;> omega
theorem kM_lt {x : Int} (h : x < 25) : kM x = x := by
  unfold kM
  rw [if_neg (by omega)]
theorem kM_ge {x : Int} (h : 25 ≤ x) : kM x = x + 75 := by
  unfold kM
  rw [if_pos h]
theorem kM_100 {x : Int} : 100 ≤ kM x ↔ ¬ x < 25 := by
  unfold kM
  split <;> omega
