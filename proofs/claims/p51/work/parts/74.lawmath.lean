/-! ===== the law's own numbers ===== -/
theorem ishr_tab : ∀ x : Nat, x < 16 → ∀ d : Nat, d < 4 → (0 ≤ ishrZ (x : Int) (d : Int) ∧ ishrZ (x : Int) (d : Int) ≤ 15) ∧ (ishrZ (x : Int) (d : Int) % 2 = 1 ↔ opnP (x : Int) (d : Int)) := by decide +kernel
theorem ishr_b {x d : Int} (hx : 0 ≤ x ∧ x ≤ 15) (hd : 0 ≤ d ∧ d ≤ 3) : 0 ≤ ishrZ x d ∧ ishrZ x d ≤ 15 := by
  have h := (ishr_tab x.toNat (by omega) d.toNat (by omega)).1
  rw [Int.toNat_of_nonneg hx.1, Int.toNat_of_nonneg hd.1] at h
  exact h
theorem ishr_o {x d : Int} (hx : 0 ≤ x ∧ x ≤ 15) (hd : 0 ≤ d ∧ d ≤ 3) : ishrZ x d % 2 = 1 ↔ opnP x d := by
  have h := (ishr_tab x.toNat (by omega) d.toNat (by omega)).2
  rw [Int.toNat_of_nonneg hx.1, Int.toNat_of_nonneg hd.1] at h
  exact h
theorem jn_no0 {op : Int → Int} {c d : Int} (h : nbZ c d = -1) : -1 = cnZ op c d := by
  unfold cnZ
  rw [if_pos h]
theorem jn_no1 {op : Int → Int} {c d : Int} (hx : 0 ≤ op c ∧ op c ≤ 15) (hd : 0 ≤ d ∧ d ≤ 3) (h : ¬ ishrZ (op c) d % 2 = 1) : -1 = cnZ op c d := by
  rw [ishr_o hx hd] at h
  unfold cnZ
  split
  · rfl
  · rw [if_neg (fun q => h q.1)]
theorem jn_no2 {op : Int → Int} {c d x : Int} (hn : nbZ c d = x) (hx : 0 ≤ op x ∧ op x ≤ 15) (hd : 0 ≤ d ∧ d ≤ 3) (h : ¬ ishrZ (op x) ((d + 2) % 4) % 2 = 1) : -1 = cnZ op c d := by
  subst hn
  rw [ishr_o hx (by omega)] at h
  unfold cnZ
  split
  · rfl
  · rw [if_neg (fun q => h q.2)]
theorem jn_yes {op : Int → Int} {c d x y : Int} (hn : nbZ c d = x) (hc : 0 ≤ op c ∧ op c ≤ 15) (hx : 0 ≤ op x ∧ op x ≤ 15) (hd : 0 ≤ d ∧ d ≤ 3) (h1 : ishrZ (op c) d % 2 = 1) (h2 : ishrZ (op x) ((d + 2) % 4) % 2 = 1) (hne : ¬ x = -1) (hy : y = x) : y = cnZ op c d := by
  subst hn
  rw [ishr_o hc hd] at h1
  rw [ishr_o hx (by omega)] at h2
  unfold cnZ
  rw [if_neg hne, if_pos ⟨h1, h2⟩]
  exact hy
theorem aCa_rg {kp : Int → Int} {k nw : Int} (h : -1 ≤ kp k ∧ kp k < 25 + nw) (hn : nw ≤ 3) : -2004 ≤ aCa kp k ∧ aCa kp k ≤ 3 := by
  unfold aCa
  split <;> omega
theorem me_t {kp : Int → Int} {k w : Int} (hw : 0 ≤ w) (h : aCa kp (97 + k - 97) = w) : kp k = 25 + w := by
  rw [show 97 + k - 97 = k by omega] at h
  unfold aCa at h
  split at h <;> omega
theorem me_f {kp : Int → Int} {k w : Int} (hw : 0 ≤ w) (h : ¬ aCa kp (97 + k - 97) = w) : ¬ kp k = 25 + w := by
  rw [show 97 + k - 97 = k by omega] at h
  unfold aCa at h
  split at h <;> omega
/-! all that changes can change, in one number -/
def loA (B : BT) : Nat → Int
  | 0 => 31 * (31 * nwT B + shB B) + l2Z (lZ (wkB B))
  | n + 1 => 31 * (31 * (31 * loA B n + opT B (n : Int)) + b2 (decide (iandZ (ishrZ (pnT B) (n : Int)) 1 = 1))) + aLk (lkT B) (n : Int)
def loAK (B : BT) (k : Int) : Int := loA B k.toNat
theorem loAK_s {B : BT} {k : Int} (h : 0 ≤ k) : loAK B (k + 1) = 31 * (31 * (31 * loAK B k + opT B k) + b2 (decide (iandZ (ishrZ (pnT B) k) 1 = 1))) + aLk (lkT B) k := by
  unfold loAK
  rw [show (k + 1).toNat = k.toNat + 1 by omega]
  show 31 * (31 * (31 * loA B k.toNat + opT B ((k.toNat : Nat) : Int)) + b2 (decide (iandZ (ishrZ (pnT B) ((k.toNat : Nat) : Int)) 1 = 1))) + aLk (lkT B) ((k.toNat : Nat) : Int) = _
  rw [Int.toNat_of_nonneg h]
def loB (B : BT) : Nat → Int
  | 0 => loAK B 25
  | n + 1 => 31 * (31 * loB B n + aKp (kpT B) (n : Int)) + aCa (kpT B) (n : Int)
def loBK (B : BT) (k : Int) : Int := loB B k.toNat
theorem loBK_s {B : BT} {k : Int} (h : 0 ≤ k) : loBK B (k + 1) = 31 * (31 * loBK B k + aKp (kpT B) k) + aCa (kpT B) k := by
  unfold loBK
  rw [show (k + 1).toNat = k.toNat + 1 by omega]
  show 31 * (31 * loB B k.toNat + aKp (kpT B) ((k.toNat : Nat) : Int)) + aCa (kpT B) ((k.toNat : Nat) : Int) = _
  rw [Int.toNat_of_nonneg h]
def loC (B : BT) : Nat → Int
  | 0 => loBK B 6
  | n + 1 => 31 * (31 * loC B n + wcT B (n : Int) / 5) + wcT B (n : Int) % 5
def loCK (B : BT) (k : Int) : Int := loC B k.toNat
theorem loCK_s {B : BT} {k : Int} (h : 0 ≤ k) : loCK B (k + 1) = 31 * (31 * loCK B k + wcT B k / 5) + wcT B k % 5 := by
  unfold loCK
  rw [show (k + 1).toNat = k.toNat + 1 by omega]
  show 31 * (31 * loC B k.toNat + wcT B ((k.toNat : Nat) : Int) / 5) + wcT B ((k.toNat : Nat) : Int) % 5 = _
  rw [Int.toNat_of_nonneg h]
def loF (B : BT) : Int := (iZ (loCK B (nwT B))).toInt
