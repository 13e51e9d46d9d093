/-- how many of the first n places of f hold x -/
def cntN (f : Int → Int) (x : Int) : Nat → Int
  | 0 => 0
  | n + 1 => cntN f x n + (if f (n : Int) = x then 1 else 0)
def cntK (f : Int → Int) (x : Int) (n : Int) : Int := cntN f x n.toNat
theorem cntK_s {f : Int → Int} {x n : Int} (h : 0 ≤ n) : cntK f x (n + 1) = cntK f x n + (if f n = x then 1 else 0) := by
  unfold cntK
  have e : (n + 1).toNat = n.toNat + 1 := by omega
  rw [e]
  show cntN f x n.toNat + (if f ((n.toNat : Nat) : Int) = x then 1 else 0) = _
  rw [Int.toNat_of_nonneg h]
def cellZ (r c : Int) : Int := if (0 ≤ r ∧ r ≤ 4) ∧ (0 ≤ c ∧ c ≤ 4) then 5 * r + c else 0
