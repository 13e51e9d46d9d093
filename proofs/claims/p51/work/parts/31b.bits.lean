def bt (x : Int32) (i : Nat) : Bool := x.toBitVec.getLsbD i
theorem b_ext {x y : Int32} (h : ∀ i, i < 32 → bt x i = bt y i) : x = y := Int32.toBitVec_inj.mp (BitVec.eq_of_getLsbD_eq (fun i hi => h i hi))
theorem b_or (x y : Int32) (i : Nat) : bt (x ||| y) i = (bt x i || bt y i) := by unfold bt; rw [Int32.toBitVec_or, BitVec.getLsbD_or]
theorem b_and (x y : Int32) (i : Nat) : bt (x &&& y) i = (bt x i && bt y i) := by unfold bt; rw [Int32.toBitVec_and, BitVec.getLsbD_and]
theorem b_xor (x y : Int32) (i : Nat) : bt (x ^^^ y) i = (bt x i ^^ bt y i) := by unfold bt; rw [Int32.toBitVec_xor, BitVec.getLsbD_xor]
theorem b_big {x : Int32} {i : Nat} (h : 32 ≤ i) : bt x i = false := BitVec.getLsbD_of_ge _ _ h
theorem b_m1 : ∀ i, i < 32 → bt (-1) i = true := by decide +kernel
theorem b_0 (i : Nat) : bt 0 i = false := BitVec.getLsbD_zero
theorem s_l : ∀ n, n < 32 → ((nI n &&& 31).toBitVec.smod 32).toNat = n := by decide +kernel
theorem s_u : ∀ n, n < 32 → (((nI n).toUInt32 &&& Int32.toUInt32 31).toBitVec % 32).toNat = n := by decide +kernel
theorem b_shl (n : Nat) (hn : n < 32) (x : Int32) {i : Nat} (hi : i < 32) : bt (x <<< (nI n &&& 31)) i = (decide (n ≤ i) && bt x (i - n)) := by
  unfold bt
  rw [Int32.toBitVec_shiftLeft]
  show (x.toBitVec <<< ((nI n &&& 31).toBitVec.smod 32).toNat).getLsbD i = _
  rw [s_l n hn, BitVec.getLsbD_shiftLeft]
  rcases Nat.lt_or_ge i n with h | h
  · simp [h, Nat.not_le.mpr h]
  · simp [hi, h, Nat.not_lt.mpr h]
theorem b_ushr (n : Nat) (hn : n < 32) (x : Int32) (i : Nat) : bt ((x.toUInt32 >>> ((nI n).toUInt32 &&& Int32.toUInt32 31)).toInt32) i = bt x (n + i) := by
  show (x.toUInt32 >>> ((nI n).toUInt32 &&& Int32.toUInt32 31)).toBitVec.getLsbD i = x.toUInt32.toBitVec.getLsbD (n + i)
  rw [UInt32.toBitVec_shiftRight]
  show (x.toUInt32.toBitVec >>> (((nI n).toUInt32 &&& Int32.toUInt32 31).toBitVec % 32).toNat).getLsbD i = _
  rw [s_u n hn, BitVec.getLsbD_ushiftRight]
theorem b_sshr (n : Nat) (hn : n < 32) (x : Int32) {i : Nat} (hi : i < 32) : bt (x >>> (nI n &&& 31)) i = if n + i < 32 then bt x (n + i) else bt x 31 := by
  unfold bt
  rw [Int32.toBitVec_shiftRight]
  show (x.toBitVec.sshiftRight ((nI n &&& 31).toBitVec.smod 32).toNat).getLsbD i = _
  rw [s_l n hn, BitVec.getLsbD_sshiftRight, BitVec.msb_eq_getLsbD_last]
  simp [hi]
theorem nx_and (a b : Nat) : nI a &&& nI b = nI (a &&& b) := by
  apply Int32.toBitVec_inj.1
  show BitVec.ofNat 32 a &&& BitVec.ofNat 32 b = BitVec.ofNat 32 (a &&& b)
  apply BitVec.eq_of_getLsbD_eq
  intro i hi
  simp [hi]

/-! the pins: one bit a cell -/
theorem bt_n {n i : Nat} (hi : i < 32) : bt (iZ (n : Int)) i = n.testBit i := by
  show (BitVec.ofNat 32 n).getLsbD i = n.testBit i
  rw [BitVec.getLsbD_ofNat, decide_eq_true hi, Bool.true_and]
theorem bt_1 {i : Nat} (hi : i < 32) : bt 1 i = decide (i = 0) := (by decide +kernel : ∀ i, i < 32 → bt 1 i = decide (i = 0)) i hi
theorem and1_bt (X : Int32) : (X &&& 1).toInt = 1 ↔ bt X 0 = true := by
  have h1 : X &&& 1 = if bt X 0 = true then 1 else 0 := by
    apply b_ext
    intro i hi
    rw [b_and, bt_1 hi]
    by_cases h0 : i = 0
    · subst h0
      cases h : bt X 0
      · rw [if_neg (by decide), b_0]
        rfl
      · rw [if_pos rfl, bt_1 (by decide)]
        rfl
    · rw [decide_eq_false h0, Bool.and_false]
      split
      · rw [bt_1 hi, decide_eq_false h0]
      · rw [b_0]
  rw [h1]
  by_cases h : bt X 0 = true
  · rw [if_pos h]
    exact ⟨fun _ => h, fun _ => rfl⟩
  · rw [if_neg h]
    exact ⟨fun q => absurd q (by decide), fun q => absurd q h⟩
theorem fixP_bt {pn : Int} {c : Nat} (hc : c < 32) : fixP pn (c : Int) ↔ bt (iZ pn) c = true := by
  show ((iZ (iZ pn >>> (nI c &&& 31)).toInt) &&& 1).toInt = 1 ↔ _
  rw [iZ_self, and1_bt, b_sshr c hc _ (by decide), if_pos (by omega)]
  rfl
theorem fix_bt {pn : Int} {c d : Nat} (hc : c < 32) (hd : d < 32) : bt (iZ (iorZ pn (ishlZ 1 (c : Int)))) d = (bt (iZ pn) d || decide (d = c)) := by
  show bt (iZ ((iZ pn ||| iZ ((iZ 1 <<< (nI c &&& 31)).toInt)).toInt)) d = _
  rw [iZ_self, iZ_self, b_or, b_shl c hc _ hd]
  congr 1
  show (decide (c ≤ d) && bt 1 (d - c)) = _
  rw [bt_1 (by omega)]
  by_cases h : d = c
  · rw [decide_eq_true h, decide_eq_true (by omega), decide_eq_true (by omega)]
    rfl
  · rw [decide_eq_false h]
    by_cases h2 : c ≤ d
    · rw [decide_eq_false (show ¬ d - c = 0 by omega), Bool.and_false]
    · rw [decide_eq_false h2, Bool.false_and]
theorem free_bt {pn : Int} {c d : Nat} (hc : c < 32) (hd : d < 32) : bt (iZ (iandZ pn (ixorZ (ishlZ 1 (c : Int)) (-1)))) d = (bt (iZ pn) d && !decide (d = c)) := by
  show bt (iZ ((iZ pn &&& iZ ((iZ ((iZ 1 <<< (nI c &&& 31)).toInt) ^^^ iZ (-1)).toInt)).toInt)) d = _
  rw [iZ_self, iZ_self, iZ_self, b_and, b_xor, b_shl c hc _ hd]
  congr 1
  rw [show bt (iZ (-1)) d = true from b_m1 d hd, Bool.xor_true]
  congr 1
  show (decide (c ≤ d) && bt 1 (d - c)) = _
  rw [bt_1 (by omega)]
  by_cases h : d = c
  · rw [decide_eq_true h, decide_eq_true (by omega), decide_eq_true (by omega)]
    rfl
  · rw [decide_eq_false h]
    by_cases h2 : c ≤ d
    · rw [decide_eq_false (show ¬ d - c = 0 by omega), Bool.and_false]
    · rw [decide_eq_false h2, Bool.false_and]
theorem pn_rg {x : Int32} (h : ∀ i, 25 ≤ i → i < 32 → bt x i = false) : 0 ≤ x.toInt ∧ x.toInt < 33554432 := by
  have h2 : x.toBitVec.toNat < 2 ^ 25 := Nat.lt_pow_two_of_testBit _ (fun i hi => by
    rcases Nat.lt_or_ge i 32 with q | q
    · exact h i hi q
    · exact b_big q)
  have e : x = nI x.toBitVec.toNat := Int32.toBitVec_inj.mp (by show _ = BitVec.ofNat 32 _; simp)
  rw [e, iZ_nI, iZ_toInt (by unfold rg; omega)]
  constructor <;> omega
theorem pn_bt {pn : Int} (h : 0 ≤ pn ∧ pn < 33554432) {i : Nat} (h25 : 25 ≤ i) (hi : i < 32) : bt (iZ pn) i = false := by
  rw [← Int.toNat_of_nonneg h.1, bt_n hi]
  exact Nat.testBit_lt_two_pow (Nat.lt_of_lt_of_le (show pn.toNat < 2 ^ 25 by omega) (Nat.pow_le_pow_right (by decide) h25))
theorem fix_rg {pn c : Int} (h : 0 ≤ pn ∧ pn < 33554432) (h0 : 0 ≤ c) (h1 : c ≤ 24) : 0 ≤ iorZ pn (ishlZ 1 c) ∧ iorZ pn (ishlZ 1 c) < 33554432 := by
  refine pn_rg (x := iZ pn ||| iZ (ishlZ 1 c)) (fun i i0 i1 => ?_)
  have e := fix_bt (pn := pn) (c := c.toNat) (d := i) (by omega) i1
  rw [Int.toNat_of_nonneg h0, pn_bt h i0 i1, decide_eq_false (by omega)] at e
  refine Eq.trans ?_ e
  show _ = bt (iZ ((iZ pn ||| iZ (ishlZ 1 c)).toInt)) i
  rw [iZ_self]
theorem free_rg {pn c : Int} (h : 0 ≤ pn ∧ pn < 33554432) (h0 : 0 ≤ c) (h1 : c ≤ 24) : 0 ≤ iandZ pn (ixorZ (ishlZ 1 c) (-1)) ∧ iandZ pn (ixorZ (ishlZ 1 c) (-1)) < 33554432 := by
  refine pn_rg (x := iZ pn &&& iZ (ixorZ (ishlZ 1 c) (-1))) (fun i i0 i1 => ?_)
  have e := free_bt (pn := pn) (c := c.toNat) (d := i) (by omega) i1
  rw [Int.toNat_of_nonneg h0, pn_bt h i0 i1, Bool.false_and] at e
  refine Eq.trans ?_ e
  show _ = bt (iZ ((iZ pn &&& iZ (ixorZ (ishlZ 1 c) (-1))).toInt)) i
  rw [iZ_self]
theorem fixP_fix {pn c d : Int} (h0 : 0 ≤ c) (h1 : c ≤ 24) (d0 : 0 ≤ d) (d1 : d ≤ 24) : fixP (iorZ pn (ishlZ 1 c)) d ↔ fixP pn d ∨ d = c := by
  have e := fix_bt (pn := pn) (c := c.toNat) (d := d.toNat) (by omega) (by omega)
  have a := fixP_bt (pn := iorZ pn (ishlZ 1 c)) (c := d.toNat) (by omega)
  have b := fixP_bt (pn := pn) (c := d.toNat) (by omega)
  rw [Int.toNat_of_nonneg d0] at a b
  rw [Int.toNat_of_nonneg h0] at e
  rw [a, b, e, Bool.or_eq_true, decide_eq_true_iff]
  constructor
  · rintro (q | q)
    · exact Or.inl q
    · exact Or.inr (by omega)
  · rintro (q | q)
    · exact Or.inl q
    · exact Or.inr (by omega)
theorem fixP_free {pn c d : Int} (h0 : 0 ≤ c) (h1 : c ≤ 24) (d0 : 0 ≤ d) (d1 : d ≤ 24) : fixP (iandZ pn (ixorZ (ishlZ 1 c) (-1))) d ↔ fixP pn d ∧ ¬ d = c := by
  have e := free_bt (pn := pn) (c := c.toNat) (d := d.toNat) (by omega) (by omega)
  have a := fixP_bt (pn := iandZ pn (ixorZ (ishlZ 1 c) (-1))) (c := d.toNat) (by omega)
  have b := fixP_bt (pn := pn) (c := d.toNat) (by omega)
  rw [Int.toNat_of_nonneg d0] at a b
  rw [Int.toNat_of_nonneg h0] at e
  rw [a, b, e, Bool.and_eq_true, Bool.not_eq_true', decide_eq_false_iff_not]
  constructor
  · rintro ⟨q, q2⟩
    exact ⟨q, by omega⟩
  · rintro ⟨q, q2⟩
    exact ⟨q, by omega⟩
/-! how many bits are set -/
theorem nx_us {n k : Nat} (hn : n < 2147483648) (hk : k < 32) : ((nI n).toUInt32 >>> ((nI k).toUInt32 &&& Int32.toUInt32 31)).toInt32 = nI (n / 2 ^ k) := by
  apply b_ext
  intro i hi
  rw [b_ushr k hk]
  show (BitVec.ofNat 32 n).getLsbD (k + i) = (BitVec.ofNat 32 (n / 2 ^ k)).getLsbD i
  rw [BitVec.getLsbD_ofNat, BitVec.getLsbD_ofNat, Nat.testBit_div_two_pow, decide_eq_true hi, Bool.true_and, Nat.add_comm i k]
  by_cases h : k + i < 32
  · rw [decide_eq_true h, Bool.true_and]
  · rw [decide_eq_false h, Bool.false_and]
    exact (Nat.testBit_lt_two_pow (Nat.lt_of_lt_of_le (show n < 2 ^ 31 from hn) (Nat.pow_le_pow_right (by decide) (show 31 ≤ k + i by omega)))).symm
theorem iushr_n {n k : Nat} (hn : n < 2147483648) (hk : k < 32) : iushrZ (n : Int) (k : Int) = ((n / 2 ^ k : Nat) : Int) := by
  show ((nI n).toUInt32 >>> ((nI k).toUInt32 &&& Int32.toUInt32 31)).toInt32.toInt = _
  have h9 := Nat.div_le_self n (2 ^ k)
  rw [nx_us hn hk, iZ_nI, iZ_toInt]
  revert h9
  generalize n / 2 ^ k = y
  intro h9
  unfold rg
  omega
theorem iand_n {n m : Nat} (hn : n < 2147483648) : iandZ (n : Int) (m : Int) = ((n &&& m : Nat) : Int) := by
  show (nI n &&& nI m).toInt = _
  rw [nx_and, iZ_nI, iZ_toInt]
  have := Nat.and_le_left (n := n) (m := m)
  unfold rg
  omega
theorem and_b {a b c d : Nat} (hb : b < 256) (hd : d < 256) : (256 * a + b) &&& (256 * c + d) = 256 * (a &&& c) + (b &&& d) := by
  apply Nat.eq_of_testBit_eq
  intro i
  have hbd : b &&& d < 2 ^ 8 := Nat.lt_of_le_of_lt Nat.and_le_left hb
  rw [Nat.testBit_and, show 256 * a + b = 2 ^ 8 * a + b from rfl, show 256 * c + d = 2 ^ 8 * c + d from rfl, show 256 * (a &&& c) + (b &&& d) = 2 ^ 8 * (a &&& c) + (b &&& d) from rfl, Nat.testBit_two_pow_mul_add _ hb, Nat.testBit_two_pow_mul_add _ hd, Nat.testBit_two_pow_mul_add _ hbd]
  split
  · rw [Nat.testBit_and]
  · rw [Nat.testBit_and]
theorem and_4 {a b c d m : Nat} (ha : a < 256) (hb : b < 256) (hc : c < 256) (hm : m < 256) : (a + 256 * b + 65536 * c + 16777216 * d) &&& (m + 256 * m + 65536 * m + 16777216 * m) = (a &&& m) + 256 * (b &&& m) + 65536 * (c &&& m) + 16777216 * (d &&& m) := by
  have h1 : (256 * (256 * (256 * d + c) + b) + a) &&& (256 * (256 * (256 * m + m) + m) + m) = 256 * (256 * (256 * (d &&& m) + (c &&& m)) + (b &&& m)) + (a &&& m) := by
    rw [and_b ha hm, and_b hb hm, and_b hc hm]
  have e1 : a + 256 * b + 65536 * c + 16777216 * d = 256 * (256 * (256 * d + c) + b) + a := by omega
  have e2 : m + 256 * m + 65536 * m + 16777216 * m = 256 * (256 * (256 * m + m) + m) + m := by omega
  rw [e1, e2, h1]
  omega
/-- the bits of a byte, added up in three turns -/
def by1 (b : Nat) : Nat := b - (b / 2 &&& 85)
def by2 (b : Nat) : Nat := (by1 b &&& 51) + (by1 b / 4 &&& 51)
def by3 (b : Nat) : Nat := (by2 b + by2 b / 16) &&& 15
theorem by1_tab : ∀ b : Nat, b < 256 → ∀ q : Nat, q < 2 → (b / 2 + 128 * q) &&& 85 = b / 2 &&& 85 := by decide +kernel
theorem by1_b : ∀ b : Nat, b < 256 → (b / 2 &&& 85) ≤ b := by decide +kernel
theorem by2_tab : ∀ b : Nat, b < 256 → ∀ q : Nat, q < 4 → (b / 4 + 64 * q) &&& 51 = b / 4 &&& 51 := by decide +kernel
theorem by2_b : ∀ b : Nat, b < 256 → by1 b < 256 ∧ by2 b ≤ 68 ∧ by2 b % 16 ≤ 4 := by decide +kernel
theorem by3_tab : ∀ b : Nat, b < 69 → ∀ q : Nat, q < 5 → (b + b / 16 + 16 * q) &&& 15 = (b + b / 16) &&& 15 := by decide +kernel
def btN (b i : Nat) : Int := b2 (b.testBit i)
theorem by3_b : ∀ b : Nat, b < 256 → by3 b ≤ 8 ∧ (by3 b : Int) = btN b 0 + btN b 1 + btN b 2 + btN b 3 + btN b 4 + btN b 5 + btN b 6 + btN b 7 := by unfold btN; decide +kernel
theorem bc_4 {a b c d : Nat} (ha : a < 256) (hb : b < 256) (hc : c < 256) (hd : d < 128) : bcZ ((a + 256 * b + 65536 * c + 16777216 * d : Nat) : Int) = ((by3 a + by3 b + by3 c + by3 d : Nat) : Int) := by
  have a1 := by1_b a ha
  have b1 := by1_b b hb
  have c1 := by1_b c hc
  have d1 := by1_b d (by omega)
  obtain ⟨a2, a3, a4⟩ := by2_b a ha
  obtain ⟨b2', b3, b4⟩ := by2_b b hb
  obtain ⟨c2, c3, c4⟩ := by2_b c hc
  obtain ⟨d2, d3, d4⟩ := by2_b d (by omega)
  have a5 := (by3_b a ha).1
  have b5 := (by3_b b hb).1
  have c5 := (by3_b c hc).1
  have d5 := (by3_b d (by omega)).1
  have E1 : iandZ (iushrZ ((a + 256 * b + 65536 * c + 16777216 * d : Nat) : Int) 1) 1431655765 = (((a / 2 &&& 85) + 256 * (b / 2 &&& 85) + 65536 * (c / 2 &&& 85) + 16777216 * (d / 2 &&& 85) : Nat) : Int) := by
    rw [show (1 : Int) = ((1 : Nat) : Int) from rfl, iushr_n (by omega) (by decide), show (1431655765 : Int) = ((85 + 256 * 85 + 65536 * 85 + 16777216 * 85 : Nat) : Int) from rfl, show (a + 256 * b + 65536 * c + 16777216 * d) / 2 ^ 1 = (a / 2 + 128 * (b % 2)) + 256 * (b / 2 + 128 * (c % 2)) + 65536 * (c / 2 + 128 * (d % 2)) + 16777216 * (d / 2) by omega, iand_n (by omega), and_4 (by omega) (by omega) (by omega) (by decide), by1_tab a ha _ (by omega), by1_tab b hb _ (by omega), by1_tab c hc _ (by omega)]
  have E2 : ((a + 256 * b + 65536 * c + 16777216 * d : Nat) : Int) - (((a / 2 &&& 85) + 256 * (b / 2 &&& 85) + 65536 * (c / 2 &&& 85) + 16777216 * (d / 2 &&& 85) : Nat) : Int) = ((by1 a + 256 * by1 b + 65536 * by1 c + 16777216 * by1 d : Nat) : Int) := by
    unfold by1
    omega
  have d6 : by1 d < 128 := Nat.lt_of_le_of_lt (Nat.sub_le _ _) hd
  have E3 : iandZ ((by1 a + 256 * by1 b + 65536 * by1 c + 16777216 * by1 d : Nat) : Int) 858993459 + iandZ (iushrZ ((by1 a + 256 * by1 b + 65536 * by1 c + 16777216 * by1 d : Nat) : Int) 2) 858993459 = ((by2 a + 256 * by2 b + 65536 * by2 c + 16777216 * by2 d : Nat) : Int) := by
    rw [show (2 : Int) = ((2 : Nat) : Int) from rfl, iushr_n (by omega) (by decide), show (858993459 : Int) = ((51 + 256 * 51 + 65536 * 51 + 16777216 * 51 : Nat) : Int) from rfl, show (by1 a + 256 * by1 b + 65536 * by1 c + 16777216 * by1 d) / 2 ^ 2 = (by1 a / 4 + 64 * (by1 b % 4)) + 256 * (by1 b / 4 + 64 * (by1 c % 4)) + 65536 * (by1 c / 4 + 64 * (by1 d % 4)) + 16777216 * (by1 d / 4) by omega, iand_n (by omega), iand_n (by omega), and_4 (by omega) (by omega) (by omega) (by decide), and_4 (by omega) (by omega) (by omega) (by decide), by2_tab _ (by omega) _ (by omega), by2_tab _ (by omega) _ (by omega), by2_tab _ (by omega) _ (by omega)]
    unfold by2
    omega
  have E4 : iandZ (((by2 a + 256 * by2 b + 65536 * by2 c + 16777216 * by2 d : Nat) : Int) + iushrZ ((by2 a + 256 * by2 b + 65536 * by2 c + 16777216 * by2 d : Nat) : Int) 4) 252645135 = ((by3 a + 256 * by3 b + 65536 * by3 c + 16777216 * by3 d : Nat) : Int) := by
    rw [show (4 : Int) = ((4 : Nat) : Int) from rfl, iushr_n (by omega) (by decide), ← Int.natCast_add, show (252645135 : Int) = ((15 + 256 * 15 + 65536 * 15 + 16777216 * 15 : Nat) : Int) from rfl, show (by2 a + 256 * by2 b + 65536 * by2 c + 16777216 * by2 d) + (by2 a + 256 * by2 b + 65536 * by2 c + 16777216 * by2 d) / 2 ^ 4 = (by2 a + by2 a / 16 + 16 * (by2 b % 16)) + 256 * (by2 b + by2 b / 16 + 16 * (by2 c % 16)) + 65536 * (by2 c + by2 c / 16 + 16 * (by2 d % 16)) + 16777216 * (by2 d + by2 d / 16) by omega, iand_n (by omega), and_4 (by omega) (by omega) (by omega) (by decide), by3_tab _ (by omega) _ (by omega), by3_tab _ (by omega) _ (by omega), by3_tab _ (by omega) _ (by omega)]
    unfold by3
    rfl
  have E5 : ((by3 a + 256 * by3 b + 65536 * by3 c + 16777216 * by3 d : Nat) : Int) + iushrZ ((by3 a + 256 * by3 b + 65536 * by3 c + 16777216 * by3 d : Nat) : Int) 8 = (((by3 a + by3 b) + 256 * (by3 b + by3 c) + 65536 * (by3 c + by3 d) + 16777216 * by3 d : Nat) : Int) := by
    rw [show (8 : Int) = ((8 : Nat) : Int) from rfl, iushr_n (by omega) (by decide)]
    omega
  have E6 : (((by3 a + by3 b) + 256 * (by3 b + by3 c) + 65536 * (by3 c + by3 d) + 16777216 * by3 d : Nat) : Int) + iushrZ (((by3 a + by3 b) + 256 * (by3 b + by3 c) + 65536 * (by3 c + by3 d) + 16777216 * by3 d : Nat) : Int) 16 = (((by3 a + by3 b + by3 c + by3 d) + 64 * (4 * (by3 b + by3 c + by3 d) + 1024 * (by3 c + by3 d) + 262144 * by3 d) : Nat) : Int) := by
    rw [show (16 : Int) = ((16 : Nat) : Int) from rfl, iushr_n (by omega) (by decide)]
    omega
  unfold bcZ
  simp only [E1]
  rw [E2]
  simp only [E3]
  simp only [E4]
  simp only [E5]
  simp only [E6]
  rw [show (63 : Int) = ((63 : Nat) : Int) from rfl, iand_n (by omega), show (63 : Nat) = 2 ^ 6 - 1 from rfl, Nat.and_two_pow_sub_one_eq_mod]
  congr 1
  omega
theorem bc_cnt {pn : Int} (h : 0 ≤ pn ∧ pn < 33554432) : bcZ pn = cnbK (fun c => decide (fixP pn c)) 25 := by
  have hf : ∀ i : Nat, i < 25 → b2 (decide (fixP pn (i : Int))) = btN pn.toNat i := by
    intro i hi
    have e := fixP_bt (pn := pn) (c := i) (by omega)
    have e2 := bt_n (n := pn.toNat) (i := i) (by omega)
    rw [Int.toNat_of_nonneg h.1] at e2
    rw [e2] at e
    unfold btN
    congr 1
    cases q : pn.toNat.testBit i
    · exact decide_eq_false (fun z => by rw [e, q] at z; cases z)
    · exact decide_eq_true (e.mpr q)
  have hn : pn.toNat = (pn.toNat % 256) + 256 * (pn.toNat / 256 % 256) + 65536 * (pn.toNat / 65536 % 256) + 16777216 * (pn.toNat / 16777216) := by omega
  have t0 : ∀ i : Nat, i < 8 → btN pn.toNat i = btN (pn.toNat % 256) i := by
    intro i hi
    unfold btN
    rw [show (256 : Nat) = 2 ^ 8 from rfl, Nat.testBit_mod_two_pow, decide_eq_true hi, Bool.true_and]
  have t1 : ∀ i : Nat, i < 8 → btN pn.toNat (i + 8) = btN (pn.toNat / 256 % 256) i := by
    intro i hi
    unfold btN
    rw [show pn.toNat / 256 % 256 = pn.toNat / 2 ^ 8 % 2 ^ 8 from rfl, Nat.testBit_mod_two_pow, decide_eq_true hi, Bool.true_and, Nat.testBit_div_two_pow]
  have t2 : ∀ i : Nat, i < 8 → btN pn.toNat (i + 16) = btN (pn.toNat / 65536 % 256) i := by
    intro i hi
    unfold btN
    rw [show pn.toNat / 65536 % 256 = pn.toNat / 2 ^ 16 % 2 ^ 8 from rfl, Nat.testBit_mod_two_pow, decide_eq_true hi, Bool.true_and, Nat.testBit_div_two_pow]
  have t3 : ∀ i : Nat, btN pn.toNat (i + 24) = btN (pn.toNat / 16777216) i := by
    intro i
    unfold btN
    rw [show pn.toNat / 16777216 = pn.toNat / 2 ^ 24 from rfl, Nat.testBit_div_two_pow]
  have z3 : ∀ i : Nat, 1 ≤ i → btN (pn.toNat / 16777216) i = 0 := by
    intro i hi
    unfold btN
    rw [Nat.testBit_lt_two_pow (Nat.lt_of_lt_of_le (show pn.toNat / 16777216 < 2 ^ 1 by omega) (Nat.pow_le_pow_right (by decide) hi))]
    rfl
  have hl : bcZ pn = ((by3 (pn.toNat % 256) + by3 (pn.toNat / 256 % 256) + by3 (pn.toNat / 65536 % 256) + by3 (pn.toNat / 16777216) : Nat) : Int) := by
    have q := bc_4 (a := pn.toNat % 256) (b := pn.toNat / 256 % 256) (c := pn.toNat / 65536 % 256) (d := pn.toNat / 16777216) (by omega) (by omega) (by omega) (by omega)
    rw [← hn, Int.toNat_of_nonneg h.1] at q
    exact q
  have p0 := (by3_b (pn.toNat % 256) (by omega)).2
  have p1 := (by3_b (pn.toNat / 256 % 256) (by omega)).2
  have p2 := (by3_b (pn.toNat / 65536 % 256) (by omega)).2
  have p3 := (by3_b (pn.toNat / 16777216) (by omega)).2
  rw [← t0 0 (by decide), ← t0 1 (by decide), ← t0 2 (by decide), ← t0 3 (by decide), ← t0 4 (by decide), ← t0 5 (by decide), ← t0 6 (by decide), ← t0 7 (by decide)] at p0
  rw [← t1 0 (by decide), ← t1 1 (by decide), ← t1 2 (by decide), ← t1 3 (by decide), ← t1 4 (by decide), ← t1 5 (by decide), ← t1 6 (by decide), ← t1 7 (by decide)] at p1
  rw [← t2 0 (by decide), ← t2 1 (by decide), ← t2 2 (by decide), ← t2 3 (by decide), ← t2 4 (by decide), ← t2 5 (by decide), ← t2 6 (by decide), ← t2 7 (by decide)] at p2
  rw [z3 1 (by decide), z3 2 (by decide), z3 3 (by decide), z3 4 (by decide), z3 5 (by decide), z3 6 (by decide), z3 7 (by decide), ← t3 0] at p3
  have hr : cnbK (fun c => decide (fixP pn c)) 25 = (((((((((((((((((((((((((0 + btN pn.toNat 0) + btN pn.toNat 1) + btN pn.toNat 2) + btN pn.toNat 3) + btN pn.toNat 4) + btN pn.toNat 5) + btN pn.toNat 6) + btN pn.toNat 7) + btN pn.toNat 8) + btN pn.toNat 9) + btN pn.toNat 10) + btN pn.toNat 11) + btN pn.toNat 12) + btN pn.toNat 13) + btN pn.toNat 14) + btN pn.toNat 15) + btN pn.toNat 16) + btN pn.toNat 17) + btN pn.toNat 18) + btN pn.toNat 19) + btN pn.toNat 20) + btN pn.toNat 21) + btN pn.toNat 22) + btN pn.toNat 23) + btN pn.toNat 24) := by
    have key : ∀ n : Nat, n ≤ 25 → cnbN (fun c => decide (fixP pn c)) n = smN (fun j => btN pn.toNat j.toNat) n := by
      intro n
      induction n with
      | zero => intro _; rfl
      | succ n ih =>
        intro hn
        rw [cnbN, smN, ih (by omega), hf n (by omega)]
        rfl
    exact key 25 (by decide)
  rw [hl, hr]
  simp only [Nat.reduceAdd] at p0 p1 p2 p3
  omega
