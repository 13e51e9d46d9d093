/-! ===== a shift of a line in the model's row ===== -/
theorem paZ_rg {pl fs sd st : Int} (h : linP fs sd) (h0 : 0 ≤ pl) (h1 : pl ≤ 24) : 0 ≤ paZ pl fs sd st ∧ paZ pl fs sd st ≤ 24 := by
  unfold paZ
  split
  · exact lin_in h (by omega) (by omega)
  · exact ⟨h0, h1⟩
theorem paZ_out {pl fs sd st : Int} (h : linP fs sd) (hp : pl < 0 ∨ 24 < pl) : paZ pl fs sd st = pl := by
  refine (paZ_no h (fun j j0 j1 e => ?_)).symm
  have := lin_in h j0 (show j ≤ 4 by omega)
  omega
theorem go_t {b : Bool} {ln ce st q : Int} (hl : 0 ≤ ln ∧ ln ≤ 4) (hc : 0 ≤ ce ∧ ce ≤ 24) (h : (b = true ∧ ce / 5 = ln ∧ q = ce % 5) ∨ (b = false ∧ ce % 5 = ln ∧ q = ce / 5)) : fsZ b ln + ((q + st + 5) % 5) * sdZ b = paZ ce (fsZ b ln) (sdZ b) st := by
  rw [show (q + st + 5) % 5 = (q + st) % 5 by omega]
  rcases h with ⟨rfl, h2, h3⟩ | ⟨rfl, h2, h3⟩
  · exact paZ_hit (fs_lin hl.1 hl.2) (by omega) (by omega) (by show ce = ln * 5 + q * 1; omega)
  · exact paZ_hit (fs_lin hl.1 hl.2) (by omega) (by omega) (by show ce = ln + q * 5; omega)
theorem on_ln {b : Bool} {ln ce : Int} (hl : 0 ≤ ln ∧ ln ≤ 4) (hc : 0 ≤ ce ∧ ce ≤ 24) : (0 ≤ lnI ce (fsZ b ln) (sdZ b) ∧ lnI ce (fsZ b ln) (sdZ b) < 5) ↔ (if b = true then ce / 5 else ce % 5) = ln := by
  have hL := fs_lin (b := b) hl.1 hl.2
  constructor
  · intro h
    have e := lnI_of hL h.1 h.2
    cases b
    · have e2 : ce = ln + lnI ce (fsZ false ln) (sdZ false) * 5 := e
      show ce % 5 = ln
      omega
    · have e2 : ce = ln * 5 + lnI ce (fsZ true ln) (sdZ true) * 1 := e
      show ce / 5 = ln
      omega
  · intro h
    cases b
    · have h' : ce % 5 = ln := h
      have e : lnI ce (fsZ false ln) (sdZ false) = ce / 5 := by
        have q := lnI_at hL (i := ce / 5)
        rw [show fsZ false ln + ce / 5 * sdZ false = ce by show ln + ce / 5 * 5 = ce; omega] at q
        exact q
      rw [e]
      omega
    · have h' : ce / 5 = ln := h
      have e : lnI ce (fsZ true ln) (sdZ true) = ce % 5 := by
        have q := lnI_at hL (i := ce % 5)
        rw [show fsZ true ln + ce % 5 * sdZ true = ce by show ln * 5 + ce % 5 * 1 = ce; omega] at q
        exact q
      rw [e]
      omega
theorem go_f {b : Bool} {ln ce st : Int} (hl : 0 ≤ ln ∧ ln ≤ 4) (hc : 0 ≤ ce ∧ ce ≤ 24) (h : (b = true ∧ ¬ ce / 5 = ln) ∨ (b = false ∧ ¬ ce % 5 = ln)) : ce = paZ ce (fsZ b ln) (sdZ b) st := by
  unfold paZ
  rw [if_neg (fun q => ?_)]
  have q2 := (on_ln hl hc).mp q
  rcases h with ⟨rfl, h2⟩ | ⟨rfl, h2⟩
  · exact h2 q2
  · exact h2 q2
/-! what is moved -/
def mvI (v : Int → Int) (fs sd st i k : Int) (g : Int → Int) : Prop := ∀ j t : Int, 0 ≤ j → 0 ≤ t → t < 3 → (j < i ∨ (j = i ∧ t < k)) → g (3 * ((j + st) % 5) + t) = v (12 + 3 * (fs + j * sd) + t)
theorem mvI_0 {v g : Int → Int} {fs sd st : Int} : mvI v fs sd st 0 0 g := fun j t h0 h1 h2 h3 => by omega
theorem mvI_n {v g : Int → Int} {fs sd st i : Int} (h : mvI v fs sd st i 3 g) : mvI v fs sd st (i + 1) 0 g := fun j t h0 h1 h2 h3 => h j t h0 h1 h2 (by omega)
theorem mvI_s {v g : Int → Int} {fs sd st i k : Int} (h : mvI v fs sd st i k g) (hi : 0 ≤ i ∧ i < 5) (hk : 0 ≤ k ∧ k < 3) : mvI v fs sd st i (k + 1) (ui g (3 * ((i + st + 5) % 5) + k) (v (12 + 3 * (fs + i * sd) + k))) := by
  intro j t h0 h1 h2 h3
  by_cases e : j = i ∧ t = k
  · obtain ⟨rfl, rfl⟩ := e
    rw [show 3 * ((j + st) % 5) + t = 3 * ((j + st + 5) % 5) + t by omega, ui_s]
  · rw [ui_n (by omega)]
    exact h j t h0 h1 h2 (by omega)
theorem mvI_at {v g : Int → Int} {fs sd st p t : Int} (h : mvI v fs sd st 5 0 g) (hp : 0 ≤ p ∧ p < 5) (ht : 0 ≤ t ∧ t < 3) : g (3 * p + t) = v (12 + 3 * (fs + ((p - st) % 5) * sd) + t) := by
  have e := h ((p - st) % 5) t (by omega) ht.1 ht.2 (by omega)
  rw [show ((p - st) % 5 + st) % 5 = p by omega] at e
  exact e
/-! where it is laid -/
def slI (v : Int → Int) (fs sd st i k : Int) (h : Int → Int) : Prop := (∀ j : Int, 0 ≤ j → j < 12 → h j = v j) ∧ ∀ c t : Int, 0 ≤ c → c ≤ 24 → 0 ≤ t → t < 3 → h (12 + 3 * c + t) = if 0 ≤ lnI c fs sd ∧ (lnI c fs sd < i ∨ (lnI c fs sd = i ∧ t < k)) then v (12 + 3 * (fs + ((lnI c fs sd - st) % 5) * sd) + t) else v (12 + 3 * c + t)
theorem slI_0 {v : Int → Int} {fs sd st : Int} : slI v fs sd st 0 0 v := ⟨fun _ _ _ => rfl, fun c t h0 h1 h2 h3 => by rw [if_neg (by omega)]⟩
theorem slI_n {v h : Int → Int} {fs sd st i : Int} (I : slI v fs sd st i 3 h) : slI v fs sd st (i + 1) 0 h := ⟨I.1, fun c t h0 h1 h2 h3 => by
  rw [I.2 c t h0 h1 h2 h3]
  by_cases q : 0 ≤ lnI c fs sd ∧ (lnI c fs sd < i ∨ (lnI c fs sd = i ∧ t < 3))
  · rw [if_pos q, if_pos (by omega)]
  · rw [if_neg q, if_neg (by omega)]⟩
theorem slI_s {v h : Int → Int} {fs sd st i k x : Int} (I : slI v fs sd st i k h) (hL : linP fs sd) (hi : 0 ≤ i ∧ i < 5) (hk : 0 ≤ k ∧ k < 3) (hx : x = v (12 + 3 * (fs + ((i - st) % 5) * sd) + k)) : slI v fs sd st i (k + 1) (ui h (12 + 3 * (fs + i * sd) + k) x) := by
  have hr := lin_in hL hi.1 (show i ≤ 4 by omega)
  refine ⟨fun j h0 h1 => ?_, fun c t h0 h1 h2 h3 => ?_⟩
  · rw [ui_n (by omega)]
    exact I.1 j h0 h1
  · by_cases e : c = fs + i * sd ∧ t = k
    · obtain ⟨rfl, rfl⟩ := e
      rw [ui_s, lnI_at hL, if_pos (by omega)]
      exact hx
    · rw [ui_n (by omega), I.2 c t h0 h1 h2 h3]
      by_cases q : 0 ≤ lnI c fs sd ∧ (lnI c fs sd < i ∨ (lnI c fs sd = i ∧ t < k))
      · rw [if_pos q, if_pos (by omega)]
      · rw [if_neg q, if_neg (fun z => ?_)]
        have z1 : lnI c fs sd = i := by omega
        have z2 := lnI_of hL (c := c) (by omega) (by omega)
        rw [z1] at z2
        exact e ⟨z2, by omega⟩
def kyK (h : Int → Int) (fs sd st : Int) (kp : Int → Int) (n : Int) : Int → Int := fun j => if 3 ≤ j ∧ j < 3 + n then kM (paZ (kp (j - 3)) fs sd st) else h j
theorem kyK_0 {h kp : Int → Int} {fs sd st : Int} : kyK h fs sd st kp 0 = h := by
  funext j
  unfold kyK
  rw [if_neg (by omega)]
theorem kyK_s {h kp : Int → Int} {fs sd st n x : Int} (hn : 0 ≤ n) (hx : x = kM (paZ (kp n) fs sd st)) : ui (kyK h fs sd st kp n) (3 + n) x = kyK h fs sd st kp (n + 1) := by
  funext j
  simp only [kyK, ui]
  by_cases e : j = 3 + n
  · rw [if_pos e, if_pos (by omega), hx, e, show 3 + n - 3 = n by omega]
  · rw [if_neg e]
    by_cases e2 : 3 ≤ j ∧ j < 3 + n
    · rw [if_pos e2, if_pos (by omega)]
    · rw [if_neg e2, if_neg (by omega)]
theorem kyK_n {h kp : Int → Int} {fs sd st n j : Int} (hj : ¬ (3 ≤ j ∧ j < 3 + n)) : kyK h fs sd st kp n j = h j := by
  unfold kyK
  rw [if_neg hj]
def wkK (h : Int → Int) (fs sd st : Int) (wc : Int → Int) (n : Int) : Int → Int := fun j => if 9 ≤ j ∧ j < 9 + n then paZ (wc (j - 9)) fs sd st else h j
theorem wkK_0 {h wc : Int → Int} {fs sd st : Int} : wkK h fs sd st wc 0 = h := by
  funext j
  unfold wkK
  rw [if_neg (by omega)]
theorem wkK_s {h wc : Int → Int} {fs sd st n x : Int} (hn : 0 ≤ n) (hx : x = paZ (wc n) fs sd st) : ui (wkK h fs sd st wc n) (9 + n) x = wkK h fs sd st wc (n + 1) := by
  funext j
  simp only [wkK, ui]
  by_cases e : j = 9 + n
  · rw [if_pos e, if_pos (by omega), hx, e, show 9 + n - 9 = n by omega]
  · rw [if_neg e]
    by_cases e2 : 9 ≤ j ∧ j < 9 + n
    · rw [if_pos e2, if_pos (by omega)]
    · rw [if_neg e2, if_neg (by omega)]
theorem wkK_n {h wc : Int → Int} {fs sd st n j : Int} (hj : ¬ (9 ≤ j ∧ j < 9 + n)) : wkK h fs sd st wc n j = h j := by
  unfold wkK
  rw [if_neg hj]
theorem kM_pa {x fs sd st : Int} (hL : linP fs sd) (hx : -1 ≤ x ∧ x ≤ 27) : (if 0 ≤ x ∧ x ≤ 24 then paZ x fs sd st else kM x) = kM (paZ x fs sd st) := by
  by_cases h : 0 ≤ x ∧ x ≤ 24
  · have q := paZ_rg (st := st) hL h.1 h.2
    rw [if_pos h, kM_lt (by omega)]
  · rw [if_neg h, paZ_out hL (by omega)]
theorem Cp_sl {v h op lk kp wc : Int → Int} {pn nw sh wk fs sd st : Int} (hC : Cp v op lk kp wc pn nw sh wk) (hB : BI op lk kp wc pn nw) (hL : linP fs sd) (hf : lfB pn fs sd = true) (I : slI v fs sd st 5 0 h) (hr : ∀ j : Int, rg (h j)) : Cp (wkK (kyK h fs sd st kp 6) fs sd st wc nw) (rotF op fs sd st) (rotF lk fs sd st) (mlK kp fs sd st 6) (mlK wc fs sd st nw) pn nw sh wk := by
  obtain ⟨hop, hlk, hkp, hwc, hpn, hnw⟩ := id hB
  obtain ⟨⟨a1, a2, a3⟩, a4, a5, a6, a7⟩ := id hC
  have hf2 := of_dB_t hf
  have e12 : ∀ j : Int, 12 ≤ j → wkK (kyK h fs sd st kp 6) fs sd st wc nw j = h j := fun j hj => by rw [wkK_n (by omega), kyK_n (by omega)]
  have rot : ∀ (f : Int → Int) (c : Int), rotF f fs sd st c = if 0 ≤ lnI c fs sd ∧ lnI c fs sd < 5 then f (fs + ((lnI c fs sd - st) % 5) * sd) else f c := fun f c => rfl
  have cnd : ∀ c t : Int, (0 ≤ lnI c fs sd ∧ (lnI c fs sd < 5 ∨ (lnI c fs sd = 5 ∧ t < 0))) ↔ (0 ≤ lnI c fs sd ∧ lnI c fs sd < 5) ∨ (0 ≤ lnI c fs sd ∧ lnI c fs sd = 5 ∧ t < 0) := fun c t => by omega
  have key : ∀ c t : Int, 0 ≤ c → c ≤ 24 → 0 ≤ t → t < 3 → h (12 + 3 * c + t) = if 0 ≤ lnI c fs sd ∧ lnI c fs sd < 5 then v (12 + 3 * (fs + ((lnI c fs sd - st) % 5) * sd) + t) else v (12 + 3 * c + t) := fun c t h0 h1 h2 h3 => by
    rw [I.2 c t h0 h1 h2 h3]
    by_cases q : 0 ≤ lnI c fs sd ∧ lnI c fs sd < 5
    · rw [if_pos q, if_pos (by omega)]
    · rw [if_neg q, if_neg (by omega)]
  have inn : ∀ c : Int, (0 ≤ lnI c fs sd ∧ lnI c fs sd < 5) → 0 ≤ fs + ((lnI c fs sd - st) % 5) * sd ∧ fs + ((lnI c fs sd - st) % 5) * sd ≤ 24 := fun c _ => lin_in hL (by omega) (by omega)
  refine ⟨⟨?_, ?_, ?_⟩, fun k k0 k1 => ?_, fun w w0 w1 => ?_, fun c c0 c1 => ⟨?_, ?_, ?_⟩, fun j => ?_⟩
  · rw [wkK_n (by omega), kyK_n (by omega), I.1 0 (by omega) (by omega)]; exact a1
  · rw [wkK_n (by omega), kyK_n (by omega), I.1 1 (by omega) (by omega)]; exact a2
  · rw [wkK_n (by omega), kyK_n (by omega), I.1 2 (by omega) (by omega)]; exact a3
  · rw [wkK_n (by omega)]
    unfold kyK
    rw [if_pos (by omega), show 3 + k - 3 = k by omega]
    simp only [mlK]
    rw [if_pos (by omega)]
  · unfold wkK
    rw [if_pos (by omega), show 9 + w - 9 = w by omega]
    simp only [mlK]
    rw [if_pos (by omega)]
  · rw [e12 _ (by omega), key c 0 c0 c1 (by decide) (by decide), rot]
    split
    · rename_i q
      exact (a6 _ (inn c q).1 (inn c q).2).1
    · exact (a6 c c0 c1).1
  · rw [e12 _ (by omega), key c 1 c0 c1 (by decide) (by decide)]
    split
    · rename_i q
      rw [(a6 _ (inn c q).1 (inn c q).2).2.1]
      have e1 := hf2 ((lnI c fs sd - st) % 5) (by omega) (by omega)
      have e2 := hf2 (lnI c fs sd) q.1 q.2
      rw [← lnI_of hL q.1 q.2] at e2
      rw [if_neg e1, if_neg e2]
    · exact (a6 c c0 c1).2.1
  · rw [e12 _ (by omega), key c 2 c0 c1 (by decide) (by decide), rot]
    split
    · rename_i q
      exact (a6 _ (inn c q).1 (inn c q).2).2.2
    · exact (a6 c c0 c1).2.2
  · unfold wkK
    split
    · have q := hwc (j - 9)
      have z := paZ_rg (st := st) hL q.1 q.2
      unfold rg
      omega
    · unfold kyK
      split
      · have q := hkp (j - 3)
        have z := paZ_in (steps := st) hL q.1
        exact kM_rg z.1 (by omega)
      · exact hr j
/-! who stands on the line -/
def lnC (wc : Int → Int) (b : Bool) (ln n : Int) : Int := cnbK (fun k => decide ((if b = true then wc k / 5 else wc k % 5) = ln)) n
theorem cntN_sm (f : Int → Int) (x : Int) : ∀ n : Nat, cntN f x n = smN (fun j => if f j = x then 1 else 0) n
  | 0 => rfl
  | n + 1 => by unfold cntN smN; rw [cntN_sm f x n]
theorem ln_one {y fs sd : Int} (hL : linP fs sd) : smN (fun i => if y = fs + i * sd then 1 else 0) 5 = if 0 ≤ lnI y fs sd ∧ lnI y fs sd < 5 then 1 else 0 := by
  by_cases q : 0 ≤ lnI y fs sd ∧ lnI y fs sd < 5
  · rw [if_pos q]
    have e := smN_one (k := lnI y fs sd) q.1 5
    rw [if_pos (show lnI y fs sd < ((5 : Nat) : Int) by omega)] at e
    refine (smN_congr 5 (fun j h0 h1 => ifc ⟨fun z => ?_, fun z => ?_⟩)).trans e
    · rw [z, lnI_at hL]
    · rw [z]
      exact lnI_of hL q.1 q.2
  · rw [if_neg q, ← smN_0 5]
    refine smN_congr 5 (fun j h0 h1 => if_neg (fun z => q ?_))
    rw [z, lnI_at hL]
    omega
theorem pa_on {c fs sd st : Int} (hL : linP fs sd) : (0 ≤ lnI (paZ c fs sd st) fs sd ∧ lnI (paZ c fs sd st) fs sd < 5) ↔ (0 ≤ lnI c fs sd ∧ lnI c fs sd < 5) := by
  unfold paZ
  split
  · rename_i q
    rw [lnI_at hL]
    exact ⟨fun _ => q, fun _ => by omega⟩
  · exact Iff.rfl
theorem mv_cnt {wc : Int → Int} {b : Bool} {ln st nw : Int} (hl : 0 ≤ ln ∧ ln ≤ 4) (hwc : ∀ j, 0 ≤ wc j ∧ wc j ≤ 24) : smK (fun i => cntK (mlK wc (fsZ b ln) (sdZ b) st nw) (fsZ b ln + i * sdZ b) nw) 5 = lnC wc b ln nw := by
  have hL := fs_lin (b := b) hl.1 hl.2
  have e1 : smK (fun i => cntK (mlK wc (fsZ b ln) (sdZ b) st nw) (fsZ b ln + i * sdZ b) nw) 5 = smN (fun i => smN (fun j => if mlK wc (fsZ b ln) (sdZ b) st nw j = fsZ b ln + i * sdZ b then 1 else 0) nw.toNat) 5 :=
    smN_congr 5 (fun j _ _ => cntN_sm _ _ _)
  rw [e1, smN_swap]
  have e2 : lnC wc b ln nw = smN (fun j => b2 (decide ((if b = true then wc j / 5 else wc j % 5) = ln))) nw.toNat := cnbN_sm _ _
  rw [e2]
  refine smN_congr _ (fun j h0 h1 => ?_)
  show smN (fun i => if mlK wc (fsZ b ln) (sdZ b) st nw j = fsZ b ln + i * sdZ b then 1 else 0) 5 = b2 (decide ((if b = true then wc j / 5 else wc j % 5) = ln))
  rw [ln_one hL, b2_dec]
  refine ifc ?_
  have e3 : mlK wc (fsZ b ln) (sdZ b) st nw j = paZ (wc j) (fsZ b ln) (sdZ b) st := by
    simp only [mlK]
    rw [if_pos (by omega)]
  rw [e3, pa_on hL]
  exact on_ln hl (hwc j)
noncomputable def lnF (op lk kp wc : Int → Int) (pn nw sh wk : Int) (b : Bool) (r st : Int) : Int × BT := if 0 ≤ r ∧ r < 5 then moveF op lk kp wc pn nw sh wk (fsZ b r) (sdZ b) st else (-1, op, lk, kp, wc, pn, nw, sh, wk)
theorem lnF_row {op lk kp wc : Int → Int} {pn nw sh wk r st : Int} : lnF op lk kp wc pn nw sh wk true r st = rowF op lk kp wc pn nw sh wk r st := rfl
theorem lnF_col {op lk kp wc : Int → Int} {pn nw sh wk r st : Int} : lnF op lk kp wc pn nw sh wk false r st = colF op lk kp wc pn nw sh wk r st := rfl
theorem lnC_b {wc : Int → Int} {b : Bool} {ln n : Int} (h : 0 ≤ n) : 0 ≤ lnC wc b ln n ∧ lnC wc b ln n ≤ n := cnbK_b h
section SHF
variable {v op lk kp wc : Int → Int} {pn nw sh wk : Int} {b : Bool} {r st : Int}
theorem ln_1 (h : ¬ (0 ≤ r ∧ r ≤ 4)) : lnF op lk kp wc pn nw sh wk b r st = (-1, op, lk, kp, wc, pn, nw, sh, wk) := by
  unfold lnF
  rw [if_neg (by omega)]
theorem ln_2 (h : 0 ≤ r ∧ r ≤ 4) (hs : ¬ (¬ st = 0 ∧ -4 ≤ st ∧ st ≤ 4)) : lnF op lk kp wc pn nw sh wk b r st = (-2, op, lk, kp, wc, pn, nw, sh, wk) := by
  unfold lnF moveF
  rw [if_pos (by omega), if_pos (by omega)]
theorem ln_3 (h : 0 ≤ r ∧ r ≤ 4) (hs : ¬ st = 0 ∧ -4 ≤ st ∧ st ≤ 4) (hf : frB pn b r = false) : lnF op lk kp wc pn nw sh wk b r st = (-3, op, lk, kp, wc, pn, nw, sh, wk) := by
  unfold lnF moveF
  rw [if_pos (by omega), if_neg (by omega), if_pos (by rw [← frB_lf h.1 h.2]; exact hf)]
theorem ln_0 (hwc : ∀ j, 0 ≤ wc j ∧ wc j ≤ 24) (h : 0 ≤ r ∧ r ≤ 4) (hs : ¬ st = 0 ∧ -4 ≤ st ∧ st ≤ 4) (hf : frB pn b r = true) : lnF op lk kp wc pn nw sh wk b r st = (lnC wc b r nw, rotF op (fsZ b r) (sdZ b) st, rotF lk (fsZ b r) (sdZ b) st, mlK kp (fsZ b r) (sdZ b) st 6, mlK wc (fsZ b r) (sdZ b) st nw, pn, nw, sh + 1, wk) := by
  unfold lnF moveF
  rw [if_pos (by omega), if_neg (by omega), if_neg (by rw [← frB_lf h.1 h.2, hf]; decide), mv_cnt h hwc]
theorem ln_th {b2 b3 : Bool} (hn : 0 ≤ nw) (hwc : ∀ j, 0 ≤ wc j ∧ wc j ≤ 24) (h2 : b2 = true ↔ ¬ st = 0 ∧ -4 ≤ st ∧ st ≤ 4) (h3 : b3 = frB pn b r) : thZ (decide (0 ≤ r ∧ r ≤ 4)) b2 b3 = tA (lnF op lk kp wc pn nw sh wk b r st).1 := by
  by_cases q : 0 ≤ r ∧ r ≤ 4
  · by_cases q2 : ¬ st = 0 ∧ -4 ≤ st ∧ st ≤ 4
    · cases e : frB pn b r
      · rw [ln_3 q q2 e]
        exact thZ_3 (decide_eq_true q) (h2.mpr q2) (by rw [h3, e]; decide)
      · rw [ln_0 hwc q q2 e]
        show _ = tA (lnC wc b r nw)
        rw [tA_0 (lnC_b hn).1]
        exact thZ_0 (decide_eq_true q) (h2.mpr q2) (by rw [h3, e])
    · rw [ln_2 q q2]
      exact thZ_2 (decide_eq_true q) (fun z => q2 (h2.mp z))
  · rw [ln_1 q]
    exact thZ_1 (fun z => q (of_decide_eq_true z))
theorem ln_n {b2 b3 : Bool} (h2 : b2 = true ↔ ¬ st = 0 ∧ -4 ≤ st ∧ st ≤ 4) (h3 : b3 = frB pn b r) (h : okZ (decide (0 ≤ r ∧ r ≤ 4)) b2 b3 = false) : (lnF op lk kp wc pn nw sh wk b r st).1 < 0 ∧ (lnF op lk kp wc pn nw sh wk b r st).2 = (op, lk, kp, wc, pn, nw, sh, wk) := by
  by_cases q : 0 ≤ r ∧ r ≤ 4
  · by_cases q2 : ¬ st = 0 ∧ -4 ≤ st ∧ st ≤ 4
    · cases e : frB pn b r
      · rw [ln_3 q q2 e]
        exact ⟨Int.negSucc_lt_zero _, rfl⟩
      · exact absurd ⟨decide_eq_true q, h2.mpr q2, by rw [h3, e]⟩ (okZ_f.mp h)
    · rw [ln_2 q q2]
      exact ⟨Int.negSucc_lt_zero _, rfl⟩
  · rw [ln_1 q]
    exact ⟨Int.negSucc_lt_zero _, rfl⟩
theorem ln_y {b2 b3 : Bool} (hwc : ∀ j, 0 ≤ wc j ∧ wc j ≤ 24) (h2 : b2 = true ↔ ¬ st = 0 ∧ -4 ≤ st ∧ st ≤ 4) (h3 : b3 = frB pn b r) (h : okZ (decide (0 ≤ r ∧ r ≤ 4)) b2 b3 = true) : ((0 ≤ r ∧ r ≤ 4) ∧ (¬ st = 0 ∧ -4 ≤ st ∧ st ≤ 4) ∧ lfB pn (fsZ b r) (sdZ b) = true) ∧ lnF op lk kp wc pn nw sh wk b r st = (lnC wc b r nw, rotF op (fsZ b r) (sdZ b) st, rotF lk (fsZ b r) (sdZ b) st, mlK kp (fsZ b r) (sdZ b) st 6, mlK wc (fsZ b r) (sdZ b) st nw, pn, nw, sh + 1, wk) := by
  have z := okZ_t.mp h
  have z1 : 0 ≤ r ∧ r ≤ 4 := of_decide_eq_true z.1
  have z2 := h2.mp z.2.1
  have z3 := h3.symm.trans z.2.2
  exact ⟨⟨z1, z2, by rw [← frB_lf z1.1 z1.2]; exact z3⟩, ln_0 hwc z1 z2 z3⟩
end SHF
theorem lnC_t {wc : Int → Int} {b : Bool} {ln k : Int} (hk : 0 ≤ k) (h : (b = true ∧ wc k / 5 = ln) ∨ (b = false ∧ wc k % 5 = ln)) : lnC wc b ln k + 1 = lnC wc b ln (k + 1) := by
  unfold lnC
  rw [cnbK_s hk]
  rcases h with ⟨rfl, h⟩ | ⟨rfl, h⟩
  · rw [show decide ((if true = true then wc k / 5 else wc k % 5) = ln) = true from decide_eq_true h]
    rfl
  · rw [show decide ((if false = true then wc k / 5 else wc k % 5) = ln) = true from decide_eq_true h]
    rfl
theorem lnC_f {wc : Int → Int} {b : Bool} {ln k : Int} (hk : 0 ≤ k) (h : (b = true ∧ ¬ wc k / 5 = ln) ∨ (b = false ∧ ¬ wc k % 5 = ln)) : lnC wc b ln k + 0 = lnC wc b ln (k + 1) := by
  unfold lnC
  rw [cnbK_s hk]
  rcases h with ⟨rfl, h⟩ | ⟨rfl, h⟩
  · rw [show decide ((if true = true then wc k / 5 else wc k % 5) = ln) = false from decide_eq_false h]
    rfl
  · rw [show decide ((if false = true then wc k / 5 else wc k % 5) = ln) = false from decide_eq_false h]
    rfl
