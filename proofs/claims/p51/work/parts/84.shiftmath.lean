/-! ===== the shifts that help, one by one ===== -/
def fsK (k : Int) : Int := if k < 10 then k % 5 * 5 else k % 5
def sdK (k : Int) : Int := if k < 10 then 1 else 5
def stK (k : Int) : Int := if k / 5 % 2 = 0 then 1 else -1
noncomputable def aSh (B : BT) (w to fs sd st : Int) : Int := if lfB (pnT B) fs sd = true ∧ hsD (opT B) (lkT B) (kpT B) (wcT B) (nwT B) w to fs sd st < 25 then 1 else 0
noncomputable def hlK (B : BT) (w to k : Int) : Int := aSh B w to (fsK k) (sdK k) (stK k)
noncomputable def hsA (B : BT) (w to : Int) : Int := smK (fun i => hpF (opT B) (lkT B) (kpT B) (wcT B) (pnT B) (nwT B) w to (i * 5) 1 + hpF (opT B) (lkT B) (kpT B) (wcT B) (pnT B) (nwT B) w to i 5) 5
section SHM
variable {B : BT} {w to k r st z : Int} {op lk kp wc : Int → Int} {pn nw sh wk : Int}
theorem hp_a {fs sd : Int} : hpF (opT B) (lkT B) (kpT B) (wcT B) (pnT B) (nwT B) w to fs sd = aSh B w to fs sd (-1) + aSh B w to fs sd 1 := by
  unfold hpF aSh
  by_cases h : lfB (pnT B) fs sd = true
  · rw [if_pos h]
    congr 1
    · by_cases q : hsD (opT B) (lkT B) (kpT B) (wcT B) (nwT B) w to fs sd (-1) < 25
      · rw [if_pos q, if_pos ⟨h, q⟩]
      · rw [if_neg q, if_neg (fun z => q z.2)]
    · by_cases q : hsD (opT B) (lkT B) (kpT B) (wcT B) (nwT B) w to fs sd 1 < 25
      · rw [if_pos q, if_pos ⟨h, q⟩]
      · rw [if_neg q, if_neg (fun z => q z.2)]
  · rw [if_neg h, if_neg (fun z => h z.1), if_neg (fun z => h z.1)]
    rfl
theorem hs_all : smK (fun k => hlK B w to k) 20 = hsA B w to := by
  unfold hsA
  show smN _ 20 = smN _ 5
  simp only [hp_a]
  simp [smN, hlK, fsK, sdK, stK]
  omega
theorem moveF_nw {fs sd : Int} : nwT (moveF op lk kp wc pn nw sh wk fs sd st).2 = nw := by
  unfold moveF
  split
  · rfl
  · split <;> rfl
theorem rowF_nw : nwT (rowF op lk kp wc pn nw sh wk r st).2 = nw := by
  unfold rowF
  split
  · exact moveF_nw
  · rfl
theorem colF_nw : nwT (colF op lk kp wc pn nw sh wk r st).2 = nw := by
  unfold colF
  split
  · exact moveF_nw
  · rfl
theorem mv_no {fs sd : Int} (hn : 0 ≤ nw) (hs : st = 1 ∨ st = -1) (h : ¬ 0 ≤ (moveF op lk kp wc pn nw sh wk fs sd st).1) : ¬ lfB pn fs sd = true := by
  intro q
  apply h
  unfold moveF
  rw [if_neg (by omega), if_neg (by rw [q]; decide)]
  have h8 := smN_b (m := nw) (f := fun i => cntK (mlK wc fs sd st nw) (fs + i * sd) nw) (fun j => cntK_b hn) 5
  exact h8.1
theorem mv_yes {fs sd : Int} (hs : st = 1 ∨ st = -1) (h : 0 ≤ (moveF op lk kp wc pn nw sh wk fs sd st).1) : lfB pn fs sd = true ∧ (moveF op lk kp wc pn nw sh wk fs sd st).2 = (rotF op fs sd st, rotF lk fs sd st, mlK kp fs sd st 6, mlK wc fs sd st nw, pn, nw, sh + 1, wk) := by
  have hl : lfB pn fs sd = true := by
    cases q : lfB pn fs sd with
    | true => rfl
    | false =>
      unfold moveF at h
      rw [if_neg (by omega), if_pos q] at h
      exact absurd (show (0 : Int) ≤ -3 from h) (by decide)
  refine ⟨hl, ?_⟩
  unfold moveF
  rw [if_neg (by omega), if_neg (by rw [hl]; decide)]
end SHM
theorem dz_rg0 (G : Int → Int → Int) (st c : Int) : 0 ≤ dz G st c := by
  unfold dz
  split
  · split
    · rename_i h0 h
      have h1 := Classical.choose_spec h c h0.1 h0.2
      by_cases q : Classical.choose h c = 25
      · rw [q]; decide
      · exact (h1.1 q).1.1
    · decide
  · decide
noncomputable abbrev mvB (B : BT) (fs sd st : Int) : Int × BT := moveF (opT B) (lkT B) (kpT B) (wcT B) (pnT B) (nwT B) (shB B) (wkB B) fs sd st
noncomputable abbrev dzB (B : BT) (w to : Int) : Int := dz (Gw (opT B) (lkT B) (kpT B) w) (wcT B w) to
section SHL
variable {B : BT} {w to k r st z fs sd : Int} {F : Int × BT}
theorem aS_no (hn : 0 ≤ nwT B) (hs : st = 1 ∨ st = -1) (hF : F = mvB B fs sd st) (hz : 0 ≤ z ↔ 0 ≤ F.1) (h : z < 0) : aSh B w to fs sd st = 0 := by
  subst hF
  unfold aSh
  exact if_neg (fun q => mv_no hn hs (fun g => by have := hz.mpr g; omega) q.1)
theorem aS_far (hs : st = 1 ∨ st = -1) (hF : F = mvB B fs sd st) (hz : 0 ≤ z ↔ 0 ≤ F.1) (h : ¬ z < 0) (hd : aDz (dzB F.2 w to) < 0) : aSh B w to fs sd st = 0 := by
  subst hF
  obtain ⟨h1, h2⟩ := mv_yes hs (hz.mp (by omega))
  rw [show (mvB B fs sd st).2 = _ from h2] at hd
  have h3 : aDz (hsD (opT B) (lkT B) (kpT B) (wcT B) (nwT B) w to fs sd st) < 0 := hd
  unfold aSh
  refine if_neg (fun q => ?_)
  unfold aDz at h3
  rw [if_pos q.2] at h3
  have q2 := q.2
  unfold hsD at h3
  have := dz_rg0 (Gw (rotF (opT B) fs sd st) (rotF (lkT B) fs sd st) (mlK (kpT B) fs sd st 6) w) (mlK (wcT B) fs sd st (nwT B) w) to
  omega
theorem aS_near (hs : st = 1 ∨ st = -1) (hF : F = mvB B fs sd st) (hz : 0 ≤ z ↔ 0 ≤ F.1) (h : ¬ z < 0) (hd : ¬ aDz (dzB F.2 w to) < 0) : aSh B w to fs sd st = 1 := by
  subst hF
  obtain ⟨h1, h2⟩ := mv_yes hs (hz.mp (by omega))
  rw [show (mvB B fs sd st).2 = _ from h2] at hd
  have h3 : ¬ aDz (hsD (opT B) (lkT B) (kpT B) (wcT B) (nwT B) w to fs sd st) < 0 := hd
  unfold aSh
  refine if_pos ⟨h1, ?_⟩
  unfold aDz at h3
  split at h3
  · assumption
  · omega
theorem row_mv (h : 0 ≤ r ∧ r < 5) : rowF (opT B) (lkT B) (kpT B) (wcT B) (pnT B) (nwT B) (shB B) (wkB B) r st = mvB B (r * 5) 1 st := by
  unfold rowF
  rw [if_pos h]
theorem col_mv (h : 0 ≤ r ∧ r < 5) : colF (opT B) (lkT B) (kpT B) (wcT B) (pnT B) (nwT B) (shB B) (wkB B) r st = mvB B r 5 st := by
  unfold colF
  rw [if_pos h]
theorem hl_row (hk : 0 ≤ k ∧ k < 10) (hs : stK k = st) : hlK B w to k = aSh B w to (k % 5 * 5) 1 st := by
  unfold hlK fsK sdK
  rw [hs, if_pos hk.2, if_pos hk.2]
theorem hl_col (hk : ¬ k < 10) (hs : stK k = st) : hlK B w to k = aSh B w to (k % 5) 5 st := by
  unfold hlK fsK sdK
  rw [hs, if_neg hk, if_neg hk]
theorem st_p (h : k / 5 % 2 = 0) : stK k = 1 := if_pos h
theorem st_m (h : ¬ k / 5 % 2 = 0) : stK k = -1 := if_neg h
end SHL
