def rm_X7_goesTo : Room := { frames := 1, cells := 0, slots := 0, locals := 22 }
set_option maxRecDepth 100000 in
set_option maxHeartbeats 4000000 in
theorem c_X7_goesTo (l : Launch) (E : xE) (ST : xST) (hSF : SF ST) (σ : xW) (ce : Int) (ro : Bool) (ln9 : Int) (st9 : Int) (hc : 0 ≤ ce ∧ ce ≤ 24) (hl9 : 0 ≤ ln9 ∧ ln9 ≤ 4) (hs9 : -4 ≤ st9 ∧ st9 ≤ 4) : CI l E ST yX7_goesTo wsX7_goesTo rm_X7_goesTo [.int (iZ ce), .int (iZ (b2 ro)), .int (iZ ln9), .int (iZ st9)] σ (fun (z : Int) (u : xW) => z = paZ ce (fsZ ro ln9) (sdZ ro) st9 ∧ u = σ) := by
  refine CI_of (by decide) rfl (Nat.le_of_ble_eq_true rfl) ?_
  intro p e s m args below meth c Q ls G hH hl hQ
  obtain ⟨hx, hb, hml, hown, hts, hK, hST, hlocks, hr, hno⟩ := G
  have hOK := hSF.1
  have hown : s.vm.findClass RX7 = some m.cls := hown
  have hl : lv_has ls 6 [(0, .int (iZ ce)), (1, .int (iZ (b2 ro))), (2, .int (iZ ln9)), (3, .int (iZ st9))] := hl
  refine lv_iload_n hx hb dX7_goesTo_0 rfl (lv_at hl 1 rfl) ?_
  refine x_ifb_eq (tgt := 10) hx hb dX7_goesTo_1 (by decide) (fun c1 => ?_) (fun c1 => ?_)
  · refine lv_iload_n hx hb dX7_goesTo_10 rfl (lv_at hl 0 rfl) ?_
    refine x_iconst hx hb dX7_goesTo_11 ?_
    refine x_irem hx hb dX7_goesTo_12 (by omega) (by omega) (by omega) (by omega) ?_
    refine lv_istore (lv' := [(4, .int (iZ (ce % 5))), (0, .int (iZ ce)), (1, .int (iZ (b2 ro))), (2, .int (iZ ln9)), (3, .int (iZ st9))]) hx hb dX7_goesTo_13 hl (by decide) rfl (fun ls hl => ?_)
    refine lv_iload_n hx hb dX7_goesTo_15 rfl (lv_at hl 2 rfl) ?_
    refine x_ifb_eq (tgt := 25) hx hb dX7_goesTo_16 (by decide) (fun c16 => ?_) (fun c16 => ?_)
    · refine lv_iload_n hx hb dX7_goesTo_25 rfl (lv_at hl 1 rfl) ?_
      refine x_iconst hx hb dX7_goesTo_26 ?_
      refine x_idiv hx hb dX7_goesTo_27 (by omega) (by omega) (by omega) (by omega) ?_
      refine lv_istore (lv' := [(5, .int (iZ (ce / 5))), (4, .int (iZ (ce % 5))), (0, .int (iZ ce)), (1, .int (iZ (b2 ro))), (2, .int (iZ ln9)), (3, .int (iZ st9))]) hx hb dX7_goesTo_28 hl (by decide) rfl (fun ls hl => ?_)
      refine lv_iload hx hb dX7_goesTo_30 (lv_at hl 1 rfl) ?_
      refine lv_iload_n hx hb dX7_goesTo_32 rfl (lv_at hl 4 rfl) ?_
      refine x_icmp_ne (tgt := 52) hx hb dX7_goesTo_33 (by decide) (by omega) (by omega) (fun c33 => ?_) (fun c33 => ?_)
      · refine lv_iload_n hx hb dX7_goesTo_52 rfl (lv_at hl 2 rfl) ?_
        subst hQ
        exact x_iret hx hb hr hlocks hH (Nat.le_of_ble_eq_true rfl) (Nat.le_of_ble_eq_true rfl) ⟨(show ce = (paZ ce (fsZ ro ln9) (sdZ ro) st9) from (by first | (rw [cellOf_eq]; exact go_t hl9 hc (Or.inl ⟨c1, c33, rfl⟩)) | (rw [cellOf_eq]; exact go_t hl9 hc (Or.inr ⟨c1, c33, rfl⟩)) | exact go_f hl9 hc (Or.inl ⟨c1, c33⟩) | exact go_f hl9 hc (Or.inr ⟨c1, c33⟩) | exact absurd (c1.symm.trans c16) (by decide))), rfl⟩ dX7_goesTo_53
      · refine lv_iload_n hx hb dX7_goesTo_36 rfl (lv_at hl 3 rfl) ?_
        refine lv_iload_n hx hb dX7_goesTo_37 rfl (lv_at hl 4 rfl) ?_
        refine lv_iload hx hb dX7_goesTo_38 (lv_at hl 0 rfl) ?_
        refine lv_iload_n hx hb dX7_goesTo_40 rfl (lv_at hl 5 rfl) ?_
        refine x_iadd hx hb dX7_goesTo_41 ?_
        refine x_iconst hx hb dX7_goesTo_42 ?_
        refine x_iadd hx hb dX7_goesTo_43 ?_
        refine x_iconst hx hb dX7_goesTo_44 ?_
        refine x_irem hx hb dX7_goesTo_45 (by omega) (by omega) (by omega) (by omega) ?_
        refine x_cSID (As := [.int (iZ (b2 ro)), .int (iZ ln9), .int (iZ ((((ce / 5) + st9) + 5) % 5))]) (rest := []) hx hb hml hts hown hK hST hOK hH (c_X7_cellOf l E ST hSF σ ro ln9 ((((ce / 5) + st9) + 5) % 5)  (by omega) (by omega)) (va_cwS 3 hts gX7_goesTo_X7_cellOf rfl rfl rfl (by decide +kernel) ⟨Nat.le_of_ble_eq_true rfl, Nat.le_of_ble_eq_true rfl⟩) rfl hl.1 rfl (Nat.le_of_ble_eq_true rfl) dX7_goesTo_46 ⟨Nat.le_of_ble_eq_true rfl, Nat.le_of_ble_eq_true rfl⟩ (fun z u h => h) (fun H locs hH => ?_)
        refine lv_goto (tgt := 53) hx hb dX7_goesTo_49 (by decide) ?_
        subst hQ
        exact x_iret hx hb hr hlocks hH (Nat.le_of_ble_eq_true rfl) (Nat.le_of_ble_eq_true rfl) ⟨(show (if ro = true then 5 * ln9 + ((((ce / 5) + st9) + 5) % 5) else 5 * ((((ce / 5) + st9) + 5) % 5) + ln9) = (paZ ce (fsZ ro ln9) (sdZ ro) st9) from (by first | (rw [cellOf_eq]; exact go_t hl9 hc (Or.inl ⟨c1, c33, rfl⟩)) | (rw [cellOf_eq]; exact go_t hl9 hc (Or.inr ⟨c1, c33, rfl⟩)) | exact go_f hl9 hc (Or.inl ⟨c1, c33⟩) | exact go_f hl9 hc (Or.inr ⟨c1, c33⟩) | exact absurd (c1.symm.trans c16) (by decide))), rfl⟩ dX7_goesTo_53
    · refine lv_iload_n hx hb dX7_goesTo_19 rfl (lv_at hl 1 rfl) ?_
      refine x_iconst hx hb dX7_goesTo_20 ?_
      refine x_irem hx hb dX7_goesTo_21 (by omega) (by omega) (by omega) (by omega) ?_
      refine lv_goto (tgt := 28) hx hb dX7_goesTo_22 (by decide) ?_
      refine lv_istore (lv' := [(5, .int (iZ (ce % 5))), (4, .int (iZ (ce % 5))), (0, .int (iZ ce)), (1, .int (iZ (b2 ro))), (2, .int (iZ ln9)), (3, .int (iZ st9))]) hx hb dX7_goesTo_28 hl (by decide) rfl (fun ls hl => ?_)
      refine lv_iload hx hb dX7_goesTo_30 (lv_at hl 1 rfl) ?_
      refine lv_iload_n hx hb dX7_goesTo_32 rfl (lv_at hl 4 rfl) ?_
      refine x_icmp_ne (tgt := 52) hx hb dX7_goesTo_33 (by decide) (by omega) (by omega) (fun c33 => ?_) (fun c33 => ?_)
      · refine lv_iload_n hx hb dX7_goesTo_52 rfl (lv_at hl 2 rfl) ?_
        subst hQ
        exact x_iret hx hb hr hlocks hH (Nat.le_of_ble_eq_true rfl) (Nat.le_of_ble_eq_true rfl) ⟨(show ce = (paZ ce (fsZ ro ln9) (sdZ ro) st9) from (by first | (rw [cellOf_eq]; exact go_t hl9 hc (Or.inl ⟨c1, c33, rfl⟩)) | (rw [cellOf_eq]; exact go_t hl9 hc (Or.inr ⟨c1, c33, rfl⟩)) | exact go_f hl9 hc (Or.inl ⟨c1, c33⟩) | exact go_f hl9 hc (Or.inr ⟨c1, c33⟩) | exact absurd (c1.symm.trans c16) (by decide))), rfl⟩ dX7_goesTo_53
      · refine lv_iload_n hx hb dX7_goesTo_36 rfl (lv_at hl 3 rfl) ?_
        refine lv_iload_n hx hb dX7_goesTo_37 rfl (lv_at hl 4 rfl) ?_
        refine lv_iload hx hb dX7_goesTo_38 (lv_at hl 0 rfl) ?_
        refine lv_iload_n hx hb dX7_goesTo_40 rfl (lv_at hl 5 rfl) ?_
        refine x_iadd hx hb dX7_goesTo_41 ?_
        refine x_iconst hx hb dX7_goesTo_42 ?_
        refine x_iadd hx hb dX7_goesTo_43 ?_
        refine x_iconst hx hb dX7_goesTo_44 ?_
        refine x_irem hx hb dX7_goesTo_45 (by omega) (by omega) (by omega) (by omega) ?_
        refine x_cSID (As := [.int (iZ (b2 ro)), .int (iZ ln9), .int (iZ ((((ce % 5) + st9) + 5) % 5))]) (rest := []) hx hb hml hts hown hK hST hOK hH (c_X7_cellOf l E ST hSF σ ro ln9 ((((ce % 5) + st9) + 5) % 5)  (by omega) (by omega)) (va_cwS 3 hts gX7_goesTo_X7_cellOf rfl rfl rfl (by decide +kernel) ⟨Nat.le_of_ble_eq_true rfl, Nat.le_of_ble_eq_true rfl⟩) rfl hl.1 rfl (Nat.le_of_ble_eq_true rfl) dX7_goesTo_46 ⟨Nat.le_of_ble_eq_true rfl, Nat.le_of_ble_eq_true rfl⟩ (fun z u h => h) (fun H locs hH => ?_)
        refine lv_goto (tgt := 53) hx hb dX7_goesTo_49 (by decide) ?_
        subst hQ
        exact x_iret hx hb hr hlocks hH (Nat.le_of_ble_eq_true rfl) (Nat.le_of_ble_eq_true rfl) ⟨(show (if ro = true then 5 * ln9 + ((((ce % 5) + st9) + 5) % 5) else 5 * ((((ce % 5) + st9) + 5) % 5) + ln9) = (paZ ce (fsZ ro ln9) (sdZ ro) st9) from (by first | (rw [cellOf_eq]; exact go_t hl9 hc (Or.inl ⟨c1, c33, rfl⟩)) | (rw [cellOf_eq]; exact go_t hl9 hc (Or.inr ⟨c1, c33, rfl⟩)) | exact go_f hl9 hc (Or.inl ⟨c1, c33⟩) | exact go_f hl9 hc (Or.inr ⟨c1, c33⟩) | exact absurd (c1.symm.trans c16) (by decide))), rfl⟩ dX7_goesTo_53
  · refine lv_iload_n hx hb dX7_goesTo_4 rfl (lv_at hl 0 rfl) ?_
    refine x_iconst hx hb dX7_goesTo_5 ?_
    refine x_idiv hx hb dX7_goesTo_6 (by omega) (by omega) (by omega) (by omega) ?_
    refine lv_goto (tgt := 13) hx hb dX7_goesTo_7 (by decide) ?_
    refine lv_istore (lv' := [(4, .int (iZ (ce / 5))), (0, .int (iZ ce)), (1, .int (iZ (b2 ro))), (2, .int (iZ ln9)), (3, .int (iZ st9))]) hx hb dX7_goesTo_13 hl (by decide) rfl (fun ls hl => ?_)
    refine lv_iload_n hx hb dX7_goesTo_15 rfl (lv_at hl 2 rfl) ?_
    refine x_ifb_eq (tgt := 25) hx hb dX7_goesTo_16 (by decide) (fun c16 => ?_) (fun c16 => ?_)
    · refine lv_iload_n hx hb dX7_goesTo_25 rfl (lv_at hl 1 rfl) ?_
      refine x_iconst hx hb dX7_goesTo_26 ?_
      refine x_idiv hx hb dX7_goesTo_27 (by omega) (by omega) (by omega) (by omega) ?_
      refine lv_istore (lv' := [(5, .int (iZ (ce / 5))), (4, .int (iZ (ce / 5))), (0, .int (iZ ce)), (1, .int (iZ (b2 ro))), (2, .int (iZ ln9)), (3, .int (iZ st9))]) hx hb dX7_goesTo_28 hl (by decide) rfl (fun ls hl => ?_)
      refine lv_iload hx hb dX7_goesTo_30 (lv_at hl 1 rfl) ?_
      refine lv_iload_n hx hb dX7_goesTo_32 rfl (lv_at hl 4 rfl) ?_
      refine x_icmp_ne (tgt := 52) hx hb dX7_goesTo_33 (by decide) (by omega) (by omega) (fun c33 => ?_) (fun c33 => ?_)
      · refine lv_iload_n hx hb dX7_goesTo_52 rfl (lv_at hl 2 rfl) ?_
        subst hQ
        exact x_iret hx hb hr hlocks hH (Nat.le_of_ble_eq_true rfl) (Nat.le_of_ble_eq_true rfl) ⟨(show ce = (paZ ce (fsZ ro ln9) (sdZ ro) st9) from (by first | (rw [cellOf_eq]; exact go_t hl9 hc (Or.inl ⟨c1, c33, rfl⟩)) | (rw [cellOf_eq]; exact go_t hl9 hc (Or.inr ⟨c1, c33, rfl⟩)) | exact go_f hl9 hc (Or.inl ⟨c1, c33⟩) | exact go_f hl9 hc (Or.inr ⟨c1, c33⟩) | exact absurd (c1.symm.trans c16) (by decide))), rfl⟩ dX7_goesTo_53
      · refine lv_iload_n hx hb dX7_goesTo_36 rfl (lv_at hl 3 rfl) ?_
        refine lv_iload_n hx hb dX7_goesTo_37 rfl (lv_at hl 4 rfl) ?_
        refine lv_iload hx hb dX7_goesTo_38 (lv_at hl 0 rfl) ?_
        refine lv_iload_n hx hb dX7_goesTo_40 rfl (lv_at hl 5 rfl) ?_
        refine x_iadd hx hb dX7_goesTo_41 ?_
        refine x_iconst hx hb dX7_goesTo_42 ?_
        refine x_iadd hx hb dX7_goesTo_43 ?_
        refine x_iconst hx hb dX7_goesTo_44 ?_
        refine x_irem hx hb dX7_goesTo_45 (by omega) (by omega) (by omega) (by omega) ?_
        refine x_cSID (As := [.int (iZ (b2 ro)), .int (iZ ln9), .int (iZ ((((ce / 5) + st9) + 5) % 5))]) (rest := []) hx hb hml hts hown hK hST hOK hH (c_X7_cellOf l E ST hSF σ ro ln9 ((((ce / 5) + st9) + 5) % 5)  (by omega) (by omega)) (va_cwS 3 hts gX7_goesTo_X7_cellOf rfl rfl rfl (by decide +kernel) ⟨Nat.le_of_ble_eq_true rfl, Nat.le_of_ble_eq_true rfl⟩) rfl hl.1 rfl (Nat.le_of_ble_eq_true rfl) dX7_goesTo_46 ⟨Nat.le_of_ble_eq_true rfl, Nat.le_of_ble_eq_true rfl⟩ (fun z u h => h) (fun H locs hH => ?_)
        refine lv_goto (tgt := 53) hx hb dX7_goesTo_49 (by decide) ?_
        subst hQ
        exact x_iret hx hb hr hlocks hH (Nat.le_of_ble_eq_true rfl) (Nat.le_of_ble_eq_true rfl) ⟨(show (if ro = true then 5 * ln9 + ((((ce / 5) + st9) + 5) % 5) else 5 * ((((ce / 5) + st9) + 5) % 5) + ln9) = (paZ ce (fsZ ro ln9) (sdZ ro) st9) from (by first | (rw [cellOf_eq]; exact go_t hl9 hc (Or.inl ⟨c1, c33, rfl⟩)) | (rw [cellOf_eq]; exact go_t hl9 hc (Or.inr ⟨c1, c33, rfl⟩)) | exact go_f hl9 hc (Or.inl ⟨c1, c33⟩) | exact go_f hl9 hc (Or.inr ⟨c1, c33⟩) | exact absurd (c1.symm.trans c16) (by decide))), rfl⟩ dX7_goesTo_53
    · refine lv_iload_n hx hb dX7_goesTo_19 rfl (lv_at hl 1 rfl) ?_
      refine x_iconst hx hb dX7_goesTo_20 ?_
      refine x_irem hx hb dX7_goesTo_21 (by omega) (by omega) (by omega) (by omega) ?_
      refine lv_goto (tgt := 28) hx hb dX7_goesTo_22 (by decide) ?_
      refine lv_istore (lv' := [(5, .int (iZ (ce % 5))), (4, .int (iZ (ce / 5))), (0, .int (iZ ce)), (1, .int (iZ (b2 ro))), (2, .int (iZ ln9)), (3, .int (iZ st9))]) hx hb dX7_goesTo_28 hl (by decide) rfl (fun ls hl => ?_)
      refine lv_iload hx hb dX7_goesTo_30 (lv_at hl 1 rfl) ?_
      refine lv_iload_n hx hb dX7_goesTo_32 rfl (lv_at hl 4 rfl) ?_
      refine x_icmp_ne (tgt := 52) hx hb dX7_goesTo_33 (by decide) (by omega) (by omega) (fun c33 => ?_) (fun c33 => ?_)
      · refine lv_iload_n hx hb dX7_goesTo_52 rfl (lv_at hl 2 rfl) ?_
        subst hQ
        exact x_iret hx hb hr hlocks hH (Nat.le_of_ble_eq_true rfl) (Nat.le_of_ble_eq_true rfl) ⟨(show ce = (paZ ce (fsZ ro ln9) (sdZ ro) st9) from (by first | (rw [cellOf_eq]; exact go_t hl9 hc (Or.inl ⟨c1, c33, rfl⟩)) | (rw [cellOf_eq]; exact go_t hl9 hc (Or.inr ⟨c1, c33, rfl⟩)) | exact go_f hl9 hc (Or.inl ⟨c1, c33⟩) | exact go_f hl9 hc (Or.inr ⟨c1, c33⟩) | exact absurd (c1.symm.trans c16) (by decide))), rfl⟩ dX7_goesTo_53
      · refine lv_iload_n hx hb dX7_goesTo_36 rfl (lv_at hl 3 rfl) ?_
        refine lv_iload_n hx hb dX7_goesTo_37 rfl (lv_at hl 4 rfl) ?_
        refine lv_iload hx hb dX7_goesTo_38 (lv_at hl 0 rfl) ?_
        refine lv_iload_n hx hb dX7_goesTo_40 rfl (lv_at hl 5 rfl) ?_
        refine x_iadd hx hb dX7_goesTo_41 ?_
        refine x_iconst hx hb dX7_goesTo_42 ?_
        refine x_iadd hx hb dX7_goesTo_43 ?_
        refine x_iconst hx hb dX7_goesTo_44 ?_
        refine x_irem hx hb dX7_goesTo_45 (by omega) (by omega) (by omega) (by omega) ?_
        refine x_cSID (As := [.int (iZ (b2 ro)), .int (iZ ln9), .int (iZ ((((ce % 5) + st9) + 5) % 5))]) (rest := []) hx hb hml hts hown hK hST hOK hH (c_X7_cellOf l E ST hSF σ ro ln9 ((((ce % 5) + st9) + 5) % 5)  (by omega) (by omega)) (va_cwS 3 hts gX7_goesTo_X7_cellOf rfl rfl rfl (by decide +kernel) ⟨Nat.le_of_ble_eq_true rfl, Nat.le_of_ble_eq_true rfl⟩) rfl hl.1 rfl (Nat.le_of_ble_eq_true rfl) dX7_goesTo_46 ⟨Nat.le_of_ble_eq_true rfl, Nat.le_of_ble_eq_true rfl⟩ (fun z u h => h) (fun H locs hH => ?_)
        refine lv_goto (tgt := 53) hx hb dX7_goesTo_49 (by decide) ?_
        subst hQ
        exact x_iret hx hb hr hlocks hH (Nat.le_of_ble_eq_true rfl) (Nat.le_of_ble_eq_true rfl) ⟨(show (if ro = true then 5 * ln9 + ((((ce % 5) + st9) + 5) % 5) else 5 * ((((ce % 5) + st9) + 5) % 5) + ln9) = (paZ ce (fsZ ro ln9) (sdZ ro) st9) from (by first | (rw [cellOf_eq]; exact go_t hl9 hc (Or.inl ⟨c1, c33, rfl⟩)) | (rw [cellOf_eq]; exact go_t hl9 hc (Or.inr ⟨c1, c33, rfl⟩)) | exact go_f hl9 hc (Or.inl ⟨c1, c33⟩) | exact go_f hl9 hc (Or.inr ⟨c1, c33⟩) | exact absurd (c1.symm.trans c16) (by decide))), rfl⟩ dX7_goesTo_53

def rm_X7_slides : Room := { frames := 2, cells := 0, slots := 0, locals := 47 }
set_option maxRecDepth 100000 in
set_option maxHeartbeats 4000000 in
theorem c_X7_slides (l : Launch) (E : xE) (ST : xST) (hSF : SF ST) (σ : xW) (ro : Bool) (ln9 : Int) (st9 : Int) (op : Int → Int) (lk : Int → Int) (kp : Int → Int) (wc : Int → Int) (pn : Int) (nw : Int) (sh : Int) (wk : Int) (sv : Bool) (re : Int) (ea : Int) (fa : Int) (ty : Int) (li : Int) (th : Int) (sz : Int) (sp : Int) (wr : Int) (to : Int) (v : Int → Int) (mv : Int → Int) (hr0 : mo E σ sv re ea fa ty li th sz sp wr to) (hr1 : now E σ v) (hr2 : mov E σ mv) (hC : Cp v op lk kp wc pn nw sh wk) (hB : BI op lk kp wc pn nw) (hl9 : 0 ≤ ln9 ∧ ln9 ≤ 4) (hs9 : -4 ≤ st9 ∧ st9 ≤ 4) (hf9 : lfB pn (fsZ ro ln9) (sdZ ro) = true) : CV l E ST yX7_slides wsX7_slides rm_X7_slides [.ref (xad E 85), .int (iZ (b2 ro)), .int (iZ ln9), .int (iZ st9)] σ (fun (u : xW) => (∃ (v1 m1 : Int → Int), mo E u sv re ea fa ty li th sz sp wr to ∧ now E u v1 ∧ mov E u m1 ∧ (Cp v1 (rotF op (fsZ ro ln9) (sdZ ro) st9) (rotF lk (fsZ ro ln9) (sdZ ro) st9) (mlK kp (fsZ ro ln9) (sdZ ro) st9 6) (mlK wc (fsZ ro ln9) (sdZ ro) st9 nw) pn nw sh wk)) ∧ ∀ j : Nat, j ≠ 86 → j ≠ 91 → u j = σ j) := by
  have f85 : σ 85 = oB 5 [.ref (xad E 86), .ref (xad E 87), .ref (xad E 88), .ref (xad E 89), .ref (xad E 90), .int (iZ (b2 sv)), .int (iZ re), .int (iZ ea), .int (iZ fa), .ref (xad E 91), .ref (xad E 92), .ref (xad E 93), .int (iZ ty), .ref (xad E 94), .int (iZ li), .int (iZ th), .int (iZ sz), .int (iZ sp), .int (iZ wr), .int (iZ to), .ref (xad E 95)] := hr0
  have f86 : σ 86 = aI E 87 v := hr1
  have f91 : σ 91 = aI E 15 mv := hr2
  refine CV_of (by decide) rfl (Nat.le_of_ble_eq_true rfl) ?_
  intro p e s m args below meth c Q ls G hH hl hQ
  obtain ⟨hx, hb, hml, hown, hts, hK, hST, hlocks, hr, hno⟩ := G
  have hOK := hSF.1
  have hown : s.vm.findClass RX7 = some m.cls := hown
  have hl : lv_has ls 7 [(0, .ref (xad E 85)), (1, .int (iZ (b2 ro))), (2, .int (iZ ln9)), (3, .int (iZ st9))] := hl
  have hinX7 : ∀ w ∈ u_ws RX7 TX7 21, w ∈ wsX7_slides := fun w h => (List.mem_cons_of_mem _ (List.mem_append_right _ h))
  obtain ⟨hop, hlk, hkp, hwc, hpn, hnw⟩ := id hB
  have hvR := hC.R
  have hv0 := hC.1.1
  have hL := fs_lin (b := ro) hl9.1 hl9.2
  refine x_iconst hx hb dX7_slides_0 ?_
  refine lv_istore (lv' := [(4, .int (iZ 0)), (0, .ref (xad E 85)), (1, .int (iZ (b2 ro))), (2, .int (iZ ln9)), (3, .int (iZ st9))]) hx hb dX7_slides_1 hl (by decide) rfl (fun ls hl => ?_)
  have K3 : ∀ (nK : Nat) (i : Int) (g : Int → Int) (σ1 : xW) (H : Heap) (locs : List Loc) (ls : Array Slot), (5 - i).toNat < nK → (0 ≤ i ∧ i ≤ 5) → (mvI v (fsZ ro ln9) (sdZ ro) st9 i 0 g) → σ1 85 = oB 5 [.ref (xad E 86), .ref (xad E 87), .ref (xad E 88), .ref (xad E 89), .ref (xad E 90), .int (iZ (b2 sv)), .int (iZ re), .int (iZ ea), .int (iZ fa), .ref (xad E 91), .ref (xad E 92), .ref (xad E 93), .int (iZ ty), .ref (xad E 94), .int (iZ li), .int (iZ th), .int (iZ sz), .int (iZ sp), .int (iZ wr), .int (iZ to), .ref (xad E 95)] → σ1 86 = aI E 87 v → σ1 91 = aI E 15 g → (∀ j : Nat, j ≠ 91 → σ1 j = σ j) → Hx E (xA E s.heap.size) s.heap σ1 H locs → lv_has ls 7 [(4, .int (iZ i)), (0, .ref (xad E 85)), (1, .int (iZ (b2 ro))), (2, .int (iZ ln9)), (3, .int (iZ st9))] → W p l e rm_X7_slides s m args below meth c H locs 0 0 Q (F0 m 3 ls []) := by
    intro n3
    induction n3 with
    | zero =>
      intro i g σ1 H locs ls hm
      exact absurd hm (by first | exact Nat.not_lt_zero _ | omega)
    | succ n3 ih3 =>
      intro i g σ1 H locs ls hm3 hi hg f85 f86 f91 fr2 hH hl
      refine lv_iload hx hb dX7_slides_3 (lv_at hl 0 rfl) ?_
      refine x_iconst hx hb dX7_slides_5 ?_
      refine x_icmp_ge (tgt := 65) hx hb dX7_slides_6 (by decide) (by omega) (by decide) (fun c6 => ?_) (fun c6 => ?_)
      · have hgm : mvI v (fsZ ro ln9) (sdZ ro) st9 5 0 g := (by have e9 : i = 5 := (by omega); rw [← e9]; exact hg)
        refine x_iconst hx hb dX7_slides_65 ?_
        refine lv_istore (lv' := [(4, .int (iZ 0)), (0, .ref (xad E 85)), (1, .int (iZ (b2 ro))), (2, .int (iZ ln9)), (3, .int (iZ st9))]) hx hb dX7_slides_66 hl (by decide) rfl (fun ls hl => ?_)
        have K68 : ∀ (nK : Nat) (i3 : Int) (u3 : Int → Int) (σ3 : xW) (H : Heap) (locs : List Loc) (ls : Array Slot), (5 - i3).toNat < nK → (0 ≤ i3 ∧ i3 ≤ 5) → (slI v (fsZ ro ln9) (sdZ ro) st9 i3 0 u3) → (∀ j : Int, rg (u3 j)) → σ3 85 = oB 5 [.ref (xad E 86), .ref (xad E 87), .ref (xad E 88), .ref (xad E 89), .ref (xad E 90), .int (iZ (b2 sv)), .int (iZ re), .int (iZ ea), .int (iZ fa), .ref (xad E 91), .ref (xad E 92), .ref (xad E 93), .int (iZ ty), .ref (xad E 94), .int (iZ li), .int (iZ th), .int (iZ sz), .int (iZ sp), .int (iZ wr), .int (iZ to), .ref (xad E 95)] → σ3 86 = aI E 87 u3 → σ3 91 = aI E 15 g → (∀ j : Nat, j ≠ 86 → σ3 j = σ1 j) → Hx E (xA E s.heap.size) s.heap σ3 H locs → lv_has ls 7 [(4, .int (iZ i3)), (0, .ref (xad E 85)), (1, .int (iZ (b2 ro))), (2, .int (iZ ln9)), (3, .int (iZ st9))] → W p l e rm_X7_slides s m args below meth c H locs 0 0 Q (F0 m 68 ls []) := by
          intro n68
          induction n68 with
          | zero =>
            intro i3 u3 σ3 H locs ls hm
            exact absurd hm (by first | exact Nat.not_lt_zero _ | omega)
          | succ n68 ih68 =>
            intro i3 u3 σ3 H locs ls hm68 hi3 hu3 hu3r f85 f86 f91 fr4 hH hl
            refine lv_iload hx hb dX7_slides_68 (lv_at hl 0 rfl) ?_
            refine x_iconst hx hb dX7_slides_70 ?_
            refine x_icmp_ge (tgt := 125) hx hb dX7_slides_71 (by decide) (by omega) (by decide) (fun c71 => ?_) (fun c71 => ?_)
            · have hsl : slI v (fsZ ro ln9) (sdZ ro) st9 5 0 u3 := (by have e9 : i3 = 5 := (by omega); rw [← e9]; exact hu3)
              refine x_iconst hx hb dX7_slides_125 ?_
              refine lv_istore (lv' := [(4, .int (iZ 0)), (0, .ref (xad E 85)), (1, .int (iZ (b2 ro))), (2, .int (iZ ln9)), (3, .int (iZ st9))]) hx hb dX7_slides_126 hl (by decide) rfl (fun ls hl => ?_)
              have K128 : ∀ (nK : Nat) (k5 : Int) (u5 : Int → Int) (σ5 : xW) (H : Heap) (locs : List Loc) (ls : Array Slot), (6 - k5).toNat < nK → (0 ≤ k5 ∧ k5 ≤ 6) → (u5 = kyK u3 (fsZ ro ln9) (sdZ ro) st9 kp k5) → (∀ j : Int, rg (u5 j)) → σ5 85 = oB 5 [.ref (xad E 86), .ref (xad E 87), .ref (xad E 88), .ref (xad E 89), .ref (xad E 90), .int (iZ (b2 sv)), .int (iZ re), .int (iZ ea), .int (iZ fa), .ref (xad E 91), .ref (xad E 92), .ref (xad E 93), .int (iZ ty), .ref (xad E 94), .int (iZ li), .int (iZ th), .int (iZ sz), .int (iZ sp), .int (iZ wr), .int (iZ to), .ref (xad E 95)] → σ5 86 = aI E 87 u5 → σ5 91 = aI E 15 g → (∀ j : Nat, j ≠ 86 → σ5 j = σ3 j) → Hx E (xA E s.heap.size) s.heap σ5 H locs → lv_has ls 7 [(4, .int (iZ k5)), (0, .ref (xad E 85)), (1, .int (iZ (b2 ro))), (2, .int (iZ ln9)), (3, .int (iZ st9))] → W p l e rm_X7_slides s m args below meth c H locs 0 0 Q (F0 m 128 ls []) := by
                intro n128
                induction n128 with
                | zero =>
                  intro k5 u5 σ5 H locs ls hm
                  exact absurd hm (by first | exact Nat.not_lt_zero _ | omega)
                | succ n128 ih128 =>
                  intro k5 u5 σ5 H locs ls hm128 hk5 hu5 hu5r f85 f86 f91 fr6 hH hl
                  refine lv_iload hx hb dX7_slides_128 (lv_at hl 0 rfl) ?_
                  refine x_bipush hx hb dX7_slides_130 (by decide) ?_
                  refine x_icmp_ge (tgt := 185) hx hb dX7_slides_132 (by decide) (by omega) (by decide) (fun c132 => ?_) (fun c132 => ?_)
                  · refine x_iconst hx hb dX7_slides_185 ?_
                    refine lv_istore (lv' := [(4, .int (iZ 0)), (0, .ref (xad E 85)), (1, .int (iZ (b2 ro))), (2, .int (iZ ln9)), (3, .int (iZ st9))]) hx hb dX7_slides_186 hl (by decide) rfl (fun ls hl => ?_)
                    have K188 : ∀ (nK : Nat) (k6 : Int) (u6 : Int → Int) (σ7 : xW) (H : Heap) (locs : List Loc) (ls : Array Slot), (nw - k6).toNat < nK → (0 ≤ k6 ∧ k6 ≤ nw) → (u6 = wkK (kyK u3 (fsZ ro ln9) (sdZ ro) st9 kp 6) (fsZ ro ln9) (sdZ ro) st9 wc k6) → (∀ j : Int, rg (u6 j)) → σ7 85 = oB 5 [.ref (xad E 86), .ref (xad E 87), .ref (xad E 88), .ref (xad E 89), .ref (xad E 90), .int (iZ (b2 sv)), .int (iZ re), .int (iZ ea), .int (iZ fa), .ref (xad E 91), .ref (xad E 92), .ref (xad E 93), .int (iZ ty), .ref (xad E 94), .int (iZ li), .int (iZ th), .int (iZ sz), .int (iZ sp), .int (iZ wr), .int (iZ to), .ref (xad E 95)] → σ7 86 = aI E 87 u6 → σ7 91 = aI E 15 g → (∀ j : Nat, j ≠ 86 → σ7 j = σ5 j) → Hx E (xA E s.heap.size) s.heap σ7 H locs → lv_has ls 7 [(4, .int (iZ k6)), (0, .ref (xad E 85)), (1, .int (iZ (b2 ro))), (2, .int (iZ ln9)), (3, .int (iZ st9))] → W p l e rm_X7_slides s m args below meth c H locs 0 0 Q (F0 m 188 ls []) := by
                      intro n188
                      induction n188 with
                      | zero =>
                        intro k6 u6 σ7 H locs ls hm
                        exact absurd hm (by first | exact Nat.not_lt_zero _ | omega)
                      | succ n188 ih188 =>
                        intro k6 u6 σ7 H locs ls hm188 hk6 hu6 hu6r f85 f86 f91 fr8 hH hl
                        refine lv_iload hx hb dX7_slides_188 (lv_at hl 0 rfl) ?_
                        refine lv_aload_n hx hb dX7_slides_190 rfl (lv_at hl 1 rfl) ?_
                        refine x_get hx hb hts hown hK hH 85 (by decide) f85 hinX7 rfl 0 (by decide) (List.mem_of_getElem? (i := 2) rfl) rfl dX7_slides_191 ?_
                        refine x_iconst hx hb dX7_slides_194 ?_
                        refine x_iald hx hb hK hH 86 (by decide) f86 (by omega) (by omega) (by omega) dX7_slides_195 ?_
                        have hv9 := hu6r 0
                        rw [show u6 0 = nw by rw [hu6, wkK_n (by omega), kyK_n (by omega), hsl.1 0 (by omega) (by omega)]; exact hv0]
                        refine x_icmp_ge (tgt := 231) hx hb dX7_slides_196 (by decide) (by omega) (by omega) (fun c196 => ?_) (fun c196 => ?_)
                        · subst hQ
                          exact x_vret hx hb hr hlocks hH (Nat.le_of_ble_eq_true rfl) (Nat.le_of_ble_eq_true rfl) ⟨⟨u6, g, f85, f86, f91, (by have e9 : k6 = nw := (by omega); subst e9; rw [hu6]; exact Cp_sl hC hB hL hf9 hsl hu3r)⟩, fun j hj0 hj1 => ((fr8 j (by omega)).trans ((fr6 j (by omega)).trans ((fr4 j (by omega)).trans (fr2 j (by omega)))))⟩ dX7_slides_231
                        · have hwa : u6 (9 + k6) = wc k6 := (by rw [hu6, wkK_n (by omega), kyK_n (by omega), hsl.1 _ (by omega) (by omega)]; exact hC.wal (by omega) (by omega))
                          have hwq := hwc k6
                          refine lv_aload_n hx hb dX7_slides_199 rfl (lv_at hl 1 rfl) ?_
                          refine x_get hx hb hts hown hK hH 85 (by decide) f85 hinX7 rfl 0 (by decide) (List.mem_of_getElem? (i := 2) rfl) rfl dX7_slides_200 ?_
                          refine x_bipush hx hb dX7_slides_203 (by decide) ?_
                          refine lv_iload hx hb dX7_slides_205 (lv_at hl 0 rfl) ?_
                          refine x_iadd hx hb dX7_slides_207 ?_
                          refine lv_aload_n hx hb dX7_slides_208 rfl (lv_at hl 1 rfl) ?_
                          refine x_get hx hb hts hown hK hH 85 (by decide) f85 hinX7 rfl 0 (by decide) (List.mem_of_getElem? (i := 2) rfl) rfl dX7_slides_209 ?_
                          refine x_bipush hx hb dX7_slides_212 (by decide) ?_
                          refine lv_iload hx hb dX7_slides_214 (lv_at hl 0 rfl) ?_
                          refine x_iadd hx hb dX7_slides_216 ?_
                          refine x_iald hx hb hK hH 86 (by decide) f86 (by omega) (by omega) (by omega) dX7_slides_217 ?_
                          have hv10 := hu6r (9 + k6)
                          rw [hwa]
                          refine lv_iload_n hx hb dX7_slides_218 rfl (lv_at hl 2 rfl) ?_
                          refine lv_iload_n hx hb dX7_slides_219 rfl (lv_at hl 3 rfl) ?_
                          refine lv_iload_n hx hb dX7_slides_220 rfl (lv_at hl 4 rfl) ?_
                          refine x_cSID (As := [.int (iZ (wc k6)), .int (iZ (b2 ro)), .int (iZ ln9), .int (iZ st9)]) (rest := [.int (iZ (9 + k6)), .ref (xad E 86)]) hx hb hml hts hown hK hST hOK hH (c_X7_goesTo l E ST hSF σ7 (wc k6) ro ln9 st9  (by omega) (by omega) (by omega)) (va_cwS 4 hts gX7_slides_X7_goesTo rfl rfl rfl (by decide +kernel) ⟨Nat.le_of_ble_eq_true rfl, Nat.le_of_ble_eq_true rfl⟩) rfl hl.1 rfl (Nat.le_of_ble_eq_true rfl) dX7_slides_221 ⟨Nat.le_of_ble_eq_true rfl, Nat.le_of_ble_eq_true rfl⟩ (fun z u h => h) (fun H locs hH => ?_)
                          refine x_iast hx hb hK hH 86 (by decide) f86 (by omega) (by omega) (by omega) dX7_slides_224 (fun σ14 H locs f86 fr15 hH => ?_)
                          have f85 : σ14 85 = oB 5 [.ref (xad E 86), .ref (xad E 87), .ref (xad E 88), .ref (xad E 89), .ref (xad E 90), .int (iZ (b2 sv)), .int (iZ re), .int (iZ ea), .int (iZ fa), .ref (xad E 91), .ref (xad E 92), .ref (xad E 93), .int (iZ ty), .ref (xad E 94), .int (iZ li), .int (iZ th), .int (iZ sz), .int (iZ sp), .int (iZ wr), .int (iZ to), .ref (xad E 95)] := (fr15 85 (by omega)).trans f85
                          have f91 : σ14 91 = aI E 15 g := (fr15 91 (by omega)).trans f91
                          refine x_iinc (lv' := [(4, .int (iZ (k6 + 1))), (0, .ref (xad E 85)), (1, .int (iZ (b2 ro))), (2, .int (iZ ln9)), (3, .int (iZ st9))]) hx hb dX7_slides_225 hl (k := 0) rfl (by decide) rfl (fun ls hl => ?_)
                          refine lv_goto (tgt := 188) hx hb dX7_slides_228 (by decide) ?_
                          exact ih188 (k6 + 1) (ui u6 (9 + k6) (paZ (wc k6) (fsZ ro ln9) (sdZ ro) st9)) σ14 _ _ _ (by omega) (by omega) (by rw [hu6]; exact wkK_s hk6.1 rfl) (by refine ui_rg hu6r ?_; have h8 := paZ_rg (st := st9) hL (hwc k6).1 (hwc k6).2; unfold rg; omega) f85 f86 f91 (fun j hj0 => ((fr15 j (by omega)).trans (fr8 j (by omega)))) hH (lv_sub hl [0, 1, 2, 3, 4] rfl)
                    exact K188 4 0 u5 σ5 _ _ _ (by first | omega | decide) (by omega) (by have e9 : k5 = 6 := (by omega); subst e9; rw [hu5]; exact wkK_0.symm) (by exact hu5r) f85 f86 f91 (fun j _ => rfl) hH (lv_sub hl [0, 1, 2, 3, 4] rfl)
                  · have hat : u5 (3 + k5) = kM (kp k5) := (by rw [hu5, kyK_n (by omega), hsl.1 _ (by omega) (by omega)]; exact hC.key (by omega) (by omega))
                    refine lv_aload_n hx hb dX7_slides_135 rfl (lv_at hl 1 rfl) ?_
                    refine x_get hx hb hts hown hK hH 85 (by decide) f85 hinX7 rfl 0 (by decide) (List.mem_of_getElem? (i := 2) rfl) rfl dX7_slides_136 ?_
                    refine x_iconst hx hb dX7_slides_139 ?_
                    refine lv_iload hx hb dX7_slides_140 (lv_at hl 0 rfl) ?_
                    refine x_iadd hx hb dX7_slides_142 ?_
                    refine x_iald hx hb hK hH 86 (by decide) f86 (by omega) (by omega) (by omega) dX7_slides_143 ?_
                    have hv16 := hu5r (3 + k5)
                    refine lv_istore (lv' := [(5, .int (iZ (u5 (3 + k5)))), (4, .int (iZ k5)), (0, .ref (xad E 85)), (1, .int (iZ (b2 ro))), (2, .int (iZ ln9)), (3, .int (iZ st9))]) hx hb dX7_slides_144 hl (by decide) rfl (fun ls hl => ?_)
                    refine lv_aload_n hx hb dX7_slides_146 rfl (lv_at hl 2 rfl) ?_
                    refine x_get hx hb hts hown hK hH 85 (by decide) f85 hinX7 rfl 0 (by decide) (List.mem_of_getElem? (i := 2) rfl) rfl dX7_slides_147 ?_
                    refine x_iconst hx hb dX7_slides_150 ?_
                    refine lv_iload hx hb dX7_slides_151 (lv_at hl 1 rfl) ?_
                    refine x_iadd hx hb dX7_slides_153 ?_
                    refine lv_iload hx hb dX7_slides_154 (lv_at hl 0 rfl) ?_
                    refine x_iconst hx hb dX7_slides_156 ?_
                    refine x_bipush hx hb dX7_slides_157 (by decide) ?_
                    refine x_cSID (As := [.int (iZ (u5 (3 + k5))), .int (iZ 0), .int (iZ 24)]) (rest := [.int (iZ (3 + k5)), .ref (xad E 86)]) hx hb hml hts hown hK hST hOK hH (c_X7_isIn l E ST hSF σ5 (u5 (3 + k5)) 0 24  (by omega) (by omega) (by omega)) (va_cwS 3 hts gX7_slides_X7_isIn rfl rfl rfl (by decide +kernel) ⟨Nat.le_of_ble_eq_true rfl, Nat.le_of_ble_eq_true rfl⟩) rfl hl.1 rfl (Nat.le_of_ble_eq_true rfl) dX7_slides_159 ⟨Nat.le_of_ble_eq_true rfl, Nat.le_of_ble_eq_true rfl⟩ (fun z u h => h) (fun H locs hH => ?_)
                    refine x_ifb_eq (tgt := 176) hx hb dX7_slides_162 (by decide) (fun c162 => ?_) (fun c162 => ?_)
                    · have c162 := of_decide_eq_false c162
                      refine lv_iload hx hb dX7_slides_176 (lv_at hl 0 rfl) ?_
                      refine x_iast hx hb hK hH 86 (by decide) f86 (by omega) (by omega) (by omega) dX7_slides_178 (fun σ20 H locs f86 fr21 hH => ?_)
                      have f85 : σ20 85 = oB 5 [.ref (xad E 86), .ref (xad E 87), .ref (xad E 88), .ref (xad E 89), .ref (xad E 90), .int (iZ (b2 sv)), .int (iZ re), .int (iZ ea), .int (iZ fa), .ref (xad E 91), .ref (xad E 92), .ref (xad E 93), .int (iZ ty), .ref (xad E 94), .int (iZ li), .int (iZ th), .int (iZ sz), .int (iZ sp), .int (iZ wr), .int (iZ to), .ref (xad E 95)] := (fr21 85 (by omega)).trans f85
                      have f91 : σ20 91 = aI E 15 g := (fr21 91 (by omega)).trans f91
                      refine x_iinc (lv' := [(4, .int (iZ (k5 + 1))), (5, .int (iZ (u5 (3 + k5)))), (0, .ref (xad E 85)), (1, .int (iZ (b2 ro))), (2, .int (iZ ln9)), (3, .int (iZ st9))]) hx hb dX7_slides_179 hl (k := 1) rfl (by decide) rfl (fun ls hl => ?_)
                      refine lv_goto (tgt := 128) hx hb dX7_slides_182 (by decide) ?_
                      exact ih128 (k5 + 1) (ui u5 (3 + k5) (u5 (3 + k5))) σ20 _ _ _ (by omega) (by omega) (by rw [hat]; rw [hat] at c162; rw [hu5]; refine kyK_s hk5.1 ?_; first | (have h8 := kM_pa (st := st9) hL (x := kp k5) (by have := hkp k5; omega); have h7 := (kM_c (x := kp k5) (by have := hkp k5; omega)); rw [if_pos (by omega)] at h8; rw [kM_lt (by omega)]; exact h8) | (have h8 := kM_pa (st := st9) hL (x := kp k5) (by have := hkp k5; omega); have h7 := (kM_c (x := kp k5) (by have := hkp k5; omega)); rw [if_neg (by omega)] at h8; exact h8)) (by refine ui_rg hu5r ?_; first | exact hu5r _ | (have h8 := paZ_rg (st := st9) hL (pl := u5 (3 + k5)) c162.1 c162.2; unfold rg; omega)) f85 f86 f91 (fun j hj0 => ((fr21 j (by omega)).trans (fr6 j (by omega)))) hH (lv_sub hl [0, 2, 3, 4, 5] rfl)
                    · have c162 := of_decide_eq_true c162
                      refine lv_iload hx hb dX7_slides_165 (lv_at hl 0 rfl) ?_
                      refine lv_iload_n hx hb dX7_slides_167 rfl (lv_at hl 3 rfl) ?_
                      refine lv_iload_n hx hb dX7_slides_168 rfl (lv_at hl 4 rfl) ?_
                      refine lv_iload_n hx hb dX7_slides_169 rfl (lv_at hl 5 rfl) ?_
                      refine x_cSID (As := [.int (iZ (u5 (3 + k5))), .int (iZ (b2 ro)), .int (iZ ln9), .int (iZ st9)]) (rest := [.int (iZ (3 + k5)), .ref (xad E 86)]) hx hb hml hts hown hK hST hOK hH (c_X7_goesTo l E ST hSF σ5 (u5 (3 + k5)) ro ln9 st9  (by omega) (by omega) (by omega)) (va_cwS 4 hts gX7_slides_X7_goesTo rfl rfl rfl (by decide +kernel) ⟨Nat.le_of_ble_eq_true rfl, Nat.le_of_ble_eq_true rfl⟩) rfl hl.1 rfl (Nat.le_of_ble_eq_true rfl) dX7_slides_170 ⟨Nat.le_of_ble_eq_true rfl, Nat.le_of_ble_eq_true rfl⟩ (fun z u h => h) (fun H locs hH => ?_)
                      refine lv_goto (tgt := 178) hx hb dX7_slides_173 (by decide) ?_
                      refine x_iast hx hb hK hH 86 (by decide) f86 (by omega) (by omega) (by omega) dX7_slides_178 (fun σ25 H locs f86 fr26 hH => ?_)
                      have f85 : σ25 85 = oB 5 [.ref (xad E 86), .ref (xad E 87), .ref (xad E 88), .ref (xad E 89), .ref (xad E 90), .int (iZ (b2 sv)), .int (iZ re), .int (iZ ea), .int (iZ fa), .ref (xad E 91), .ref (xad E 92), .ref (xad E 93), .int (iZ ty), .ref (xad E 94), .int (iZ li), .int (iZ th), .int (iZ sz), .int (iZ sp), .int (iZ wr), .int (iZ to), .ref (xad E 95)] := (fr26 85 (by omega)).trans f85
                      have f91 : σ25 91 = aI E 15 g := (fr26 91 (by omega)).trans f91
                      refine x_iinc (lv' := [(4, .int (iZ (k5 + 1))), (5, .int (iZ (u5 (3 + k5)))), (0, .ref (xad E 85)), (1, .int (iZ (b2 ro))), (2, .int (iZ ln9)), (3, .int (iZ st9))]) hx hb dX7_slides_179 hl (k := 1) rfl (by decide) rfl (fun ls hl => ?_)
                      refine lv_goto (tgt := 128) hx hb dX7_slides_182 (by decide) ?_
                      exact ih128 (k5 + 1) (ui u5 (3 + k5) (paZ (u5 (3 + k5)) (fsZ ro ln9) (sdZ ro) st9)) σ25 _ _ _ (by omega) (by omega) (by rw [hat]; rw [hat] at c162; rw [hu5]; refine kyK_s hk5.1 ?_; first | (have h8 := kM_pa (st := st9) hL (x := kp k5) (by have := hkp k5; omega); have h7 := (kM_c (x := kp k5) (by have := hkp k5; omega)); rw [if_pos (by omega)] at h8; rw [kM_lt (by omega)]; exact h8) | (have h8 := kM_pa (st := st9) hL (x := kp k5) (by have := hkp k5; omega); have h7 := (kM_c (x := kp k5) (by have := hkp k5; omega)); rw [if_neg (by omega)] at h8; exact h8)) (by refine ui_rg hu5r ?_; first | exact hu5r _ | (have h8 := paZ_rg (st := st9) hL (pl := u5 (3 + k5)) c162.1 c162.2; unfold rg; omega)) f85 f86 f91 (fun j hj0 => ((fr26 j (by omega)).trans (fr6 j (by omega)))) hH (lv_sub hl [0, 2, 3, 4, 5] rfl)
              exact K128 7 0 u3 σ3 _ _ _ (by first | omega | decide) (by omega) (by exact kyK_0.symm) (by exact hu3r) f85 f86 f91 (fun j _ => rfl) hH (lv_sub hl [0, 1, 2, 3, 4] rfl)
            · refine x_iconst hx hb dX7_slides_74 ?_
              refine lv_istore (lv' := [(5, .int (iZ 0)), (4, .int (iZ i3)), (0, .ref (xad E 85)), (1, .int (iZ (b2 ro))), (2, .int (iZ ln9)), (3, .int (iZ st9))]) hx hb dX7_slides_75 hl (by decide) rfl (fun ls hl => ?_)
              have K77 : ∀ (nK : Nat) (k4 : Int) (u4 : Int → Int) (σ27 : xW) (H : Heap) (locs : List Loc) (ls : Array Slot), (3 - k4).toNat < nK → (0 ≤ k4 ∧ k4 ≤ 3) → (slI v (fsZ ro ln9) (sdZ ro) st9 i3 k4 u4) → (∀ j : Int, rg (u4 j)) → σ27 85 = oB 5 [.ref (xad E 86), .ref (xad E 87), .ref (xad E 88), .ref (xad E 89), .ref (xad E 90), .int (iZ (b2 sv)), .int (iZ re), .int (iZ ea), .int (iZ fa), .ref (xad E 91), .ref (xad E 92), .ref (xad E 93), .int (iZ ty), .ref (xad E 94), .int (iZ li), .int (iZ th), .int (iZ sz), .int (iZ sp), .int (iZ wr), .int (iZ to), .ref (xad E 95)] → σ27 86 = aI E 87 u4 → σ27 91 = aI E 15 g → (∀ j : Nat, j ≠ 86 → σ27 j = σ3 j) → Hx E (xA E s.heap.size) s.heap σ27 H locs → lv_has ls 7 [(5, .int (iZ k4)), (4, .int (iZ i3)), (0, .ref (xad E 85)), (1, .int (iZ (b2 ro))), (2, .int (iZ ln9)), (3, .int (iZ st9))] → W p l e rm_X7_slides s m args below meth c H locs 0 0 Q (F0 m 77 ls []) := by
                intro n77
                induction n77 with
                | zero =>
                  intro k4 u4 σ27 H locs ls hm
                  exact absurd hm (by first | exact Nat.not_lt_zero _ | omega)
                | succ n77 ih77 =>
                  intro k4 u4 σ27 H locs ls hm77 hk4 hu4 hu4r f85 f86 f91 fr28 hH hl
                  refine lv_iload hx hb dX7_slides_77 (lv_at hl 0 rfl) ?_
                  refine x_iconst hx hb dX7_slides_79 ?_
                  refine x_icmp_ge (tgt := 119) hx hb dX7_slides_80 (by decide) (by omega) (by decide) (fun c80 => ?_) (fun c80 => ?_)
                  · refine x_iinc (lv' := [(4, .int (iZ (i3 + 1))), (5, .int (iZ k4)), (0, .ref (xad E 85)), (1, .int (iZ (b2 ro))), (2, .int (iZ ln9)), (3, .int (iZ st9))]) hx hb dX7_slides_119 hl (k := 1) rfl (by decide) rfl (fun ls hl => ?_)
                    refine lv_goto (tgt := 68) hx hb dX7_slides_122 (by decide) ?_
                    exact ih68 (i3 + 1) u4 σ27 _ _ _ (by omega) (by omega) (by have e9 : k4 = 3 := (by omega); subst e9; exact slI_n hu4) (by exact hu4r) f85 f86 f91 (fun j hj0 => ((fr28 j (by omega)).trans (fr4 j (by omega)))) hH (lv_sub hl [0, 2, 3, 4, 5] rfl)
                  · refine lv_aload_n hx hb dX7_slides_83 rfl (lv_at hl 2 rfl) ?_
                    refine x_get hx hb hts hown hK hH 85 (by decide) f85 hinX7 rfl 0 (by decide) (List.mem_of_getElem? (i := 2) rfl) rfl dX7_slides_84 ?_
                    refine lv_iload_n hx hb dX7_slides_87 rfl (lv_at hl 3 rfl) ?_
                    refine lv_iload_n hx hb dX7_slides_88 rfl (lv_at hl 4 rfl) ?_
                    refine lv_iload hx hb dX7_slides_89 (lv_at hl 1 rfl) ?_
                    refine x_cSID (As := [.int (iZ (b2 ro)), .int (iZ ln9), .int (iZ i3)]) (rest := [.ref (xad E 86)]) hx hb hml hts hown hK hST hOK hH (c_X7_cellOf l E ST hSF σ27 ro ln9 i3  (by omega) (by omega)) (va_cwS 3 hts gX7_slides_X7_cellOf rfl rfl rfl (by decide +kernel) ⟨Nat.le_of_ble_eq_true rfl, Nat.le_of_ble_eq_true rfl⟩) rfl hl.1 rfl (Nat.le_of_ble_eq_true rfl) dX7_slides_91 ⟨Nat.le_of_ble_eq_true rfl, Nat.le_of_ble_eq_true rfl⟩ (fun z u h => h) (fun H locs hH => ?_)
                    skip
                    rw [cellOf_eq]; have hce := lin_in hL (i := i3) (by omega) (by omega)
                    refine x_cSID (As := [.int (iZ (fsZ ro ln9 + i3 * sdZ ro))]) (rest := [.ref (xad E 86)]) hx hb hml hts hown hK hST hOK hH (c_X7_tileAt l E ST hSF σ27 (fsZ ro ln9 + i3 * sdZ ro)  (by omega)) (va_cwS 1 hts gX7_slides_X7_tileAt rfl rfl rfl (by decide +kernel) ⟨Nat.le_of_ble_eq_true rfl, Nat.le_of_ble_eq_true rfl⟩) rfl hl.1 rfl (Nat.le_of_ble_eq_true rfl) dX7_slides_94 ⟨Nat.le_of_ble_eq_true rfl, Nat.le_of_ble_eq_true rfl⟩ (fun z u h => h) (fun H locs hH => ?_)
                    refine lv_iload hx hb dX7_slides_97 (lv_at hl 0 rfl) ?_
                    refine x_iadd hx hb dX7_slides_99 ?_
                    refine lv_aload_n hx hb dX7_slides_100 rfl (lv_at hl 2 rfl) ?_
                    refine x_get hx hb hts hown hK hH 85 (by decide) f85 hinX7 rfl 9 (by decide) (List.mem_of_getElem? (i := 1) rfl) rfl dX7_slides_101 ?_
                    refine x_iconst hx hb dX7_slides_104 ?_
                    refine lv_iload hx hb dX7_slides_105 (lv_at hl 1 rfl) ?_
                    refine x_imul hx hb dX7_slides_107 ?_
                    refine lv_iload hx hb dX7_slides_108 (lv_at hl 0 rfl) ?_
                    refine x_iadd hx hb dX7_slides_110 ?_
                    refine x_iald hx hb hK hH 91 (by decide) f91 (by omega) (by omega) (by omega) dX7_slides_111 ?_
                    refine x_iast hx hb hK hH 86 (by decide) f86 (by omega) (by omega) (by omega) dX7_slides_112 (fun σ35 H locs f86 fr36 hH => ?_)
                    have f85 : σ35 85 = oB 5 [.ref (xad E 86), .ref (xad E 87), .ref (xad E 88), .ref (xad E 89), .ref (xad E 90), .int (iZ (b2 sv)), .int (iZ re), .int (iZ ea), .int (iZ fa), .ref (xad E 91), .ref (xad E 92), .ref (xad E 93), .int (iZ ty), .ref (xad E 94), .int (iZ li), .int (iZ th), .int (iZ sz), .int (iZ sp), .int (iZ wr), .int (iZ to), .ref (xad E 95)] := (fr36 85 (by omega)).trans f85
                    have f91 : σ35 91 = aI E 15 g := (fr36 91 (by omega)).trans f91
                    refine x_iinc (lv' := [(5, .int (iZ (k4 + 1))), (4, .int (iZ i3)), (0, .ref (xad E 85)), (1, .int (iZ (b2 ro))), (2, .int (iZ ln9)), (3, .int (iZ st9))]) hx hb dX7_slides_113 hl (k := 0) rfl (by decide) rfl (fun ls hl => ?_)
                    refine lv_goto (tgt := 77) hx hb dX7_slides_116 (by decide) ?_
                    exact ih77 (k4 + 1) (ui u4 ((12 + 3 * (fsZ ro ln9 + i3 * sdZ ro)) + k4) (g ((3 * i3) + k4))) σ35 _ _ _ (by omega) (by omega) (by exact slI_s hu4 hL (by omega) (by omega) (mvI_at hgm (by omega) (by omega))) (by refine ui_rg hu4r ?_; rw [mvI_at hgm (by omega) (by omega)]; exact hvR _) f85 f86 f91 (fun j hj0 => ((fr36 j (by omega)).trans (fr28 j (by omega)))) hH (lv_sub hl [0, 1, 2, 3, 4, 5] rfl)
              exact K77 4 0 u3 σ3 _ _ _ (by first | omega | decide) (by omega) (by exact hu3) (by exact hu3r) f85 f86 f91 (fun j _ => rfl) hH (lv_sub hl [0, 1, 2, 3, 4, 5] rfl)
        exact K68 6 0 v σ1 _ _ _ (by first | omega | decide) (by omega) (by exact slI_0) (by exact hvR) f85 f86 f91 (fun j _ => rfl) hH (lv_sub hl [0, 1, 2, 3, 4] rfl)
      · refine lv_iload hx hb dX7_slides_9 (lv_at hl 0 rfl) ?_
        refine lv_iload_n hx hb dX7_slides_11 rfl (lv_at hl 4 rfl) ?_
        refine x_iadd hx hb dX7_slides_12 ?_
        refine x_iconst hx hb dX7_slides_13 ?_
        refine x_iadd hx hb dX7_slides_14 ?_
        refine x_iconst hx hb dX7_slides_15 ?_
        refine x_irem hx hb dX7_slides_16 (by omega) (by omega) (by omega) (by omega) ?_
        refine lv_istore (lv' := [(5, .int (iZ (((i + st9) + 5) % 5))), (4, .int (iZ i)), (0, .ref (xad E 85)), (1, .int (iZ (b2 ro))), (2, .int (iZ ln9)), (3, .int (iZ st9))]) hx hb dX7_slides_17 hl (by decide) rfl (fun ls hl => ?_)
        refine x_iconst hx hb dX7_slides_19 ?_
        refine lv_istore (lv' := [(6, .int (iZ 0)), (5, .int (iZ (((i + st9) + 5) % 5))), (4, .int (iZ i)), (0, .ref (xad E 85)), (1, .int (iZ (b2 ro))), (2, .int (iZ ln9)), (3, .int (iZ st9))]) hx hb dX7_slides_20 hl (by decide) rfl (fun ls hl => ?_)
        have K22 : ∀ (nK : Nat) (k2 : Int) (g2 : Int → Int) (σ37 : xW) (H : Heap) (locs : List Loc) (ls : Array Slot), (3 - k2).toNat < nK → (0 ≤ k2 ∧ k2 ≤ 3) → (mvI v (fsZ ro ln9) (sdZ ro) st9 i k2 g2) → σ37 85 = oB 5 [.ref (xad E 86), .ref (xad E 87), .ref (xad E 88), .ref (xad E 89), .ref (xad E 90), .int (iZ (b2 sv)), .int (iZ re), .int (iZ ea), .int (iZ fa), .ref (xad E 91), .ref (xad E 92), .ref (xad E 93), .int (iZ ty), .ref (xad E 94), .int (iZ li), .int (iZ th), .int (iZ sz), .int (iZ sp), .int (iZ wr), .int (iZ to), .ref (xad E 95)] → σ37 86 = aI E 87 v → σ37 91 = aI E 15 g2 → (∀ j : Nat, j ≠ 91 → σ37 j = σ1 j) → Hx E (xA E s.heap.size) s.heap σ37 H locs → lv_has ls 7 [(6, .int (iZ k2)), (5, .int (iZ (((i + st9) + 5) % 5))), (4, .int (iZ i)), (0, .ref (xad E 85)), (1, .int (iZ (b2 ro))), (2, .int (iZ ln9)), (3, .int (iZ st9))] → W p l e rm_X7_slides s m args below meth c H locs 0 0 Q (F0 m 22 ls []) := by
          intro n22
          induction n22 with
          | zero =>
            intro k2 g2 σ37 H locs ls hm
            exact absurd hm (by first | exact Nat.not_lt_zero _ | omega)
          | succ n22 ih22 =>
            intro k2 g2 σ37 H locs ls hm22 hk2 hg2 f85 f86 f91 fr38 hH hl
            refine lv_iload hx hb dX7_slides_22 (lv_at hl 0 rfl) ?_
            refine x_iconst hx hb dX7_slides_24 ?_
            refine x_icmp_ge (tgt := 59) hx hb dX7_slides_25 (by decide) (by omega) (by decide) (fun c25 => ?_) (fun c25 => ?_)
            · refine x_iinc (lv' := [(4, .int (iZ (i + 1))), (6, .int (iZ k2)), (5, .int (iZ (((i + st9) + 5) % 5))), (0, .ref (xad E 85)), (1, .int (iZ (b2 ro))), (2, .int (iZ ln9)), (3, .int (iZ st9))]) hx hb dX7_slides_59 hl (k := 2) rfl (by decide) rfl (fun ls hl => ?_)
              refine lv_goto (tgt := 3) hx hb dX7_slides_62 (by decide) ?_
              exact ih3 (i + 1) g2 σ37 _ _ _ (by omega) (by omega) (by have e9 : k2 = 3 := (by omega); subst e9; exact mvI_n hg2) f85 f86 f91 (fun j hj0 => ((fr38 j (by omega)).trans (fr2 j (by omega)))) hH (lv_sub hl [0, 3, 4, 5, 6] rfl)
            · refine lv_aload_n hx hb dX7_slides_28 rfl (lv_at hl 3 rfl) ?_
              refine x_get hx hb hts hown hK hH 85 (by decide) f85 hinX7 rfl 9 (by decide) (List.mem_of_getElem? (i := 1) rfl) rfl dX7_slides_29 ?_
              refine x_iconst hx hb dX7_slides_32 ?_
              refine lv_iload hx hb dX7_slides_33 (lv_at hl 1 rfl) ?_
              refine x_imul hx hb dX7_slides_35 ?_
              refine lv_iload hx hb dX7_slides_36 (lv_at hl 0 rfl) ?_
              refine x_iadd hx hb dX7_slides_38 ?_
              refine lv_aload_n hx hb dX7_slides_39 rfl (lv_at hl 3 rfl) ?_
              refine lv_iload_n hx hb dX7_slides_40 rfl (lv_at hl 4 rfl) ?_
              refine lv_iload_n hx hb dX7_slides_41 rfl (lv_at hl 5 rfl) ?_
              refine lv_iload hx hb dX7_slides_42 (lv_at hl 2 rfl) ?_
              refine x_cSID (As := [.int (iZ (b2 ro)), .int (iZ ln9), .int (iZ i)]) (rest := [.ref (xad E 85), .int (iZ ((3 * (((i + st9) + 5) % 5)) + k2)), .ref (xad E 91)]) hx hb hml hts hown hK hST hOK hH (c_X7_cellOf l E ST hSF σ37 ro ln9 i  (by omega) (by omega)) (va_cwS 3 hts gX7_slides_X7_cellOf rfl rfl rfl (by decide +kernel) ⟨Nat.le_of_ble_eq_true rfl, Nat.le_of_ble_eq_true rfl⟩) rfl hl.1 rfl (Nat.le_of_ble_eq_true rfl) dX7_slides_44 ⟨Nat.le_of_ble_eq_true rfl, Nat.le_of_ble_eq_true rfl⟩ (fun z u h => h) (fun H locs hH => ?_)
              skip
              rw [cellOf_eq]; have hce := lin_in hL (i := i) (by omega) (by omega)
              refine lv_iload hx hb dX7_slides_47 (lv_at hl 0 rfl) ?_
              refine x_cVID (As := [.int (iZ (fsZ ro ln9 + i * sdZ ro)), .int (iZ k2)]) (rest := [.int (iZ ((3 * (((i + st9) + 5) % 5)) + k2)), .ref (xad E 91)]) hx hb hml hts hown hK hST hOK hH 85 (c_X7_of l E ST hSF σ37 (fsZ ro ln9 + i * sdZ ro) k2 sv re ea fa ty li th sz sp wr to v f85 f86 (by omega) (by omega)) (cwV 2 hts gX7_slides_X7_of rfl rfl rfl (by decide +kernel) ⟨Nat.le_of_ble_eq_true rfl, Nat.le_of_ble_eq_true rfl⟩) (by decide) f85 rfl rfl hl.1 rfl (Nat.le_of_ble_eq_true rfl) dX7_slides_49 ⟨Nat.le_of_ble_eq_true rfl, Nat.le_of_ble_eq_true rfl⟩ (fun z u h => h) (fun H locs hH => ?_)
              refine x_iast hx hb hK hH 91 (by decide) f91 (by omega) (by omega) (by omega) dX7_slides_52 (fun σ45 H locs f91 fr46 hH => ?_)
              have f85 : σ45 85 = oB 5 [.ref (xad E 86), .ref (xad E 87), .ref (xad E 88), .ref (xad E 89), .ref (xad E 90), .int (iZ (b2 sv)), .int (iZ re), .int (iZ ea), .int (iZ fa), .ref (xad E 91), .ref (xad E 92), .ref (xad E 93), .int (iZ ty), .ref (xad E 94), .int (iZ li), .int (iZ th), .int (iZ sz), .int (iZ sp), .int (iZ wr), .int (iZ to), .ref (xad E 95)] := (fr46 85 (by omega)).trans f85
              have f86 : σ45 86 = aI E 87 v := (fr46 86 (by omega)).trans f86
              refine x_iinc (lv' := [(6, .int (iZ (k2 + 1))), (5, .int (iZ (((i + st9) + 5) % 5))), (4, .int (iZ i)), (0, .ref (xad E 85)), (1, .int (iZ (b2 ro))), (2, .int (iZ ln9)), (3, .int (iZ st9))]) hx hb dX7_slides_53 hl (k := 0) rfl (by decide) rfl (fun ls hl => ?_)
              refine lv_goto (tgt := 22) hx hb dX7_slides_56 (by decide) ?_
              exact ih22 (k2 + 1) (ui g2 ((3 * (((i + st9) + 5) % 5)) + k2) (v (12 + 3 * (fsZ ro ln9 + i * sdZ ro) + k2))) σ45 _ _ _ (by omega) (by omega) (by exact mvI_s hg2 (by omega) (by omega)) f85 f86 f91 (fun j hj0 => ((fr46 j (by omega)).trans (fr38 j (by omega)))) hH (lv_sub hl [0, 1, 2, 3, 4, 5, 6] rfl)
        exact K22 4 0 g σ1 _ _ _ (by first | omega | decide) (by omega) (by exact hg) f85 f86 f91 (fun j _ => rfl) hH (lv_sub hl [0, 1, 2, 3, 4, 5, 6] rfl)
  exact K3 6 0 mv σ _ _ _ (by first | omega | decide) (by omega) (by exact mvI_0) f85 f86 f91 (fun j _ => rfl) hH (lv_sub hl [0, 1, 2, 3, 4] rfl)

def rm_X7_shifts : Room := { frames := 3, cells := 0, slots := 0, locals := 73 }
set_option maxRecDepth 100000 in
set_option maxHeartbeats 4000000 in
theorem c_X7_shifts (l : Launch) (E : xE) (ST : xST) (hSF : SF ST) (σ : xW) (ro : Bool) (ln9 : Int) (st9 : Int) (op : Int → Int) (lk : Int → Int) (kp : Int → Int) (wc : Int → Int) (pn : Int) (nw : Int) (sh : Int) (wk : Int) (sv : Bool) (re : Int) (ea : Int) (fa : Int) (ty : Int) (li : Int) (th : Int) (sz : Int) (sp : Int) (wr : Int) (to : Int) (v : Int → Int) (mv : Int → Int) (hr0 : mo E σ sv re ea fa ty li th sz sp wr to) (hr1 : now E σ v) (hr2 : mov E σ mv) (hC : Cp v op lk kp wc pn nw sh wk) (hB : BI op lk kp wc pn nw) (hl9 : rg ln9) (hs9 : rg st9) (hsh : 0 ≤ sh ∧ sh ≤ 1000000000) : CI l E ST yX7_shifts wsX7_shifts rm_X7_shifts [.ref (xad E 85), .int (iZ (b2 ro)), .int (iZ ln9), .int (iZ st9)] σ (fun (z : Int) (u : xW) => (rg z ∧ (0 ≤ (lnF op lk kp wc pn nw sh wk ro ln9 st9).1 → z = (lnF op lk kp wc pn nw sh wk ro ln9 st9).1)) ∧ (∃ (v1 m1 : Int → Int), mo E u sv re ea fa ty li (tA (lnF op lk kp wc pn nw sh wk ro ln9 st9).1) sz sp wr to ∧ now E u v1 ∧ mov E u m1 ∧ (CpT v1 (lnF op lk kp wc pn nw sh wk ro ln9 st9).2)) ∧ ∀ j : Nat, (j < 85 ∨ 85 + 2 ≤ j) → j ≠ 91 → u j = σ j) := by
  have f85 : σ 85 = oB 5 [.ref (xad E 86), .ref (xad E 87), .ref (xad E 88), .ref (xad E 89), .ref (xad E 90), .int (iZ (b2 sv)), .int (iZ re), .int (iZ ea), .int (iZ fa), .ref (xad E 91), .ref (xad E 92), .ref (xad E 93), .int (iZ ty), .ref (xad E 94), .int (iZ li), .int (iZ th), .int (iZ sz), .int (iZ sp), .int (iZ wr), .int (iZ to), .ref (xad E 95)] := hr0
  have f86 : σ 86 = aI E 87 v := hr1
  have f91 : σ 91 = aI E 15 mv := hr2
  refine CI_of (by decide) rfl (Nat.le_of_ble_eq_true rfl) ?_
  intro p e s m args below meth c Q ls G hH hl hQ
  obtain ⟨hx, hb, hml, hown, hts, hK, hST, hlocks, hr, hno⟩ := G
  have hOK := hSF.1
  have hown : s.vm.findClass RX7 = some m.cls := hown
  have hl : lv_has ls 7 [(0, .ref (xad E 85)), (1, .int (iZ (b2 ro))), (2, .int (iZ ln9)), (3, .int (iZ st9))] := hl
  have hinX7 : ∀ w ∈ u_ws RX7 TX7 21, w ∈ wsX7_shifts := fun w h => (List.mem_cons_of_mem _ (List.mem_append_right _ h))
  obtain ⟨hop, hlk, hkp, hwc, hpn, hnw⟩ := id hB
  have hvR := hC.R
  have hv0 := hC.1.1
  refine lv_aload_n hx hb dX7_shifts_0 rfl (lv_at hl 0 rfl) ?_
  refine lv_iload_n hx hb dX7_shifts_1 rfl (lv_at hl 2 rfl) ?_
  refine x_cSID (As := [.int (iZ ln9)]) (rest := [.ref (xad E 85)]) hx hb hml hts hown hK hST hOK hH (c_X7_isLine l E ST hSF σ ln9  (by omega)) (va_cwS 1 hts gX7_shifts_X7_isLine rfl rfl rfl (by decide +kernel) ⟨Nat.le_of_ble_eq_true rfl, Nat.le_of_ble_eq_true rfl⟩) rfl hl.1 rfl (Nat.le_of_ble_eq_true rfl) dX7_shifts_2 ⟨Nat.le_of_ble_eq_true rfl, Nat.le_of_ble_eq_true rfl⟩ (fun z u h => h) (fun H locs hH => ?_)
  refine lv_iload_n hx hb dX7_shifts_5 rfl (lv_at hl 3 rfl) ?_
  refine x_if_eq (tgt := 23) hx hb dX7_shifts_6 (by decide) (by omega) (fun c6 => ?_) (fun c6 => ?_)
  · refine x_iconst hx hb dX7_shifts_23 ?_
    refine lv_aload_n hx hb dX7_shifts_24 rfl (lv_at hl 0 rfl) ?_
    refine lv_iload_n hx hb dX7_shifts_25 rfl (lv_at hl 1 rfl) ?_
    refine lv_iload_n hx hb dX7_shifts_26 rfl (lv_at hl 2 rfl) ?_
    refine x_cVID (As := [.int (iZ (b2 ro)), .int (iZ ln9)]) (rest := [.int (iZ 0), .int (iZ (b2 (decide (0 ≤ ln9 ∧ ln9 ≤ 4)))), .ref (xad E 85)]) hx hb hml hts hown hK hST hOK hH 85 (c_X7_isFree l E ST hSF σ ro ln9 op lk kp wc pn nw sh wk sv re ea fa ty li th sz sp wr to v f85 f86 (by assumption) (by omega) (by omega)) (cwV 2 hts gX7_shifts_X7_isFree rfl rfl rfl (by decide +kernel) ⟨Nat.le_of_ble_eq_true rfl, Nat.le_of_ble_eq_true rfl⟩) (by decide) f85 rfl rfl hl.1 rfl (Nat.le_of_ble_eq_true rfl) dX7_shifts_27 ⟨Nat.le_of_ble_eq_true rfl, Nat.le_of_ble_eq_true rfl⟩ (fun z u h => h) (fun H locs hH => ?_)
    refine x_cVIE (As := [.int (iZ (b2 (decide (0 ≤ ln9 ∧ ln9 ≤ 4)))), .int (iZ 0), .int (iZ (b2 (frB pn ro ln9)))]) (rest := []) hx hb hml hts hown hK hST hOK hH 85 (c_X7_holds l E ST hSF σ (decide (0 ≤ ln9 ∧ ln9 ≤ 4)) false (frB pn ro ln9) sv re ea fa ty li th sz sp wr to f85 ) (cwV 3 hts gX7_shifts_X7_holds rfl rfl rfl (by decide +kernel) ⟨Nat.le_of_ble_eq_true rfl, Nat.le_of_ble_eq_true rfl⟩) (by decide) f85 rfl rfl hl.1 rfl (Nat.le_of_ble_eq_true rfl) dX7_shifts_30 ⟨Nat.le_of_ble_eq_true rfl, Nat.le_of_ble_eq_true rfl⟩ (fun z u h => h) (fun σ8 H locs hp9 hH => ?_)
    obtain ⟨f85, fr10⟩ := hp9
    have f86 : σ8 86 = aI E 87 v := (fr10 86 (by omega)).trans f86
    have f91 : σ8 91 = aI E 15 mv := (fr10 91 (by omega)).trans f91
    refine x_ifb_ne (tgt := 38) hx hb dX7_shifts_33 (by decide) (fun c33 => ?_) (fun c33 => ?_)
    · obtain ⟨⟨hr4, hs4, hf4⟩, hy9⟩ := ln_y (op := op) (lk := lk) (kp := kp) (wc := wc) (pn := pn) (nw := nw) (sh := sh) (wk := wk) (b := ro) (r := ln9) (st := st9) hwc (by first | (simp; omega) | omega) rfl c33
      refine x_iconst hx hb dX7_shifts_38 ?_
      refine lv_istore (lv' := [(4, .int (iZ 0)), (0, .ref (xad E 85)), (1, .int (iZ (b2 ro))), (2, .int (iZ ln9)), (3, .int (iZ st9))]) hx hb dX7_shifts_39 hl (by decide) rfl (fun ls hl => ?_)
      refine x_iconst hx hb dX7_shifts_41 ?_
      refine lv_istore (lv' := [(5, .int (iZ 0)), (4, .int (iZ 0)), (0, .ref (xad E 85)), (1, .int (iZ (b2 ro))), (2, .int (iZ ln9)), (3, .int (iZ st9))]) hx hb dX7_shifts_42 hl (by decide) rfl (fun ls hl => ?_)
      have K44 : ∀ (nK : Nat) (cnt k : Int) (H : Heap) (locs : List Loc) (ls : Array Slot), (nw - k).toNat < nK → (0 ≤ k ∧ k ≤ nw) → (cnt = lnC wc ro ln9 k) → (0 ≤ cnt ∧ cnt ≤ k) → Hx E (xA E s.heap.size) s.heap σ8 H locs → lv_has ls 7 [(5, .int (iZ k)), (4, .int (iZ cnt)), (0, .ref (xad E 85)), (1, .int (iZ (b2 ro))), (2, .int (iZ ln9)), (3, .int (iZ st9))] → W p l e rm_X7_shifts s m args below meth c H locs 0 0 Q (F0 m 44 ls []) := by
        intro n44
        induction n44 with
        | zero =>
          intro cnt k H locs ls hm
          exact absurd hm (by first | exact Nat.not_lt_zero _ | omega)
        | succ n44 ih44 =>
          intro cnt k H locs ls hm44 hk hcnt hcb  hH hl
          refine lv_iload hx hb dX7_shifts_44 (lv_at hl 0 rfl) ?_
          refine lv_aload_n hx hb dX7_shifts_46 rfl (lv_at hl 2 rfl) ?_
          refine x_get hx hb hts hown hK hH 85 (by decide) f85 hinX7 rfl 0 (by decide) (List.mem_of_getElem? (i := 1) rfl) rfl dX7_shifts_47 ?_
          refine x_iconst hx hb dX7_shifts_50 ?_
          refine x_iald hx hb hK hH 86 (by decide) f86 (by omega) (by omega) (by omega) dX7_shifts_51 ?_
          have hv13 := hvR 0
          rw [hv0]
          refine x_icmp_ge (tgt := 102) hx hb dX7_shifts_52 (by decide) (by omega) (by omega) (fun c52 => ?_) (fun c52 => ?_)
          · refine lv_aload_n hx hb dX7_shifts_102 rfl (lv_at hl 2 rfl) ?_
            refine lv_iload_n hx hb dX7_shifts_103 rfl (lv_at hl 3 rfl) ?_
            refine lv_iload_n hx hb dX7_shifts_104 rfl (lv_at hl 4 rfl) ?_
            refine lv_iload_n hx hb dX7_shifts_105 rfl (lv_at hl 5 rfl) ?_
            refine x_cVV (As := [.int (iZ (b2 ro)), .int (iZ ln9), .int (iZ st9)]) (rest := []) hx hb hml hts hown hK hST hOK hH 85 (c_X7_slides l E ST hSF σ8 ro ln9 st9 op lk kp wc pn nw sh wk sv re ea fa ty li (thZ (decide (0 ≤ ln9 ∧ ln9 ≤ 4)) false (frB pn ro ln9)) sz sp wr to v mv f85 f86 f91 (by assumption) (by omega) (by omega) (by omega) hf4) (cwV 3 hts gX7_shifts_X7_slides rfl rfl rfl (by decide +kernel) ⟨Nat.le_of_ble_eq_true rfl, Nat.le_of_ble_eq_true rfl⟩) (by decide) f85 rfl rfl hl.1 rfl (Nat.le_of_ble_eq_true rfl) dX7_shifts_106 ⟨Nat.le_of_ble_eq_true rfl, Nat.le_of_ble_eq_true rfl⟩ (fun σ15 H locs hp16 hH => ?_)
            obtain ⟨⟨v1_18, m1_19, f85, f86, f91, hC2⟩, fr17⟩ := hp16
            refine lv_aload_n hx hb dX7_shifts_109 rfl (lv_at hl 2 rfl) ?_
            refine x_get hx hb hts hown hK hH 85 (by decide) f85 hinX7 rfl 0 (by decide) (List.mem_of_getElem? (i := 1) rfl) rfl dX7_shifts_110 ?_
            refine x_iconst hx hb dX7_shifts_113 ?_
            refine lv_dup2_11 hx hb dX7_shifts_114 rfl rfl ?_
            refine x_iald hx hb hK hH 86 (by decide) f86 (by omega) (by omega) (by omega) dX7_shifts_115 ?_
            rw [hC2.1.2.1]
            refine x_iconst hx hb dX7_shifts_116 ?_
            refine x_iadd hx hb dX7_shifts_117 ?_
            refine x_iast hx hb hK hH 86 (by decide) f86 (by omega) (by omega) (by omega) dX7_shifts_118 (fun σ21 H locs f86 fr22 hH => ?_)
            have f85 : σ21 85 = oB 5 [.ref (xad E 86), .ref (xad E 87), .ref (xad E 88), .ref (xad E 89), .ref (xad E 90), .int (iZ (b2 sv)), .int (iZ re), .int (iZ ea), .int (iZ fa), .ref (xad E 91), .ref (xad E 92), .ref (xad E 93), .int (iZ ty), .ref (xad E 94), .int (iZ li), .int (iZ (thZ (decide (0 ≤ ln9 ∧ ln9 ≤ 4)) false (frB pn ro ln9))), .int (iZ sz), .int (iZ sp), .int (iZ wr), .int (iZ to), .ref (xad E 95)] := (fr22 85 (by omega)).trans f85
            have f91 : σ21 91 = aI E 15 m1_19 := (fr22 91 (by omega)).trans f91
            refine lv_iload hx hb dX7_shifts_119 (lv_at hl 1 rfl) ?_
            subst hQ
            exact x_iret hx hb hr hlocks hH (Nat.le_of_ble_eq_true rfl) (Nat.le_of_ble_eq_true rfl) ⟨(by first | exact rs_ok hy9 (by have e9 : k = nw := (by omega); rw [hcnt, e9]) (by have h8 := lnC_b (wc := wc) (b := ro) (ln := ln9) hnw.1; exact ⟨by omega, by omega⟩) | exact rs_no (ln_n (op := op) (lk := lk) (kp := kp) (wc := wc) (pn := pn) (nw := nw) (sh := sh) (wk := wk) (b := ro) (r := ln9) (st := st9) (by first | (simp; omega) | omega) rfl c33)), ⟨(ui v1_18 1 (sh + 1)), m1_19, (f85.trans (by rw [ln_th (op := op) (lk := lk) (kp := kp) (wc := wc) (pn := pn) (nw := nw) (sh := sh) (wk := wk) (b := ro) (r := ln9) (st := st9) hnw.1 hwc (by first | (simp; omega) | omega) rfl])), f86, f91, (by first | exact cp_ok (Cp_sh hC2 hnw.2 (by unfold rg; omega)) hy9 | exact cp_no hC (ln_n (op := op) (lk := lk) (kp := kp) (wc := wc) (pn := pn) (nw := nw) (sh := sh) (wk := wk) (b := ro) (r := ln9) (st := st9) (by first | (simp; omega) | omega) rfl c33))⟩, fun j hj0 hj1 => ((fr22 j (by omega)).trans ((fr17 j (by omega) (by omega)).trans (fr10 j (by omega))))⟩ dX7_shifts_121
          · refine lv_aload_n hx hb dX7_shifts_55 rfl (lv_at hl 2 rfl) ?_
            refine x_get hx hb hts hown hK hH 85 (by decide) f85 hinX7 rfl 0 (by decide) (List.mem_of_getElem? (i := 1) rfl) rfl dX7_shifts_56 ?_
            refine x_bipush hx hb dX7_shifts_59 (by decide) ?_
            refine lv_iload hx hb dX7_shifts_61 (lv_at hl 0 rfl) ?_
            refine x_iadd hx hb dX7_shifts_63 ?_
            refine x_iald hx hb hK hH 86 (by decide) f86 (by omega) (by omega) (by omega) dX7_shifts_64 ?_
            have hv23 := hvR (9 + k)
            rw [hC.wal (by omega) (by omega)]; have hwq := hwc k
            refine lv_istore (lv' := [(6, .int (iZ (wc k))), (5, .int (iZ k)), (4, .int (iZ cnt)), (0, .ref (xad E 85)), (1, .int (iZ (b2 ro))), (2, .int (iZ ln9)), (3, .int (iZ st9))]) hx hb dX7_shifts_65 hl (by decide) rfl (fun ls hl => ?_)
            refine lv_iload hx hb dX7_shifts_67 (lv_at hl 2 rfl) ?_
            refine lv_iload_n hx hb dX7_shifts_69 rfl (lv_at hl 4 rfl) ?_
            refine x_ifb_eq (tgt := 80) hx hb dX7_shifts_70 (by decide) (fun c70 => ?_) (fun c70 => ?_)
            · refine lv_iload hx hb dX7_shifts_80 (lv_at hl 0 rfl) ?_
              refine x_iconst hx hb dX7_shifts_82 ?_
              refine x_irem hx hb dX7_shifts_83 (by omega) (by omega) (by omega) (by omega) ?_
              refine lv_iload_n hx hb dX7_shifts_84 rfl (lv_at hl 5 rfl) ?_
              refine x_icmp_ne (tgt := 92) hx hb dX7_shifts_85 (by decide) (by omega) (by omega) (fun c85 => ?_) (fun c85 => ?_)
              · refine x_iconst hx hb dX7_shifts_92 ?_
                refine x_iadd hx hb dX7_shifts_93 ?_
                refine lv_istore (lv' := [(4, .int (iZ (cnt + 0))), (6, .int (iZ (wc k))), (5, .int (iZ k)), (0, .ref (xad E 85)), (1, .int (iZ (b2 ro))), (2, .int (iZ ln9)), (3, .int (iZ st9))]) hx hb dX7_shifts_94 hl (by decide) rfl (fun ls hl => ?_)
                refine x_iinc (lv' := [(5, .int (iZ (k + 1))), (4, .int (iZ (cnt + 0))), (6, .int (iZ (wc k))), (0, .ref (xad E 85)), (1, .int (iZ (b2 ro))), (2, .int (iZ ln9)), (3, .int (iZ st9))]) hx hb dX7_shifts_96 hl (k := 2) rfl (by decide) rfl (fun ls hl => ?_)
                refine lv_goto (tgt := 44) hx hb dX7_shifts_99 (by decide) ?_
                exact ih44 (cnt + 0) (k + 1) _ _ _ (by omega) (by omega) (by rw [hcnt]; first | exact lnC_t hk.1 (Or.inl ⟨c70, c85⟩) | exact lnC_t hk.1 (Or.inr ⟨c70, c85⟩) | exact lnC_f hk.1 (Or.inl ⟨c70, c85⟩) | exact lnC_f hk.1 (Or.inr ⟨c70, c85⟩)) (by omega)  hH (lv_sub hl [0, 1, 3, 4, 5, 6] rfl)
              · refine x_iconst hx hb dX7_shifts_88 ?_
                refine lv_goto (tgt := 93) hx hb dX7_shifts_89 (by decide) ?_
                refine x_iadd hx hb dX7_shifts_93 ?_
                refine lv_istore (lv' := [(4, .int (iZ (cnt + 1))), (6, .int (iZ (wc k))), (5, .int (iZ k)), (0, .ref (xad E 85)), (1, .int (iZ (b2 ro))), (2, .int (iZ ln9)), (3, .int (iZ st9))]) hx hb dX7_shifts_94 hl (by decide) rfl (fun ls hl => ?_)
                refine x_iinc (lv' := [(5, .int (iZ (k + 1))), (4, .int (iZ (cnt + 1))), (6, .int (iZ (wc k))), (0, .ref (xad E 85)), (1, .int (iZ (b2 ro))), (2, .int (iZ ln9)), (3, .int (iZ st9))]) hx hb dX7_shifts_96 hl (k := 2) rfl (by decide) rfl (fun ls hl => ?_)
                refine lv_goto (tgt := 44) hx hb dX7_shifts_99 (by decide) ?_
                exact ih44 (cnt + 1) (k + 1) _ _ _ (by omega) (by omega) (by rw [hcnt]; first | exact lnC_t hk.1 (Or.inl ⟨c70, c85⟩) | exact lnC_t hk.1 (Or.inr ⟨c70, c85⟩) | exact lnC_f hk.1 (Or.inl ⟨c70, c85⟩) | exact lnC_f hk.1 (Or.inr ⟨c70, c85⟩)) (by omega)  hH (lv_sub hl [0, 1, 3, 4, 5, 6] rfl)
            · refine lv_iload hx hb dX7_shifts_73 (lv_at hl 0 rfl) ?_
              refine x_iconst hx hb dX7_shifts_75 ?_
              refine x_idiv hx hb dX7_shifts_76 (by omega) (by omega) (by omega) (by omega) ?_
              refine lv_goto (tgt := 84) hx hb dX7_shifts_77 (by decide) ?_
              refine lv_iload_n hx hb dX7_shifts_84 rfl (lv_at hl 5 rfl) ?_
              refine x_icmp_ne (tgt := 92) hx hb dX7_shifts_85 (by decide) (by omega) (by omega) (fun c85 => ?_) (fun c85 => ?_)
              · refine x_iconst hx hb dX7_shifts_92 ?_
                refine x_iadd hx hb dX7_shifts_93 ?_
                refine lv_istore (lv' := [(4, .int (iZ (cnt + 0))), (6, .int (iZ (wc k))), (5, .int (iZ k)), (0, .ref (xad E 85)), (1, .int (iZ (b2 ro))), (2, .int (iZ ln9)), (3, .int (iZ st9))]) hx hb dX7_shifts_94 hl (by decide) rfl (fun ls hl => ?_)
                refine x_iinc (lv' := [(5, .int (iZ (k + 1))), (4, .int (iZ (cnt + 0))), (6, .int (iZ (wc k))), (0, .ref (xad E 85)), (1, .int (iZ (b2 ro))), (2, .int (iZ ln9)), (3, .int (iZ st9))]) hx hb dX7_shifts_96 hl (k := 2) rfl (by decide) rfl (fun ls hl => ?_)
                refine lv_goto (tgt := 44) hx hb dX7_shifts_99 (by decide) ?_
                exact ih44 (cnt + 0) (k + 1) _ _ _ (by omega) (by omega) (by rw [hcnt]; first | exact lnC_t hk.1 (Or.inl ⟨c70, c85⟩) | exact lnC_t hk.1 (Or.inr ⟨c70, c85⟩) | exact lnC_f hk.1 (Or.inl ⟨c70, c85⟩) | exact lnC_f hk.1 (Or.inr ⟨c70, c85⟩)) (by omega)  hH (lv_sub hl [0, 1, 3, 4, 5, 6] rfl)
              · refine x_iconst hx hb dX7_shifts_88 ?_
                refine lv_goto (tgt := 93) hx hb dX7_shifts_89 (by decide) ?_
                refine x_iadd hx hb dX7_shifts_93 ?_
                refine lv_istore (lv' := [(4, .int (iZ (cnt + 1))), (6, .int (iZ (wc k))), (5, .int (iZ k)), (0, .ref (xad E 85)), (1, .int (iZ (b2 ro))), (2, .int (iZ ln9)), (3, .int (iZ st9))]) hx hb dX7_shifts_94 hl (by decide) rfl (fun ls hl => ?_)
                refine x_iinc (lv' := [(5, .int (iZ (k + 1))), (4, .int (iZ (cnt + 1))), (6, .int (iZ (wc k))), (0, .ref (xad E 85)), (1, .int (iZ (b2 ro))), (2, .int (iZ ln9)), (3, .int (iZ st9))]) hx hb dX7_shifts_96 hl (k := 2) rfl (by decide) rfl (fun ls hl => ?_)
                refine lv_goto (tgt := 44) hx hb dX7_shifts_99 (by decide) ?_
                exact ih44 (cnt + 1) (k + 1) _ _ _ (by omega) (by omega) (by rw [hcnt]; first | exact lnC_t hk.1 (Or.inl ⟨c70, c85⟩) | exact lnC_t hk.1 (Or.inr ⟨c70, c85⟩) | exact lnC_f hk.1 (Or.inl ⟨c70, c85⟩) | exact lnC_f hk.1 (Or.inr ⟨c70, c85⟩)) (by omega)  hH (lv_sub hl [0, 1, 3, 4, 5, 6] rfl)
      exact K44 4 0 0 _ _ _ (by first | omega | decide) (by omega) (by rfl) (by omega)  hH (lv_sub hl [0, 1, 2, 3, 4, 5] rfl)
    · refine x_iconst hx hb dX7_shifts_36 ?_
      subst hQ
      exact x_iret hx hb hr hlocks hH (Nat.le_of_ble_eq_true rfl) (Nat.le_of_ble_eq_true rfl) ⟨(by first | exact rs_ok hy9 (by have e9 : k = nw := (by omega); rw [hcnt, e9]) (by have h8 := lnC_b (wc := wc) (b := ro) (ln := ln9) hnw.1; exact ⟨by omega, by omega⟩) | exact rs_no (ln_n (op := op) (lk := lk) (kp := kp) (wc := wc) (pn := pn) (nw := nw) (sh := sh) (wk := wk) (b := ro) (r := ln9) (st := st9) (by first | (simp; omega) | omega) rfl c33)), ⟨v, mv, (f85.trans (by rw [ln_th (op := op) (lk := lk) (kp := kp) (wc := wc) (pn := pn) (nw := nw) (sh := sh) (wk := wk) (b := ro) (r := ln9) (st := st9) hnw.1 hwc (by first | (simp; omega) | omega) rfl])), f86, f91, (by first | exact cp_ok (Cp_sh hC2 hnw.2 (by unfold rg; omega)) hy9 | exact cp_no hC (ln_n (op := op) (lk := lk) (kp := kp) (wc := wc) (pn := pn) (nw := nw) (sh := sh) (wk := wk) (b := ro) (r := ln9) (st := st9) (by first | (simp; omega) | omega) rfl c33))⟩, fun j hj0 hj1 => (fr10 j (by omega))⟩ dX7_shifts_37
  · refine lv_iload_n hx hb dX7_shifts_9 rfl (lv_at hl 3 rfl) ?_
    refine x_bipush hx hb dX7_shifts_10 (by decide) ?_
    refine x_iconst hx hb dX7_shifts_12 ?_
    refine x_cSID (As := [.int (iZ st9), .int (iZ (-4)), .int (iZ 4)]) (rest := [.int (iZ (b2 (decide (0 ≤ ln9 ∧ ln9 ≤ 4)))), .ref (xad E 85)]) hx hb hml hts hown hK hST hOK hH (c_X7_isIn l E ST hSF σ st9 (-4) 4  (by omega) (by omega) (by omega)) (va_cwS 3 hts gX7_shifts_X7_isIn rfl rfl rfl (by decide +kernel) ⟨Nat.le_of_ble_eq_true rfl, Nat.le_of_ble_eq_true rfl⟩) rfl hl.1 rfl (Nat.le_of_ble_eq_true rfl) dX7_shifts_13 ⟨Nat.le_of_ble_eq_true rfl, Nat.le_of_ble_eq_true rfl⟩ (fun z u h => h) (fun H locs hH => ?_)
    refine x_ifb_eq (tgt := 23) hx hb dX7_shifts_16 (by decide) (fun c16 => ?_) (fun c16 => ?_)
    · have c16 := of_decide_eq_false c16
      refine x_iconst hx hb dX7_shifts_23 ?_
      refine lv_aload_n hx hb dX7_shifts_24 rfl (lv_at hl 0 rfl) ?_
      refine lv_iload_n hx hb dX7_shifts_25 rfl (lv_at hl 1 rfl) ?_
      refine lv_iload_n hx hb dX7_shifts_26 rfl (lv_at hl 2 rfl) ?_
      refine x_cVID (As := [.int (iZ (b2 ro)), .int (iZ ln9)]) (rest := [.int (iZ 0), .int (iZ (b2 (decide (0 ≤ ln9 ∧ ln9 ≤ 4)))), .ref (xad E 85)]) hx hb hml hts hown hK hST hOK hH 85 (c_X7_isFree l E ST hSF σ ro ln9 op lk kp wc pn nw sh wk sv re ea fa ty li th sz sp wr to v f85 f86 (by assumption) (by omega) (by omega)) (cwV 2 hts gX7_shifts_X7_isFree rfl rfl rfl (by decide +kernel) ⟨Nat.le_of_ble_eq_true rfl, Nat.le_of_ble_eq_true rfl⟩) (by decide) f85 rfl rfl hl.1 rfl (Nat.le_of_ble_eq_true rfl) dX7_shifts_27 ⟨Nat.le_of_ble_eq_true rfl, Nat.le_of_ble_eq_true rfl⟩ (fun z u h => h) (fun H locs hH => ?_)
      refine x_cVIE (As := [.int (iZ (b2 (decide (0 ≤ ln9 ∧ ln9 ≤ 4)))), .int (iZ 0), .int (iZ (b2 (frB pn ro ln9)))]) (rest := []) hx hb hml hts hown hK hST hOK hH 85 (c_X7_holds l E ST hSF σ (decide (0 ≤ ln9 ∧ ln9 ≤ 4)) false (frB pn ro ln9) sv re ea fa ty li th sz sp wr to f85 ) (cwV 3 hts gX7_shifts_X7_holds rfl rfl rfl (by decide +kernel) ⟨Nat.le_of_ble_eq_true rfl, Nat.le_of_ble_eq_true rfl⟩) (by decide) f85 rfl rfl hl.1 rfl (Nat.le_of_ble_eq_true rfl) dX7_shifts_30 ⟨Nat.le_of_ble_eq_true rfl, Nat.le_of_ble_eq_true rfl⟩ (fun z u h => h) (fun σ31 H locs hp32 hH => ?_)
      obtain ⟨f85, fr33⟩ := hp32
      have f86 : σ31 86 = aI E 87 v := (fr33 86 (by omega)).trans f86
      have f91 : σ31 91 = aI E 15 mv := (fr33 91 (by omega)).trans f91
      refine x_ifb_ne (tgt := 38) hx hb dX7_shifts_33 (by decide) (fun c33 => ?_) (fun c33 => ?_)
      · obtain ⟨⟨hr4, hs4, hf4⟩, hy9⟩ := ln_y (op := op) (lk := lk) (kp := kp) (wc := wc) (pn := pn) (nw := nw) (sh := sh) (wk := wk) (b := ro) (r := ln9) (st := st9) hwc (by first | (simp; omega) | omega) rfl c33
        refine x_iconst hx hb dX7_shifts_38 ?_
        refine lv_istore (lv' := [(4, .int (iZ 0)), (0, .ref (xad E 85)), (1, .int (iZ (b2 ro))), (2, .int (iZ ln9)), (3, .int (iZ st9))]) hx hb dX7_shifts_39 hl (by decide) rfl (fun ls hl => ?_)
        refine x_iconst hx hb dX7_shifts_41 ?_
        refine lv_istore (lv' := [(5, .int (iZ 0)), (4, .int (iZ 0)), (0, .ref (xad E 85)), (1, .int (iZ (b2 ro))), (2, .int (iZ ln9)), (3, .int (iZ st9))]) hx hb dX7_shifts_42 hl (by decide) rfl (fun ls hl => ?_)
        have K44 : ∀ (nK : Nat) (cnt k : Int) (H : Heap) (locs : List Loc) (ls : Array Slot), (nw - k).toNat < nK → (0 ≤ k ∧ k ≤ nw) → (cnt = lnC wc ro ln9 k) → (0 ≤ cnt ∧ cnt ≤ k) → Hx E (xA E s.heap.size) s.heap σ31 H locs → lv_has ls 7 [(5, .int (iZ k)), (4, .int (iZ cnt)), (0, .ref (xad E 85)), (1, .int (iZ (b2 ro))), (2, .int (iZ ln9)), (3, .int (iZ st9))] → W p l e rm_X7_shifts s m args below meth c H locs 0 0 Q (F0 m 44 ls []) := by
          intro n44
          induction n44 with
          | zero =>
            intro cnt k H locs ls hm
            exact absurd hm (by first | exact Nat.not_lt_zero _ | omega)
          | succ n44 ih44 =>
            intro cnt k H locs ls hm44 hk hcnt hcb  hH hl
            refine lv_iload hx hb dX7_shifts_44 (lv_at hl 0 rfl) ?_
            refine lv_aload_n hx hb dX7_shifts_46 rfl (lv_at hl 2 rfl) ?_
            refine x_get hx hb hts hown hK hH 85 (by decide) f85 hinX7 rfl 0 (by decide) (List.mem_of_getElem? (i := 1) rfl) rfl dX7_shifts_47 ?_
            refine x_iconst hx hb dX7_shifts_50 ?_
            refine x_iald hx hb hK hH 86 (by decide) f86 (by omega) (by omega) (by omega) dX7_shifts_51 ?_
            have hv36 := hvR 0
            rw [hv0]
            refine x_icmp_ge (tgt := 102) hx hb dX7_shifts_52 (by decide) (by omega) (by omega) (fun c52 => ?_) (fun c52 => ?_)
            · refine lv_aload_n hx hb dX7_shifts_102 rfl (lv_at hl 2 rfl) ?_
              refine lv_iload_n hx hb dX7_shifts_103 rfl (lv_at hl 3 rfl) ?_
              refine lv_iload_n hx hb dX7_shifts_104 rfl (lv_at hl 4 rfl) ?_
              refine lv_iload_n hx hb dX7_shifts_105 rfl (lv_at hl 5 rfl) ?_
              refine x_cVV (As := [.int (iZ (b2 ro)), .int (iZ ln9), .int (iZ st9)]) (rest := []) hx hb hml hts hown hK hST hOK hH 85 (c_X7_slides l E ST hSF σ31 ro ln9 st9 op lk kp wc pn nw sh wk sv re ea fa ty li (thZ (decide (0 ≤ ln9 ∧ ln9 ≤ 4)) false (frB pn ro ln9)) sz sp wr to v mv f85 f86 f91 (by assumption) (by omega) (by omega) (by omega) hf4) (cwV 3 hts gX7_shifts_X7_slides rfl rfl rfl (by decide +kernel) ⟨Nat.le_of_ble_eq_true rfl, Nat.le_of_ble_eq_true rfl⟩) (by decide) f85 rfl rfl hl.1 rfl (Nat.le_of_ble_eq_true rfl) dX7_shifts_106 ⟨Nat.le_of_ble_eq_true rfl, Nat.le_of_ble_eq_true rfl⟩ (fun σ38 H locs hp39 hH => ?_)
              obtain ⟨⟨v1_41, m1_42, f85, f86, f91, hC2⟩, fr40⟩ := hp39
              refine lv_aload_n hx hb dX7_shifts_109 rfl (lv_at hl 2 rfl) ?_
              refine x_get hx hb hts hown hK hH 85 (by decide) f85 hinX7 rfl 0 (by decide) (List.mem_of_getElem? (i := 1) rfl) rfl dX7_shifts_110 ?_
              refine x_iconst hx hb dX7_shifts_113 ?_
              refine lv_dup2_11 hx hb dX7_shifts_114 rfl rfl ?_
              refine x_iald hx hb hK hH 86 (by decide) f86 (by omega) (by omega) (by omega) dX7_shifts_115 ?_
              rw [hC2.1.2.1]
              refine x_iconst hx hb dX7_shifts_116 ?_
              refine x_iadd hx hb dX7_shifts_117 ?_
              refine x_iast hx hb hK hH 86 (by decide) f86 (by omega) (by omega) (by omega) dX7_shifts_118 (fun σ44 H locs f86 fr45 hH => ?_)
              have f85 : σ44 85 = oB 5 [.ref (xad E 86), .ref (xad E 87), .ref (xad E 88), .ref (xad E 89), .ref (xad E 90), .int (iZ (b2 sv)), .int (iZ re), .int (iZ ea), .int (iZ fa), .ref (xad E 91), .ref (xad E 92), .ref (xad E 93), .int (iZ ty), .ref (xad E 94), .int (iZ li), .int (iZ (thZ (decide (0 ≤ ln9 ∧ ln9 ≤ 4)) false (frB pn ro ln9))), .int (iZ sz), .int (iZ sp), .int (iZ wr), .int (iZ to), .ref (xad E 95)] := (fr45 85 (by omega)).trans f85
              have f91 : σ44 91 = aI E 15 m1_42 := (fr45 91 (by omega)).trans f91
              refine lv_iload hx hb dX7_shifts_119 (lv_at hl 1 rfl) ?_
              subst hQ
              exact x_iret hx hb hr hlocks hH (Nat.le_of_ble_eq_true rfl) (Nat.le_of_ble_eq_true rfl) ⟨(by first | exact rs_ok hy9 (by have e9 : k = nw := (by omega); rw [hcnt, e9]) (by have h8 := lnC_b (wc := wc) (b := ro) (ln := ln9) hnw.1; exact ⟨by omega, by omega⟩) | exact rs_no (ln_n (op := op) (lk := lk) (kp := kp) (wc := wc) (pn := pn) (nw := nw) (sh := sh) (wk := wk) (b := ro) (r := ln9) (st := st9) (by first | (simp; omega) | omega) rfl c33)), ⟨(ui v1_41 1 (sh + 1)), m1_42, (f85.trans (by rw [ln_th (op := op) (lk := lk) (kp := kp) (wc := wc) (pn := pn) (nw := nw) (sh := sh) (wk := wk) (b := ro) (r := ln9) (st := st9) hnw.1 hwc (by first | (simp; omega) | omega) rfl])), f86, f91, (by first | exact cp_ok (Cp_sh hC2 hnw.2 (by unfold rg; omega)) hy9 | exact cp_no hC (ln_n (op := op) (lk := lk) (kp := kp) (wc := wc) (pn := pn) (nw := nw) (sh := sh) (wk := wk) (b := ro) (r := ln9) (st := st9) (by first | (simp; omega) | omega) rfl c33))⟩, fun j hj0 hj1 => ((fr45 j (by omega)).trans ((fr40 j (by omega) (by omega)).trans (fr33 j (by omega))))⟩ dX7_shifts_121
            · refine lv_aload_n hx hb dX7_shifts_55 rfl (lv_at hl 2 rfl) ?_
              refine x_get hx hb hts hown hK hH 85 (by decide) f85 hinX7 rfl 0 (by decide) (List.mem_of_getElem? (i := 1) rfl) rfl dX7_shifts_56 ?_
              refine x_bipush hx hb dX7_shifts_59 (by decide) ?_
              refine lv_iload hx hb dX7_shifts_61 (lv_at hl 0 rfl) ?_
              refine x_iadd hx hb dX7_shifts_63 ?_
              refine x_iald hx hb hK hH 86 (by decide) f86 (by omega) (by omega) (by omega) dX7_shifts_64 ?_
              have hv46 := hvR (9 + k)
              rw [hC.wal (by omega) (by omega)]; have hwq := hwc k
              refine lv_istore (lv' := [(6, .int (iZ (wc k))), (5, .int (iZ k)), (4, .int (iZ cnt)), (0, .ref (xad E 85)), (1, .int (iZ (b2 ro))), (2, .int (iZ ln9)), (3, .int (iZ st9))]) hx hb dX7_shifts_65 hl (by decide) rfl (fun ls hl => ?_)
              refine lv_iload hx hb dX7_shifts_67 (lv_at hl 2 rfl) ?_
              refine lv_iload_n hx hb dX7_shifts_69 rfl (lv_at hl 4 rfl) ?_
              refine x_ifb_eq (tgt := 80) hx hb dX7_shifts_70 (by decide) (fun c70 => ?_) (fun c70 => ?_)
              · refine lv_iload hx hb dX7_shifts_80 (lv_at hl 0 rfl) ?_
                refine x_iconst hx hb dX7_shifts_82 ?_
                refine x_irem hx hb dX7_shifts_83 (by omega) (by omega) (by omega) (by omega) ?_
                refine lv_iload_n hx hb dX7_shifts_84 rfl (lv_at hl 5 rfl) ?_
                refine x_icmp_ne (tgt := 92) hx hb dX7_shifts_85 (by decide) (by omega) (by omega) (fun c85 => ?_) (fun c85 => ?_)
                · refine x_iconst hx hb dX7_shifts_92 ?_
                  refine x_iadd hx hb dX7_shifts_93 ?_
                  refine lv_istore (lv' := [(4, .int (iZ (cnt + 0))), (6, .int (iZ (wc k))), (5, .int (iZ k)), (0, .ref (xad E 85)), (1, .int (iZ (b2 ro))), (2, .int (iZ ln9)), (3, .int (iZ st9))]) hx hb dX7_shifts_94 hl (by decide) rfl (fun ls hl => ?_)
                  refine x_iinc (lv' := [(5, .int (iZ (k + 1))), (4, .int (iZ (cnt + 0))), (6, .int (iZ (wc k))), (0, .ref (xad E 85)), (1, .int (iZ (b2 ro))), (2, .int (iZ ln9)), (3, .int (iZ st9))]) hx hb dX7_shifts_96 hl (k := 2) rfl (by decide) rfl (fun ls hl => ?_)
                  refine lv_goto (tgt := 44) hx hb dX7_shifts_99 (by decide) ?_
                  exact ih44 (cnt + 0) (k + 1) _ _ _ (by omega) (by omega) (by rw [hcnt]; first | exact lnC_t hk.1 (Or.inl ⟨c70, c85⟩) | exact lnC_t hk.1 (Or.inr ⟨c70, c85⟩) | exact lnC_f hk.1 (Or.inl ⟨c70, c85⟩) | exact lnC_f hk.1 (Or.inr ⟨c70, c85⟩)) (by omega)  hH (lv_sub hl [0, 1, 3, 4, 5, 6] rfl)
                · refine x_iconst hx hb dX7_shifts_88 ?_
                  refine lv_goto (tgt := 93) hx hb dX7_shifts_89 (by decide) ?_
                  refine x_iadd hx hb dX7_shifts_93 ?_
                  refine lv_istore (lv' := [(4, .int (iZ (cnt + 1))), (6, .int (iZ (wc k))), (5, .int (iZ k)), (0, .ref (xad E 85)), (1, .int (iZ (b2 ro))), (2, .int (iZ ln9)), (3, .int (iZ st9))]) hx hb dX7_shifts_94 hl (by decide) rfl (fun ls hl => ?_)
                  refine x_iinc (lv' := [(5, .int (iZ (k + 1))), (4, .int (iZ (cnt + 1))), (6, .int (iZ (wc k))), (0, .ref (xad E 85)), (1, .int (iZ (b2 ro))), (2, .int (iZ ln9)), (3, .int (iZ st9))]) hx hb dX7_shifts_96 hl (k := 2) rfl (by decide) rfl (fun ls hl => ?_)
                  refine lv_goto (tgt := 44) hx hb dX7_shifts_99 (by decide) ?_
                  exact ih44 (cnt + 1) (k + 1) _ _ _ (by omega) (by omega) (by rw [hcnt]; first | exact lnC_t hk.1 (Or.inl ⟨c70, c85⟩) | exact lnC_t hk.1 (Or.inr ⟨c70, c85⟩) | exact lnC_f hk.1 (Or.inl ⟨c70, c85⟩) | exact lnC_f hk.1 (Or.inr ⟨c70, c85⟩)) (by omega)  hH (lv_sub hl [0, 1, 3, 4, 5, 6] rfl)
              · refine lv_iload hx hb dX7_shifts_73 (lv_at hl 0 rfl) ?_
                refine x_iconst hx hb dX7_shifts_75 ?_
                refine x_idiv hx hb dX7_shifts_76 (by omega) (by omega) (by omega) (by omega) ?_
                refine lv_goto (tgt := 84) hx hb dX7_shifts_77 (by decide) ?_
                refine lv_iload_n hx hb dX7_shifts_84 rfl (lv_at hl 5 rfl) ?_
                refine x_icmp_ne (tgt := 92) hx hb dX7_shifts_85 (by decide) (by omega) (by omega) (fun c85 => ?_) (fun c85 => ?_)
                · refine x_iconst hx hb dX7_shifts_92 ?_
                  refine x_iadd hx hb dX7_shifts_93 ?_
                  refine lv_istore (lv' := [(4, .int (iZ (cnt + 0))), (6, .int (iZ (wc k))), (5, .int (iZ k)), (0, .ref (xad E 85)), (1, .int (iZ (b2 ro))), (2, .int (iZ ln9)), (3, .int (iZ st9))]) hx hb dX7_shifts_94 hl (by decide) rfl (fun ls hl => ?_)
                  refine x_iinc (lv' := [(5, .int (iZ (k + 1))), (4, .int (iZ (cnt + 0))), (6, .int (iZ (wc k))), (0, .ref (xad E 85)), (1, .int (iZ (b2 ro))), (2, .int (iZ ln9)), (3, .int (iZ st9))]) hx hb dX7_shifts_96 hl (k := 2) rfl (by decide) rfl (fun ls hl => ?_)
                  refine lv_goto (tgt := 44) hx hb dX7_shifts_99 (by decide) ?_
                  exact ih44 (cnt + 0) (k + 1) _ _ _ (by omega) (by omega) (by rw [hcnt]; first | exact lnC_t hk.1 (Or.inl ⟨c70, c85⟩) | exact lnC_t hk.1 (Or.inr ⟨c70, c85⟩) | exact lnC_f hk.1 (Or.inl ⟨c70, c85⟩) | exact lnC_f hk.1 (Or.inr ⟨c70, c85⟩)) (by omega)  hH (lv_sub hl [0, 1, 3, 4, 5, 6] rfl)
                · refine x_iconst hx hb dX7_shifts_88 ?_
                  refine lv_goto (tgt := 93) hx hb dX7_shifts_89 (by decide) ?_
                  refine x_iadd hx hb dX7_shifts_93 ?_
                  refine lv_istore (lv' := [(4, .int (iZ (cnt + 1))), (6, .int (iZ (wc k))), (5, .int (iZ k)), (0, .ref (xad E 85)), (1, .int (iZ (b2 ro))), (2, .int (iZ ln9)), (3, .int (iZ st9))]) hx hb dX7_shifts_94 hl (by decide) rfl (fun ls hl => ?_)
                  refine x_iinc (lv' := [(5, .int (iZ (k + 1))), (4, .int (iZ (cnt + 1))), (6, .int (iZ (wc k))), (0, .ref (xad E 85)), (1, .int (iZ (b2 ro))), (2, .int (iZ ln9)), (3, .int (iZ st9))]) hx hb dX7_shifts_96 hl (k := 2) rfl (by decide) rfl (fun ls hl => ?_)
                  refine lv_goto (tgt := 44) hx hb dX7_shifts_99 (by decide) ?_
                  exact ih44 (cnt + 1) (k + 1) _ _ _ (by omega) (by omega) (by rw [hcnt]; first | exact lnC_t hk.1 (Or.inl ⟨c70, c85⟩) | exact lnC_t hk.1 (Or.inr ⟨c70, c85⟩) | exact lnC_f hk.1 (Or.inl ⟨c70, c85⟩) | exact lnC_f hk.1 (Or.inr ⟨c70, c85⟩)) (by omega)  hH (lv_sub hl [0, 1, 3, 4, 5, 6] rfl)
        exact K44 4 0 0 _ _ _ (by first | omega | decide) (by omega) (by rfl) (by omega)  hH (lv_sub hl [0, 1, 2, 3, 4, 5] rfl)
      · refine x_iconst hx hb dX7_shifts_36 ?_
        subst hQ
        exact x_iret hx hb hr hlocks hH (Nat.le_of_ble_eq_true rfl) (Nat.le_of_ble_eq_true rfl) ⟨(by first | exact rs_ok hy9 (by have e9 : k = nw := (by omega); rw [hcnt, e9]) (by have h8 := lnC_b (wc := wc) (b := ro) (ln := ln9) hnw.1; exact ⟨by omega, by omega⟩) | exact rs_no (ln_n (op := op) (lk := lk) (kp := kp) (wc := wc) (pn := pn) (nw := nw) (sh := sh) (wk := wk) (b := ro) (r := ln9) (st := st9) (by first | (simp; omega) | omega) rfl c33)), ⟨v, mv, (f85.trans (by rw [ln_th (op := op) (lk := lk) (kp := kp) (wc := wc) (pn := pn) (nw := nw) (sh := sh) (wk := wk) (b := ro) (r := ln9) (st := st9) hnw.1 hwc (by first | (simp; omega) | omega) rfl])), f86, f91, (by first | exact cp_ok (Cp_sh hC2 hnw.2 (by unfold rg; omega)) hy9 | exact cp_no hC (ln_n (op := op) (lk := lk) (kp := kp) (wc := wc) (pn := pn) (nw := nw) (sh := sh) (wk := wk) (b := ro) (r := ln9) (st := st9) (by first | (simp; omega) | omega) rfl c33))⟩, fun j hj0 hj1 => (fr33 j (by omega))⟩ dX7_shifts_37
    · have c16 := of_decide_eq_true c16
      refine x_iconst hx hb dX7_shifts_19 ?_
      refine lv_goto (tgt := 24) hx hb dX7_shifts_20 (by decide) ?_
      refine lv_aload_n hx hb dX7_shifts_24 rfl (lv_at hl 0 rfl) ?_
      refine lv_iload_n hx hb dX7_shifts_25 rfl (lv_at hl 1 rfl) ?_
      refine lv_iload_n hx hb dX7_shifts_26 rfl (lv_at hl 2 rfl) ?_
      refine x_cVID (As := [.int (iZ (b2 ro)), .int (iZ ln9)]) (rest := [.int (iZ 1), .int (iZ (b2 (decide (0 ≤ ln9 ∧ ln9 ≤ 4)))), .ref (xad E 85)]) hx hb hml hts hown hK hST hOK hH 85 (c_X7_isFree l E ST hSF σ ro ln9 op lk kp wc pn nw sh wk sv re ea fa ty li th sz sp wr to v f85 f86 (by assumption) (by omega) (by omega)) (cwV 2 hts gX7_shifts_X7_isFree rfl rfl rfl (by decide +kernel) ⟨Nat.le_of_ble_eq_true rfl, Nat.le_of_ble_eq_true rfl⟩) (by decide) f85 rfl rfl hl.1 rfl (Nat.le_of_ble_eq_true rfl) dX7_shifts_27 ⟨Nat.le_of_ble_eq_true rfl, Nat.le_of_ble_eq_true rfl⟩ (fun z u h => h) (fun H locs hH => ?_)
      refine x_cVIE (As := [.int (iZ (b2 (decide (0 ≤ ln9 ∧ ln9 ≤ 4)))), .int (iZ 1), .int (iZ (b2 (frB pn ro ln9)))]) (rest := []) hx hb hml hts hown hK hST hOK hH 85 (c_X7_holds l E ST hSF σ (decide (0 ≤ ln9 ∧ ln9 ≤ 4)) true (frB pn ro ln9) sv re ea fa ty li th sz sp wr to f85 ) (cwV 3 hts gX7_shifts_X7_holds rfl rfl rfl (by decide +kernel) ⟨Nat.le_of_ble_eq_true rfl, Nat.le_of_ble_eq_true rfl⟩) (by decide) f85 rfl rfl hl.1 rfl (Nat.le_of_ble_eq_true rfl) dX7_shifts_30 ⟨Nat.le_of_ble_eq_true rfl, Nat.le_of_ble_eq_true rfl⟩ (fun z u h => h) (fun σ51 H locs hp52 hH => ?_)
      obtain ⟨f85, fr53⟩ := hp52
      have f86 : σ51 86 = aI E 87 v := (fr53 86 (by omega)).trans f86
      have f91 : σ51 91 = aI E 15 mv := (fr53 91 (by omega)).trans f91
      refine x_ifb_ne (tgt := 38) hx hb dX7_shifts_33 (by decide) (fun c33 => ?_) (fun c33 => ?_)
      · obtain ⟨⟨hr4, hs4, hf4⟩, hy9⟩ := ln_y (op := op) (lk := lk) (kp := kp) (wc := wc) (pn := pn) (nw := nw) (sh := sh) (wk := wk) (b := ro) (r := ln9) (st := st9) hwc (by first | (simp; omega) | omega) rfl c33
        refine x_iconst hx hb dX7_shifts_38 ?_
        refine lv_istore (lv' := [(4, .int (iZ 0)), (0, .ref (xad E 85)), (1, .int (iZ (b2 ro))), (2, .int (iZ ln9)), (3, .int (iZ st9))]) hx hb dX7_shifts_39 hl (by decide) rfl (fun ls hl => ?_)
        refine x_iconst hx hb dX7_shifts_41 ?_
        refine lv_istore (lv' := [(5, .int (iZ 0)), (4, .int (iZ 0)), (0, .ref (xad E 85)), (1, .int (iZ (b2 ro))), (2, .int (iZ ln9)), (3, .int (iZ st9))]) hx hb dX7_shifts_42 hl (by decide) rfl (fun ls hl => ?_)
        have K44 : ∀ (nK : Nat) (cnt k : Int) (H : Heap) (locs : List Loc) (ls : Array Slot), (nw - k).toNat < nK → (0 ≤ k ∧ k ≤ nw) → (cnt = lnC wc ro ln9 k) → (0 ≤ cnt ∧ cnt ≤ k) → Hx E (xA E s.heap.size) s.heap σ51 H locs → lv_has ls 7 [(5, .int (iZ k)), (4, .int (iZ cnt)), (0, .ref (xad E 85)), (1, .int (iZ (b2 ro))), (2, .int (iZ ln9)), (3, .int (iZ st9))] → W p l e rm_X7_shifts s m args below meth c H locs 0 0 Q (F0 m 44 ls []) := by
          intro n44
          induction n44 with
          | zero =>
            intro cnt k H locs ls hm
            exact absurd hm (by first | exact Nat.not_lt_zero _ | omega)
          | succ n44 ih44 =>
            intro cnt k H locs ls hm44 hk hcnt hcb  hH hl
            refine lv_iload hx hb dX7_shifts_44 (lv_at hl 0 rfl) ?_
            refine lv_aload_n hx hb dX7_shifts_46 rfl (lv_at hl 2 rfl) ?_
            refine x_get hx hb hts hown hK hH 85 (by decide) f85 hinX7 rfl 0 (by decide) (List.mem_of_getElem? (i := 1) rfl) rfl dX7_shifts_47 ?_
            refine x_iconst hx hb dX7_shifts_50 ?_
            refine x_iald hx hb hK hH 86 (by decide) f86 (by omega) (by omega) (by omega) dX7_shifts_51 ?_
            have hv56 := hvR 0
            rw [hv0]
            refine x_icmp_ge (tgt := 102) hx hb dX7_shifts_52 (by decide) (by omega) (by omega) (fun c52 => ?_) (fun c52 => ?_)
            · refine lv_aload_n hx hb dX7_shifts_102 rfl (lv_at hl 2 rfl) ?_
              refine lv_iload_n hx hb dX7_shifts_103 rfl (lv_at hl 3 rfl) ?_
              refine lv_iload_n hx hb dX7_shifts_104 rfl (lv_at hl 4 rfl) ?_
              refine lv_iload_n hx hb dX7_shifts_105 rfl (lv_at hl 5 rfl) ?_
              refine x_cVV (As := [.int (iZ (b2 ro)), .int (iZ ln9), .int (iZ st9)]) (rest := []) hx hb hml hts hown hK hST hOK hH 85 (c_X7_slides l E ST hSF σ51 ro ln9 st9 op lk kp wc pn nw sh wk sv re ea fa ty li (thZ (decide (0 ≤ ln9 ∧ ln9 ≤ 4)) true (frB pn ro ln9)) sz sp wr to v mv f85 f86 f91 (by assumption) (by omega) (by omega) (by omega) hf4) (cwV 3 hts gX7_shifts_X7_slides rfl rfl rfl (by decide +kernel) ⟨Nat.le_of_ble_eq_true rfl, Nat.le_of_ble_eq_true rfl⟩) (by decide) f85 rfl rfl hl.1 rfl (Nat.le_of_ble_eq_true rfl) dX7_shifts_106 ⟨Nat.le_of_ble_eq_true rfl, Nat.le_of_ble_eq_true rfl⟩ (fun σ58 H locs hp59 hH => ?_)
              obtain ⟨⟨v1_61, m1_62, f85, f86, f91, hC2⟩, fr60⟩ := hp59
              refine lv_aload_n hx hb dX7_shifts_109 rfl (lv_at hl 2 rfl) ?_
              refine x_get hx hb hts hown hK hH 85 (by decide) f85 hinX7 rfl 0 (by decide) (List.mem_of_getElem? (i := 1) rfl) rfl dX7_shifts_110 ?_
              refine x_iconst hx hb dX7_shifts_113 ?_
              refine lv_dup2_11 hx hb dX7_shifts_114 rfl rfl ?_
              refine x_iald hx hb hK hH 86 (by decide) f86 (by omega) (by omega) (by omega) dX7_shifts_115 ?_
              rw [hC2.1.2.1]
              refine x_iconst hx hb dX7_shifts_116 ?_
              refine x_iadd hx hb dX7_shifts_117 ?_
              refine x_iast hx hb hK hH 86 (by decide) f86 (by omega) (by omega) (by omega) dX7_shifts_118 (fun σ64 H locs f86 fr65 hH => ?_)
              have f85 : σ64 85 = oB 5 [.ref (xad E 86), .ref (xad E 87), .ref (xad E 88), .ref (xad E 89), .ref (xad E 90), .int (iZ (b2 sv)), .int (iZ re), .int (iZ ea), .int (iZ fa), .ref (xad E 91), .ref (xad E 92), .ref (xad E 93), .int (iZ ty), .ref (xad E 94), .int (iZ li), .int (iZ (thZ (decide (0 ≤ ln9 ∧ ln9 ≤ 4)) true (frB pn ro ln9))), .int (iZ sz), .int (iZ sp), .int (iZ wr), .int (iZ to), .ref (xad E 95)] := (fr65 85 (by omega)).trans f85
              have f91 : σ64 91 = aI E 15 m1_62 := (fr65 91 (by omega)).trans f91
              refine lv_iload hx hb dX7_shifts_119 (lv_at hl 1 rfl) ?_
              subst hQ
              exact x_iret hx hb hr hlocks hH (Nat.le_of_ble_eq_true rfl) (Nat.le_of_ble_eq_true rfl) ⟨(by first | exact rs_ok hy9 (by have e9 : k = nw := (by omega); rw [hcnt, e9]) (by have h8 := lnC_b (wc := wc) (b := ro) (ln := ln9) hnw.1; exact ⟨by omega, by omega⟩) | exact rs_no (ln_n (op := op) (lk := lk) (kp := kp) (wc := wc) (pn := pn) (nw := nw) (sh := sh) (wk := wk) (b := ro) (r := ln9) (st := st9) (by first | (simp; omega) | omega) rfl c33)), ⟨(ui v1_61 1 (sh + 1)), m1_62, (f85.trans (by rw [ln_th (op := op) (lk := lk) (kp := kp) (wc := wc) (pn := pn) (nw := nw) (sh := sh) (wk := wk) (b := ro) (r := ln9) (st := st9) hnw.1 hwc (by first | (simp; omega) | omega) rfl])), f86, f91, (by first | exact cp_ok (Cp_sh hC2 hnw.2 (by unfold rg; omega)) hy9 | exact cp_no hC (ln_n (op := op) (lk := lk) (kp := kp) (wc := wc) (pn := pn) (nw := nw) (sh := sh) (wk := wk) (b := ro) (r := ln9) (st := st9) (by first | (simp; omega) | omega) rfl c33))⟩, fun j hj0 hj1 => ((fr65 j (by omega)).trans ((fr60 j (by omega) (by omega)).trans (fr53 j (by omega))))⟩ dX7_shifts_121
            · refine lv_aload_n hx hb dX7_shifts_55 rfl (lv_at hl 2 rfl) ?_
              refine x_get hx hb hts hown hK hH 85 (by decide) f85 hinX7 rfl 0 (by decide) (List.mem_of_getElem? (i := 1) rfl) rfl dX7_shifts_56 ?_
              refine x_bipush hx hb dX7_shifts_59 (by decide) ?_
              refine lv_iload hx hb dX7_shifts_61 (lv_at hl 0 rfl) ?_
              refine x_iadd hx hb dX7_shifts_63 ?_
              refine x_iald hx hb hK hH 86 (by decide) f86 (by omega) (by omega) (by omega) dX7_shifts_64 ?_
              have hv66 := hvR (9 + k)
              rw [hC.wal (by omega) (by omega)]; have hwq := hwc k
              refine lv_istore (lv' := [(6, .int (iZ (wc k))), (5, .int (iZ k)), (4, .int (iZ cnt)), (0, .ref (xad E 85)), (1, .int (iZ (b2 ro))), (2, .int (iZ ln9)), (3, .int (iZ st9))]) hx hb dX7_shifts_65 hl (by decide) rfl (fun ls hl => ?_)
              refine lv_iload hx hb dX7_shifts_67 (lv_at hl 2 rfl) ?_
              refine lv_iload_n hx hb dX7_shifts_69 rfl (lv_at hl 4 rfl) ?_
              refine x_ifb_eq (tgt := 80) hx hb dX7_shifts_70 (by decide) (fun c70 => ?_) (fun c70 => ?_)
              · refine lv_iload hx hb dX7_shifts_80 (lv_at hl 0 rfl) ?_
                refine x_iconst hx hb dX7_shifts_82 ?_
                refine x_irem hx hb dX7_shifts_83 (by omega) (by omega) (by omega) (by omega) ?_
                refine lv_iload_n hx hb dX7_shifts_84 rfl (lv_at hl 5 rfl) ?_
                refine x_icmp_ne (tgt := 92) hx hb dX7_shifts_85 (by decide) (by omega) (by omega) (fun c85 => ?_) (fun c85 => ?_)
                · refine x_iconst hx hb dX7_shifts_92 ?_
                  refine x_iadd hx hb dX7_shifts_93 ?_
                  refine lv_istore (lv' := [(4, .int (iZ (cnt + 0))), (6, .int (iZ (wc k))), (5, .int (iZ k)), (0, .ref (xad E 85)), (1, .int (iZ (b2 ro))), (2, .int (iZ ln9)), (3, .int (iZ st9))]) hx hb dX7_shifts_94 hl (by decide) rfl (fun ls hl => ?_)
                  refine x_iinc (lv' := [(5, .int (iZ (k + 1))), (4, .int (iZ (cnt + 0))), (6, .int (iZ (wc k))), (0, .ref (xad E 85)), (1, .int (iZ (b2 ro))), (2, .int (iZ ln9)), (3, .int (iZ st9))]) hx hb dX7_shifts_96 hl (k := 2) rfl (by decide) rfl (fun ls hl => ?_)
                  refine lv_goto (tgt := 44) hx hb dX7_shifts_99 (by decide) ?_
                  exact ih44 (cnt + 0) (k + 1) _ _ _ (by omega) (by omega) (by rw [hcnt]; first | exact lnC_t hk.1 (Or.inl ⟨c70, c85⟩) | exact lnC_t hk.1 (Or.inr ⟨c70, c85⟩) | exact lnC_f hk.1 (Or.inl ⟨c70, c85⟩) | exact lnC_f hk.1 (Or.inr ⟨c70, c85⟩)) (by omega)  hH (lv_sub hl [0, 1, 3, 4, 5, 6] rfl)
                · refine x_iconst hx hb dX7_shifts_88 ?_
                  refine lv_goto (tgt := 93) hx hb dX7_shifts_89 (by decide) ?_
                  refine x_iadd hx hb dX7_shifts_93 ?_
                  refine lv_istore (lv' := [(4, .int (iZ (cnt + 1))), (6, .int (iZ (wc k))), (5, .int (iZ k)), (0, .ref (xad E 85)), (1, .int (iZ (b2 ro))), (2, .int (iZ ln9)), (3, .int (iZ st9))]) hx hb dX7_shifts_94 hl (by decide) rfl (fun ls hl => ?_)
                  refine x_iinc (lv' := [(5, .int (iZ (k + 1))), (4, .int (iZ (cnt + 1))), (6, .int (iZ (wc k))), (0, .ref (xad E 85)), (1, .int (iZ (b2 ro))), (2, .int (iZ ln9)), (3, .int (iZ st9))]) hx hb dX7_shifts_96 hl (k := 2) rfl (by decide) rfl (fun ls hl => ?_)
                  refine lv_goto (tgt := 44) hx hb dX7_shifts_99 (by decide) ?_
                  exact ih44 (cnt + 1) (k + 1) _ _ _ (by omega) (by omega) (by rw [hcnt]; first | exact lnC_t hk.1 (Or.inl ⟨c70, c85⟩) | exact lnC_t hk.1 (Or.inr ⟨c70, c85⟩) | exact lnC_f hk.1 (Or.inl ⟨c70, c85⟩) | exact lnC_f hk.1 (Or.inr ⟨c70, c85⟩)) (by omega)  hH (lv_sub hl [0, 1, 3, 4, 5, 6] rfl)
              · refine lv_iload hx hb dX7_shifts_73 (lv_at hl 0 rfl) ?_
                refine x_iconst hx hb dX7_shifts_75 ?_
                refine x_idiv hx hb dX7_shifts_76 (by omega) (by omega) (by omega) (by omega) ?_
                refine lv_goto (tgt := 84) hx hb dX7_shifts_77 (by decide) ?_
                refine lv_iload_n hx hb dX7_shifts_84 rfl (lv_at hl 5 rfl) ?_
                refine x_icmp_ne (tgt := 92) hx hb dX7_shifts_85 (by decide) (by omega) (by omega) (fun c85 => ?_) (fun c85 => ?_)
                · refine x_iconst hx hb dX7_shifts_92 ?_
                  refine x_iadd hx hb dX7_shifts_93 ?_
                  refine lv_istore (lv' := [(4, .int (iZ (cnt + 0))), (6, .int (iZ (wc k))), (5, .int (iZ k)), (0, .ref (xad E 85)), (1, .int (iZ (b2 ro))), (2, .int (iZ ln9)), (3, .int (iZ st9))]) hx hb dX7_shifts_94 hl (by decide) rfl (fun ls hl => ?_)
                  refine x_iinc (lv' := [(5, .int (iZ (k + 1))), (4, .int (iZ (cnt + 0))), (6, .int (iZ (wc k))), (0, .ref (xad E 85)), (1, .int (iZ (b2 ro))), (2, .int (iZ ln9)), (3, .int (iZ st9))]) hx hb dX7_shifts_96 hl (k := 2) rfl (by decide) rfl (fun ls hl => ?_)
                  refine lv_goto (tgt := 44) hx hb dX7_shifts_99 (by decide) ?_
                  exact ih44 (cnt + 0) (k + 1) _ _ _ (by omega) (by omega) (by rw [hcnt]; first | exact lnC_t hk.1 (Or.inl ⟨c70, c85⟩) | exact lnC_t hk.1 (Or.inr ⟨c70, c85⟩) | exact lnC_f hk.1 (Or.inl ⟨c70, c85⟩) | exact lnC_f hk.1 (Or.inr ⟨c70, c85⟩)) (by omega)  hH (lv_sub hl [0, 1, 3, 4, 5, 6] rfl)
                · refine x_iconst hx hb dX7_shifts_88 ?_
                  refine lv_goto (tgt := 93) hx hb dX7_shifts_89 (by decide) ?_
                  refine x_iadd hx hb dX7_shifts_93 ?_
                  refine lv_istore (lv' := [(4, .int (iZ (cnt + 1))), (6, .int (iZ (wc k))), (5, .int (iZ k)), (0, .ref (xad E 85)), (1, .int (iZ (b2 ro))), (2, .int (iZ ln9)), (3, .int (iZ st9))]) hx hb dX7_shifts_94 hl (by decide) rfl (fun ls hl => ?_)
                  refine x_iinc (lv' := [(5, .int (iZ (k + 1))), (4, .int (iZ (cnt + 1))), (6, .int (iZ (wc k))), (0, .ref (xad E 85)), (1, .int (iZ (b2 ro))), (2, .int (iZ ln9)), (3, .int (iZ st9))]) hx hb dX7_shifts_96 hl (k := 2) rfl (by decide) rfl (fun ls hl => ?_)
                  refine lv_goto (tgt := 44) hx hb dX7_shifts_99 (by decide) ?_
                  exact ih44 (cnt + 1) (k + 1) _ _ _ (by omega) (by omega) (by rw [hcnt]; first | exact lnC_t hk.1 (Or.inl ⟨c70, c85⟩) | exact lnC_t hk.1 (Or.inr ⟨c70, c85⟩) | exact lnC_f hk.1 (Or.inl ⟨c70, c85⟩) | exact lnC_f hk.1 (Or.inr ⟨c70, c85⟩)) (by omega)  hH (lv_sub hl [0, 1, 3, 4, 5, 6] rfl)
        exact K44 4 0 0 _ _ _ (by first | omega | decide) (by omega) (by rfl) (by omega)  hH (lv_sub hl [0, 1, 2, 3, 4, 5] rfl)
      · refine x_iconst hx hb dX7_shifts_36 ?_
        subst hQ
        exact x_iret hx hb hr hlocks hH (Nat.le_of_ble_eq_true rfl) (Nat.le_of_ble_eq_true rfl) ⟨(by first | exact rs_ok hy9 (by have e9 : k = nw := (by omega); rw [hcnt, e9]) (by have h8 := lnC_b (wc := wc) (b := ro) (ln := ln9) hnw.1; exact ⟨by omega, by omega⟩) | exact rs_no (ln_n (op := op) (lk := lk) (kp := kp) (wc := wc) (pn := pn) (nw := nw) (sh := sh) (wk := wk) (b := ro) (r := ln9) (st := st9) (by first | (simp; omega) | omega) rfl c33)), ⟨v, mv, (f85.trans (by rw [ln_th (op := op) (lk := lk) (kp := kp) (wc := wc) (pn := pn) (nw := nw) (sh := sh) (wk := wk) (b := ro) (r := ln9) (st := st9) hnw.1 hwc (by first | (simp; omega) | omega) rfl])), f86, f91, (by first | exact cp_ok (Cp_sh hC2 hnw.2 (by unfold rg; omega)) hy9 | exact cp_no hC (ln_n (op := op) (lk := lk) (kp := kp) (wc := wc) (pn := pn) (nw := nw) (sh := sh) (wk := wk) (b := ro) (r := ln9) (st := st9) (by first | (simp; omega) | omega) rfl c33))⟩, fun j hj0 hj1 => (fr53 j (by omega))⟩ dX7_shifts_37

def rm_X7_shiftRow : Room := { frames := 4, cells := 0, slots := 0, locals := 99 }
set_option maxRecDepth 100000 in
set_option maxHeartbeats 4000000 in
theorem c_X7_shiftRow (l : Launch) (E : xE) (ST : xST) (hSF : SF ST) (σ : xW) (r : Int) (st9 : Int) (op : Int → Int) (lk : Int → Int) (kp : Int → Int) (wc : Int → Int) (pn : Int) (nw : Int) (sh : Int) (wk : Int) (sv : Bool) (re : Int) (ea : Int) (fa : Int) (ty : Int) (li : Int) (th : Int) (sz : Int) (sp : Int) (wr : Int) (to : Int) (v : Int → Int) (wb : Int → Int) (hF : Int → Int) (mv : Int → Int) (hr0 : mo E σ sv re ea fa ty li th sz sp wr to) (hr1 : now E σ v) (hr2 : bef E σ wb) (hr3 : his E σ hF) (hr4 : mov E σ mv) (hC : Cp v op lk kp wc pn nw sh wk) (hB : BI op lk kp wc pn nw) (hre : 0 ≤ re ∧ re ≤ 8) (hr9 : rg r) (hs9 : rg st9) (hsh : 0 ≤ sh ∧ sh ≤ 1000000000) : CI l E ST yX7_shiftRow wsX7_shiftRow rm_X7_shiftRow [.ref (xad E 85), .int (iZ r), .int (iZ st9)] σ (fun (z : Int) (u : xW) => (0 ≤ (lnF op lk kp wc pn nw sh wk true r st9).1 → z = (lnF op lk kp wc pn nw sh wk true r st9).1) ∧ (∃ (v1 m1 : Int → Int), mo E u sv (if tA (lnF op lk kp wc pn nw sh wk true r st9).1 = 0 then re8 re else re) ea fa ty li (tA (lnF op lk kp wc pn nw sh wk true r st9).1) sz sp wr to ∧ now E u (if tA (lnF op lk kp wc pn nw sh wk true r st9).1 = 0 then v1 else v) ∧ bef E u v ∧ his E u (if tA (lnF op lk kp wc pn nw sh wk true r st9).1 = 0 then rmF hF v re else hF) ∧ mov E u m1 ∧ (CpT v1 (lnF op lk kp wc pn nw sh wk true r st9).2)) ∧ ∀ j : Nat, (j < 85 ∨ 85 + 3 ≤ j) → (j < 90 ∨ 90 + 2 ≤ j) → u j = σ j) := by
  have f85 : σ 85 = oB 5 [.ref (xad E 86), .ref (xad E 87), .ref (xad E 88), .ref (xad E 89), .ref (xad E 90), .int (iZ (b2 sv)), .int (iZ re), .int (iZ ea), .int (iZ fa), .ref (xad E 91), .ref (xad E 92), .ref (xad E 93), .int (iZ ty), .ref (xad E 94), .int (iZ li), .int (iZ th), .int (iZ sz), .int (iZ sp), .int (iZ wr), .int (iZ to), .ref (xad E 95)] := hr0
  have f86 : σ 86 = aI E 87 v := hr1
  have f87 : σ 87 = aI E 87 wb := hr2
  have f90 : σ 90 = aI E 696 hF := hr3
  have f91 : σ 91 = aI E 15 mv := hr4
  refine CI_of (by decide) rfl (Nat.le_of_ble_eq_true rfl) ?_
  intro p e s m args below meth c Q ls G hH hl hQ
  obtain ⟨hx, hb, hml, hown, hts, hK, hST, hlocks, hr, hno⟩ := G
  have hOK := hSF.1
  have hown : s.vm.findClass RX7 = some m.cls := hown
  have hl : lv_has ls 3 [(0, .ref (xad E 85)), (1, .int (iZ r)), (2, .int (iZ st9))] := hl
  obtain ⟨hop, hlk, hkp, hwc, hpn, hnw⟩ := id hB
  have hvR := hC.R
  have hv0 := hC.1.1
  refine lv_aload_n hx hb dX7_shiftRow_0 rfl (lv_at hl 0 rfl) ?_
  refine x_cVV (As := []) (rest := []) hx hb hml hts hown hK hST hOK hH 85 (c_X7_begins l E ST hSF σ sv re ea fa ty li th sz sp wr to v wb f85 f86 f87 ) (cwV 0 hts gX7_shiftRow_X7_begins rfl rfl rfl (by decide +kernel) ⟨Nat.le_of_ble_eq_true rfl, Nat.le_of_ble_eq_true rfl⟩) (by decide) f85 rfl rfl hl.1 rfl (Nat.le_of_ble_eq_true rfl) dX7_shiftRow_1 ⟨Nat.le_of_ble_eq_true rfl, Nat.le_of_ble_eq_true rfl⟩ (fun σ2 H locs hp3 hH => ?_)
  obtain ⟨⟨f85, f86, f87⟩, fr4⟩ := hp3
  have f90 : σ2 90 = aI E 696 hF := (fr4 90 (by omega)).trans f90
  have f91 : σ2 91 = aI E 15 mv := (fr4 91 (by omega)).trans f91
  refine lv_aload_n hx hb dX7_shiftRow_4 rfl (lv_at hl 0 rfl) ?_
  refine lv_aload_n hx hb dX7_shiftRow_5 rfl (lv_at hl 0 rfl) ?_
  refine x_iconst hx hb dX7_shiftRow_6 ?_
  refine lv_iload_n hx hb dX7_shiftRow_7 rfl (lv_at hl 1 rfl) ?_
  refine lv_iload_n hx hb dX7_shiftRow_8 rfl (lv_at hl 2 rfl) ?_
  refine x_cVI (As := [.int (iZ 1), .int (iZ r), .int (iZ st9)]) (rest := [.ref (xad E 85)]) hx hb hml hts hown hK hST hOK hH 85 (c_X7_shifts l E ST hSF σ2 true r st9 op lk kp wc pn nw sh wk sv re ea fa ty li th sz sp wr to v mv f85 f86 f91 (by assumption) (by omega) (by omega) (by omega) (by omega)) (cwV 3 hts gX7_shiftRow_X7_shifts rfl rfl rfl (by decide +kernel) ⟨Nat.le_of_ble_eq_true rfl, Nat.le_of_ble_eq_true rfl⟩) (by decide) f85 rfl rfl hl.1 rfl (Nat.le_of_ble_eq_true rfl) dX7_shiftRow_9 ⟨Nat.le_of_ble_eq_true rfl, Nat.le_of_ble_eq_true rfl⟩ (fun z6 σ7 H locs hp8 hH => ?_)
  obtain ⟨hz_, ⟨v1_, m1_10, f85, f86, f91, hf11⟩, fr9⟩ := hp8
  have f87 : σ7 87 = aI E 87 v := (fr9 87 (by omega) (by omega)).trans f87
  have f90 : σ7 90 = aI E 696 hF := (fr9 90 (by omega) (by omega)).trans f90
  have htb : 0 ≤ tA (lnF op lk kp wc pn nw sh wk true r st9).1 ∧ tA (lnF op lk kp wc pn nw sh wk true r st9).1 ≤ 3 := (by unfold tA; (repeat' split) <;> omega)
  refine x_cVIE (As := [.int (iZ z6)]) (rest := []) hx hb hml hts hown hK hST hOK hH 85 (c_X7_ends l E ST hSF σ7 z6 sv re ea fa ty li (tA (lnF op lk kp wc pn nw sh wk true r st9).1) sz sp wr to v1_ v hF f85 f86 f87 f90 (by omega) (by omega) (by omega)) (cwV 1 hts gX7_shiftRow_X7_ends rfl rfl rfl (by decide +kernel) ⟨Nat.le_of_ble_eq_true rfl, Nat.le_of_ble_eq_true rfl⟩) (by decide) f85 rfl rfl hl.1 rfl (Nat.le_of_ble_eq_true rfl) dX7_shiftRow_12 ⟨Nat.le_of_ble_eq_true rfl, Nat.le_of_ble_eq_true rfl⟩ (fun z u h => h) (fun σ13 H locs hp14 hH => ?_)
  obtain ⟨⟨f85, f86, f87, f90⟩, fr15⟩ := hp14
  have f91 : σ13 91 = aI E 15 m1_10 := (fr15 91 (by omega) (by omega)).trans f91
  subst hQ
  exact x_iret hx hb hr hlocks hH (Nat.le_of_ble_eq_true rfl) (Nat.le_of_ble_eq_true rfl) ⟨(by intro h9; rw [if_pos (tA_0 h9)]; exact hz_.2 h9), ⟨v1_, m1_10, (f85.trans (by first | rfl | omega | simp_all)), (f86.trans (congrArg (fun g => aI E 87 g) (show (if (tA (lnF op lk kp wc pn nw sh wk true r st9).1) = 0 then v1_ else v) = (if tA (lnF op lk kp wc pn nw sh wk true r st9).1 = 0 then v1_ else v) from (by first | rfl | omega | simp_all)))), f87, (f90.trans (congrArg (fun g => aI E 696 g) (show (if (tA (lnF op lk kp wc pn nw sh wk true r st9).1) = 0 then rmF hF v re else hF) = (if tA (lnF op lk kp wc pn nw sh wk true r st9).1 = 0 then rmF hF v re else hF) from (by first | rfl | omega | simp_all)))), f91, (by first | assumption | omega | simp_all)⟩, fun j hj0 hj1 => ((fr15 j (by omega) (by omega)).trans ((fr9 j (by omega) (by omega)).trans (fr4 j (by omega))))⟩ dX7_shiftRow_15

def rm_X7_shiftColumn : Room := { frames := 4, cells := 0, slots := 0, locals := 99 }
set_option maxRecDepth 100000 in
set_option maxHeartbeats 4000000 in
theorem c_X7_shiftColumn (l : Launch) (E : xE) (ST : xST) (hSF : SF ST) (σ : xW) (r : Int) (st9 : Int) (op : Int → Int) (lk : Int → Int) (kp : Int → Int) (wc : Int → Int) (pn : Int) (nw : Int) (sh : Int) (wk : Int) (sv : Bool) (re : Int) (ea : Int) (fa : Int) (ty : Int) (li : Int) (th : Int) (sz : Int) (sp : Int) (wr : Int) (to : Int) (v : Int → Int) (wb : Int → Int) (hF : Int → Int) (mv : Int → Int) (hr0 : mo E σ sv re ea fa ty li th sz sp wr to) (hr1 : now E σ v) (hr2 : bef E σ wb) (hr3 : his E σ hF) (hr4 : mov E σ mv) (hC : Cp v op lk kp wc pn nw sh wk) (hB : BI op lk kp wc pn nw) (hre : 0 ≤ re ∧ re ≤ 8) (hr9 : rg r) (hs9 : rg st9) (hsh : 0 ≤ sh ∧ sh ≤ 1000000000) : CI l E ST yX7_shiftColumn wsX7_shiftColumn rm_X7_shiftColumn [.ref (xad E 85), .int (iZ r), .int (iZ st9)] σ (fun (z : Int) (u : xW) => (0 ≤ (lnF op lk kp wc pn nw sh wk false r st9).1 → z = (lnF op lk kp wc pn nw sh wk false r st9).1) ∧ (∃ (v1 m1 : Int → Int), mo E u sv (if tA (lnF op lk kp wc pn nw sh wk false r st9).1 = 0 then re8 re else re) ea fa ty li (tA (lnF op lk kp wc pn nw sh wk false r st9).1) sz sp wr to ∧ now E u (if tA (lnF op lk kp wc pn nw sh wk false r st9).1 = 0 then v1 else v) ∧ bef E u v ∧ his E u (if tA (lnF op lk kp wc pn nw sh wk false r st9).1 = 0 then rmF hF v re else hF) ∧ mov E u m1 ∧ (CpT v1 (lnF op lk kp wc pn nw sh wk false r st9).2)) ∧ ∀ j : Nat, (j < 85 ∨ 85 + 3 ≤ j) → (j < 90 ∨ 90 + 2 ≤ j) → u j = σ j) := by
  have f85 : σ 85 = oB 5 [.ref (xad E 86), .ref (xad E 87), .ref (xad E 88), .ref (xad E 89), .ref (xad E 90), .int (iZ (b2 sv)), .int (iZ re), .int (iZ ea), .int (iZ fa), .ref (xad E 91), .ref (xad E 92), .ref (xad E 93), .int (iZ ty), .ref (xad E 94), .int (iZ li), .int (iZ th), .int (iZ sz), .int (iZ sp), .int (iZ wr), .int (iZ to), .ref (xad E 95)] := hr0
  have f86 : σ 86 = aI E 87 v := hr1
  have f87 : σ 87 = aI E 87 wb := hr2
  have f90 : σ 90 = aI E 696 hF := hr3
  have f91 : σ 91 = aI E 15 mv := hr4
  refine CI_of (by decide) rfl (Nat.le_of_ble_eq_true rfl) ?_
  intro p e s m args below meth c Q ls G hH hl hQ
  obtain ⟨hx, hb, hml, hown, hts, hK, hST, hlocks, hr, hno⟩ := G
  have hOK := hSF.1
  have hown : s.vm.findClass RX7 = some m.cls := hown
  have hl : lv_has ls 3 [(0, .ref (xad E 85)), (1, .int (iZ r)), (2, .int (iZ st9))] := hl
  obtain ⟨hop, hlk, hkp, hwc, hpn, hnw⟩ := id hB
  have hvR := hC.R
  have hv0 := hC.1.1
  refine lv_aload_n hx hb dX7_shiftColumn_0 rfl (lv_at hl 0 rfl) ?_
  refine x_cVV (As := []) (rest := []) hx hb hml hts hown hK hST hOK hH 85 (c_X7_begins l E ST hSF σ sv re ea fa ty li th sz sp wr to v wb f85 f86 f87 ) (cwV 0 hts gX7_shiftColumn_X7_begins rfl rfl rfl (by decide +kernel) ⟨Nat.le_of_ble_eq_true rfl, Nat.le_of_ble_eq_true rfl⟩) (by decide) f85 rfl rfl hl.1 rfl (Nat.le_of_ble_eq_true rfl) dX7_shiftColumn_1 ⟨Nat.le_of_ble_eq_true rfl, Nat.le_of_ble_eq_true rfl⟩ (fun σ2 H locs hp3 hH => ?_)
  obtain ⟨⟨f85, f86, f87⟩, fr4⟩ := hp3
  have f90 : σ2 90 = aI E 696 hF := (fr4 90 (by omega)).trans f90
  have f91 : σ2 91 = aI E 15 mv := (fr4 91 (by omega)).trans f91
  refine lv_aload_n hx hb dX7_shiftColumn_4 rfl (lv_at hl 0 rfl) ?_
  refine lv_aload_n hx hb dX7_shiftColumn_5 rfl (lv_at hl 0 rfl) ?_
  refine x_iconst hx hb dX7_shiftColumn_6 ?_
  refine lv_iload_n hx hb dX7_shiftColumn_7 rfl (lv_at hl 1 rfl) ?_
  refine lv_iload_n hx hb dX7_shiftColumn_8 rfl (lv_at hl 2 rfl) ?_
  refine x_cVI (As := [.int (iZ 0), .int (iZ r), .int (iZ st9)]) (rest := [.ref (xad E 85)]) hx hb hml hts hown hK hST hOK hH 85 (c_X7_shifts l E ST hSF σ2 false r st9 op lk kp wc pn nw sh wk sv re ea fa ty li th sz sp wr to v mv f85 f86 f91 (by assumption) (by omega) (by omega) (by omega) (by omega)) (cwV 3 hts gX7_shiftColumn_X7_shifts rfl rfl rfl (by decide +kernel) ⟨Nat.le_of_ble_eq_true rfl, Nat.le_of_ble_eq_true rfl⟩) (by decide) f85 rfl rfl hl.1 rfl (Nat.le_of_ble_eq_true rfl) dX7_shiftColumn_9 ⟨Nat.le_of_ble_eq_true rfl, Nat.le_of_ble_eq_true rfl⟩ (fun z6 σ7 H locs hp8 hH => ?_)
  obtain ⟨hz_, ⟨v1_, m1_10, f85, f86, f91, hf11⟩, fr9⟩ := hp8
  have f87 : σ7 87 = aI E 87 v := (fr9 87 (by omega) (by omega)).trans f87
  have f90 : σ7 90 = aI E 696 hF := (fr9 90 (by omega) (by omega)).trans f90
  have htb : 0 ≤ tA (lnF op lk kp wc pn nw sh wk false r st9).1 ∧ tA (lnF op lk kp wc pn nw sh wk false r st9).1 ≤ 3 := (by unfold tA; (repeat' split) <;> omega)
  refine x_cVIE (As := [.int (iZ z6)]) (rest := []) hx hb hml hts hown hK hST hOK hH 85 (c_X7_ends l E ST hSF σ7 z6 sv re ea fa ty li (tA (lnF op lk kp wc pn nw sh wk false r st9).1) sz sp wr to v1_ v hF f85 f86 f87 f90 (by omega) (by omega) (by omega)) (cwV 1 hts gX7_shiftColumn_X7_ends rfl rfl rfl (by decide +kernel) ⟨Nat.le_of_ble_eq_true rfl, Nat.le_of_ble_eq_true rfl⟩) (by decide) f85 rfl rfl hl.1 rfl (Nat.le_of_ble_eq_true rfl) dX7_shiftColumn_12 ⟨Nat.le_of_ble_eq_true rfl, Nat.le_of_ble_eq_true rfl⟩ (fun z u h => h) (fun σ13 H locs hp14 hH => ?_)
  obtain ⟨⟨f85, f86, f87, f90⟩, fr15⟩ := hp14
  have f91 : σ13 91 = aI E 15 m1_10 := (fr15 91 (by omega) (by omega)).trans f91
  subst hQ
  exact x_iret hx hb hr hlocks hH (Nat.le_of_ble_eq_true rfl) (Nat.le_of_ble_eq_true rfl) ⟨(by intro h9; rw [if_pos (tA_0 h9)]; exact hz_.2 h9), ⟨v1_, m1_10, (f85.trans (by first | rfl | omega | simp_all)), (f86.trans (congrArg (fun g => aI E 87 g) (show (if (tA (lnF op lk kp wc pn nw sh wk false r st9).1) = 0 then v1_ else v) = (if tA (lnF op lk kp wc pn nw sh wk false r st9).1 = 0 then v1_ else v) from (by first | rfl | omega | simp_all)))), f87, (f90.trans (congrArg (fun g => aI E 696 g) (show (if (tA (lnF op lk kp wc pn nw sh wk false r st9).1) = 0 then rmF hF v re else hF) = (if tA (lnF op lk kp wc pn nw sh wk false r st9).1 = 0 then rmF hF v re else hF) from (by first | rfl | omega | simp_all)))), f91, (by first | assumption | omega | simp_all)⟩, fun j hj0 hj1 => ((fr15 j (by omega) (by omega)).trans ((fr9 j (by omega) (by omega)).trans (fr4 j (by omega))))⟩ dX7_shiftColumn_15
