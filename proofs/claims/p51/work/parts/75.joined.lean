def rm_L_asked_1 : Room := { frames := 7, cells := 1, slots := 6, locals := 113 }
set_option maxRecDepth 100000 in
set_option maxHeartbeats 4000000 in
theorem c_L_asked_1 (l : Launch) (E : xE) (ST : xST) (hSF : SF ST) (hSX : SX ST) (htr : l.stackTraces = false) (σ : xW) (a : Int) (b : Int) (c7 : Int) (B : BT) (S : Option BT) (Y : lnQ) (hr0 : cw E σ B S Y) (hok : okC a b) : XI l E ST yL_asked wML_asked rm_L_asked_1 [.ref (xad E 0), .int (iZ 1), .int (iZ a), .int (iZ b), .int (iZ c7)] σ (fun (z : Int) (u : xW) => z = 97 + lkT B (a * 5 + b) ∧ (¬ lkT B (a * 5 + b) = -1) ∧ u = σ) (fun (n : String) (u : xW) => ((n = "java/util/NoSuchElementException" ∧ lkT B (a * 5 + b) = -1)) ∧ u = σ) := by
  have fcw_0 : cw E σ B S Y := hr0
  refine XI_of (by decide) rfl (Nat.le_of_ble_eq_true rfl) ?_
  intro p e s m args below meth c Q ls G hH hl hQ
  obtain ⟨hx, hb, hml, hown, hts, hK, hST, hlocks, hr, hno⟩ := G
  have hOK := hSF.1
  have hown : s.vm.findClass RL = some m.cls := hown
  have hl : lv_has ls 5 [(0, .ref (xad E 0)), (1, .int (iZ 1)), (2, .int (iZ a)), (3, .int (iZ b)), (4, .int (iZ c7))] := hl
  refine lv_iload_n hx hb dL_asked_0 rfl (lv_at hl 1 rfl) ?_
  refine x_tableIn (tgt := 75) hx hb 1 rfl (by decide) dL_asked_1 (by decide) (by decide) rfl (by decide) ?_
  refine lv_aload_n hx hb dL_asked_75 rfl (lv_at hl 0 rfl) ?_
  refine lv_iload_n hx hb dL_asked_76 rfl (lv_at hl 2 rfl) ?_
  refine lv_iload_n hx hb dL_asked_77 rfl (lv_at hl 3 rfl) ?_
  obtain ⟨fs9, hfs9⟩ := fcw_0.o0
  refine x_cXVIE (As := [.int (iZ a), .int (iZ b)]) (rest := []) hx hb hml hts hown hK hST hOK hH 0 (q_lockAt1 l E ST hSF htr σ a b B S Y fcw_0 (by omega) (by omega) (by omega)) (cwV 2 hts (goodIn_t (goodIn_x gK_76)) rfl rfl rfl (by decide +kernel) ⟨Nat.le_of_ble_eq_true rfl, Nat.le_of_ble_eq_true rfl⟩) (ltw (by decide)) hfs9 rfl rfl hl.1 rfl (Nat.le_of_ble_eq_true rfl) dL_asked_78 ⟨Nat.le_of_ble_eq_true rfl, Nat.le_of_ble_eq_true rfl⟩ ?_ (fun z u h => h) (fun σ2 H locs hp3 hH => ?_)
  · intro nx ce q9 σ2 H locs hp3 hH hce hcv hcl
    subst hQ
    obtain ⟨hn, hu⟩ := hp3
    rw [hu] at hH
    exact x_out hno hlocks hH hce hcv hcl ⟨(by first | exact hn | simp_all | omega), rfl⟩ (Nat.le_of_ble_eq_true rfl) (Nat.le_of_ble_eq_true rfl)
  · obtain ⟨hf4, hu5⟩ := hp3
    rw [hu5] at hH
    subst hQ
    exact x_ireX hx hb hr hlocks hH (Nat.le_of_ble_eq_true rfl) (Nat.le_of_ble_eq_true rfl) ⟨(show (97 + (lkT B) (a * 5 + b)) = (97 + lkT B (a * 5 + b)) from (by rfl)), (by first | assumption | omega | simp_all), rfl⟩ dL_asked_81

def rm_L_ask_1 : Room := { frames := 8, cells := 1, slots := 6, locals := 137 }
set_option maxRecDepth 100000 in
set_option maxHeartbeats 4000000 in
theorem c_L_ask_1 (l : Launch) (E : xE) (ST : xST) (hSF : SF ST) (hSX : SX ST) (htr : l.stackTraces = false) (σ : xW) (a : Int) (b : Int) (c7 : Int) (B : BT) (S : Option BT) (Y : lnQ) (hr0 : cw E σ B S Y) (hok : okC a b) : CI l E ST yL_ask wML_ask rm_L_ask_1 [.ref (xad E 0), .int (iZ 1), .int (iZ a), .int (iZ b), .int (iZ c7)] σ (fun (z : Int) (u : xW) => z = aLk (lkT B) (a * 5 + b) ∧ u = σ) := by
  have fcw_0 : cw E σ B S Y := hr0
  refine CW_of (by decide) rfl (Nat.le_of_ble_eq_true rfl) ?_
  intro p e s m args below meth c Q ls G hH hl hQ
  obtain ⟨hx, hb, hml, hown, hts, hK, hST, hlocks, hr, htab⟩ := G
  have hOK := hSF.1
  have hown : s.vm.findClass RL = some m.cls := hown
  have hl : lv_has ls 6 [(0, .ref (xad E 0)), (1, .int (iZ 1)), (2, .int (iZ a)), (3, .int (iZ b)), (4, .int (iZ c7))] := hl
  refine lv_aload_n hx hb dL_ask_0 rfl (lv_at hl 0 rfl) ?_
  refine lv_iload_n hx hb dL_ask_1 rfl (lv_at hl 1 rfl) ?_
  refine lv_iload_n hx hb dL_ask_2 rfl (lv_at hl 2 rfl) ?_
  refine lv_iload_n hx hb dL_ask_3 rfl (lv_at hl 3 rfl) ?_
  refine lv_iload hx hb dL_ask_4 (lv_at hl 4 rfl) ?_
  refine x_cXSIE (As := [.ref (xad E 0), .int (iZ 1), .int (iZ a), .int (iZ b), .int (iZ c7)]) (rest := []) hx hb hml hts hown hK hST hOK hH (c_L_asked_1 l E ST hSF hSX htr σ a b c7 B S Y fcw_0 (by omega)) (va_cwS 5 hts (goodIn_t gK_130) rfl rfl rfl (by decide +kernel) ⟨Nat.le_of_ble_eq_true rfl, Nat.le_of_ble_eq_true rfl⟩) rfl hl.1 rfl (Nat.le_of_ble_eq_true rfl) dL_ask_6 ⟨Nat.le_of_ble_eq_true rfl, Nat.le_of_ble_eq_true rfl⟩ ?_ (fun z u h => h) (fun σ2 H locs hp3 hH => ?_)
  · intro nx ce q9 σ2 H locs hp3 hH hce hcv hcl
    obtain ⟨hn, hu⟩ := hp3
    rw [hu] at hH
    obtain ⟨en9, hn⟩ := hn
    subst en9
    refine x_catch hown hts hSX hST [(0, 9, 10, 63), (0, 9, 16, 65)] (0, 9, 22, 71) [] htab (by decide +kernel) (List.forall_mem_cons.mpr ⟨⟨by decide, "java/lang/IndexOutOfBoundsException", (List.mem_cons_of_mem _ (List.mem_append_right _ mW_96)), by decide +kernel, by decide +kernel⟩, (List.forall_mem_cons.mpr ⟨⟨by decide, "java/lang/IllegalArgumentException", (List.mem_cons_of_mem _ (List.mem_append_left _ mX_0)), by decide +kernel, by decide +kernel⟩, (fun _ h => absurd h List.not_mem_nil)⟩)⟩) rfl (by decide) (List.mem_cons_of_mem _ (List.mem_append_left _ mX_3)) hce hcv hcl ?_
    refine lv_astore (lv' := [(5, .ref q9), (0, .ref (xad E 0)), (1, .int (iZ 1)), (2, .int (iZ a)), (3, .int (iZ b)), (4, .int (iZ c7))]) hx hb dL_ask_22 hl (by decide) rfl (fun ls hl => ?_)
    refine x_sipush hx hb dL_ask_24 (by decide) ?_
    subst hQ
    exact x_iret hx hb hr hlocks hH (Nat.le_of_ble_eq_true rfl) (Nat.le_of_ble_eq_true rfl) ⟨(show (-2004) = (aLk (lkT B) (a * 5 + b)) from (by unfold aLk; (repeat' split) <;> first | rfl | omega | (exfalso; omega))), rfl⟩ dL_ask_27
  · obtain ⟨hf4, hu5⟩ := hp3
    rw [hu5] at hH
    subst hQ
    exact x_iret hx hb hr hlocks hH (Nat.le_of_ble_eq_true rfl) (Nat.le_of_ble_eq_true rfl) ⟨(show (97 + lkT B (a * 5 + b)) = (aLk (lkT B) (a * 5 + b)) from (by unfold aLk; (repeat' split) <;> first | rfl | omega | (exfalso; omega))), rfl⟩ dL_ask_9

def rm_L_joined_0 : Room := { frames := 20, cells := 0, slots := 0, locals := 300 }
set_option maxRecDepth 100000 in
set_option maxHeartbeats 4000000 in
theorem c_L_joined_0 (l : Launch) (E : xE) (ST : xST) (hSF : SF ST) (σ : xW) (ce : Int) (B : BT) (S : Option BT) (Y : lnQ) (hr0 : cw E σ B S Y) (hc : 0 ≤ ce ∧ ce ≤ 24) : CI l E ST yL_joined wML_joined rm_L_joined_0 [.ref (xad E 0), .int (iZ ce), .int (iZ 0)] σ (fun (z : Int) (u : xW) => z = cnZ (opT B) ce 0 ∧ u = σ) := by
  have fcw_0 : cw E σ B S Y := hr0
  refine CI_of (by decide) rfl (Nat.le_of_ble_eq_true rfl) ?_
  intro p e s m args below meth c Q ls G hH hl hQ
  obtain ⟨hx, hb, hml, hown, hts, hK, hST, hlocks, hr, hno⟩ := G
  have hOK := hSF.1
  have hown : s.vm.findClass RL = some m.cls := hown
  have hl : lv_has ls 7 [(0, .ref (xad E 0)), (1, .int (iZ ce)), (2, .int (iZ 0))] := hl
  obtain ⟨hop, hlk9, hkp, hwc9, hpn, hnw⟩ : BI (opT B) (lkT B) (kpT B) (wcT B) (pnT B) (nwT B) := fcw_0.bit
  refine lv_iload_n hx hb dL_joined_0 rfl (lv_at hl 1 rfl) ?_
  refine x_iconst hx hb dL_joined_1 ?_
  refine x_idiv hx hb dL_joined_2 (by omega) (by omega) (by omega) (by omega) ?_
  refine lv_iload_n hx hb dL_joined_3 rfl (lv_at hl 2 rfl) ?_
  refine x_if_ne (tgt := 11) hx hb dL_joined_4 (by decide) (by decide) (fun c4 => ?_) (fun c4 => ?_)
  · exact absurd c4 (by decide)
  · refine x_iconst hx hb dL_joined_7 ?_
    refine lv_goto (tgt := 12) hx hb dL_joined_8 (by decide) ?_
    refine x_isub hx hb dL_joined_12 ?_
    refine lv_iload_n hx hb dL_joined_13 rfl (lv_at hl 2 rfl) ?_
    refine x_iconst hx hb dL_joined_14 ?_
    refine x_icmp_ne (tgt := 22) hx hb dL_joined_15 (by decide) (by decide) (by decide) (fun c15 => ?_) (fun c15 => ?_)
    · refine x_iconst hx hb dL_joined_22 ?_
      refine x_iadd hx hb dL_joined_23 ?_
      refine lv_istore_n (lv' := [(3, .int (iZ (((ce / 5) - 1) + 0))), (0, .ref (xad E 0)), (1, .int (iZ ce)), (2, .int (iZ 0))]) hx hb dL_joined_24 rfl hl (by decide) rfl (fun ls hl => ?_)
      refine lv_iload_n hx hb dL_joined_25 rfl (lv_at hl 2 rfl) ?_
      refine x_iconst hx hb dL_joined_26 ?_
      refine x_irem hx hb dL_joined_27 (by omega) (by omega) (by omega) (by omega) ?_
      refine lv_iload_n hx hb dL_joined_28 rfl (lv_at hl 3 rfl) ?_
      refine x_iconst hx hb dL_joined_29 ?_
      refine x_icmp_ne (tgt := 37) hx hb dL_joined_30 (by decide) (by decide) (by decide) (fun c30 => ?_) (fun c30 => ?_)
      · refine x_iconst hx hb dL_joined_37 ?_
        refine x_iadd hx hb dL_joined_38 ?_
        refine lv_iload_n hx hb dL_joined_39 rfl (lv_at hl 3 rfl) ?_
        refine x_iconst hx hb dL_joined_40 ?_
        refine x_icmp_ne (tgt := 48) hx hb dL_joined_41 (by decide) (by decide) (by decide) (fun c41 => ?_) (fun c41 => ?_)
        · refine x_iconst hx hb dL_joined_48 ?_
          refine x_isub hx hb dL_joined_49 ?_
          refine lv_istore (lv' := [(4, .int (iZ (((ce % 5) + 0) - 0))), (3, .int (iZ (((ce / 5) - 1) + 0))), (0, .ref (xad E 0)), (1, .int (iZ ce)), (2, .int (iZ 0))]) hx hb dL_joined_50 hl (by decide) rfl (fun ls hl => ?_)
          refine lv_iload_n hx hb dL_joined_52 rfl (lv_at hl 1 rfl) ?_
          refine x_if_lt (tgt := 72) hx hb dL_joined_53 (by decide) (by omega) (fun c53 => ?_) (fun c53 => ?_)
          · refine x_iconst hx hb dL_joined_72 ?_
            subst hQ
            exact x_iret hx hb hr hlocks hH (Nat.le_of_ble_eq_true rfl) (Nat.le_of_ble_eq_true rfl) ⟨(show (-1) = (cnZ (opT B) ce 0) from (by first | exact jn_no1 (hop _) (by decide) c89 | exact jn_no2 (x := ce - 5) (by unfold nbZ; (repeat' split) <;> omega) (hop _) (by decide) c115 | exact jn_yes (x := ce - 5) (by unfold nbZ; (repeat' split) <;> omega) (hop _) (hop _) (by decide) c89 c115 (by omega) (by omega) | exact jn_no0 (by unfold nbZ; (repeat' split) <;> omega))), rfl⟩ dL_joined_73
          · refine lv_iload_n hx hb dL_joined_56 rfl (lv_at hl 1 rfl) ?_
            refine x_iconst hx hb dL_joined_57 ?_
            refine x_icmp_gt (tgt := 72) hx hb dL_joined_58 (by decide) (by omega) (by decide) (fun c58 => ?_) (fun c58 => ?_)
            · refine x_iconst hx hb dL_joined_72 ?_
              subst hQ
              exact x_iret hx hb hr hlocks hH (Nat.le_of_ble_eq_true rfl) (Nat.le_of_ble_eq_true rfl) ⟨(show (-1) = (cnZ (opT B) ce 0) from (by first | exact jn_no1 (hop _) (by decide) c89 | exact jn_no2 (x := ce - 5) (by unfold nbZ; (repeat' split) <;> omega) (hop _) (by decide) c115 | exact jn_yes (x := ce - 5) (by unfold nbZ; (repeat' split) <;> omega) (hop _) (hop _) (by decide) c89 c115 (by omega) (by omega) | exact jn_no0 (by unfold nbZ; (repeat' split) <;> omega))), rfl⟩ dL_joined_73
            · refine lv_iload hx hb dL_joined_61 (lv_at hl 0 rfl) ?_
              refine x_if_lt (tgt := 72) hx hb dL_joined_63 (by decide) (by omega) (fun c63 => ?_) (fun c63 => ?_)
              · refine x_iconst hx hb dL_joined_72 ?_
                subst hQ
                exact x_iret hx hb hr hlocks hH (Nat.le_of_ble_eq_true rfl) (Nat.le_of_ble_eq_true rfl) ⟨(show (-1) = (cnZ (opT B) ce 0) from (by first | exact jn_no1 (hop _) (by decide) c89 | exact jn_no2 (x := ce - 5) (by unfold nbZ; (repeat' split) <;> omega) (hop _) (by decide) c115 | exact jn_yes (x := ce - 5) (by unfold nbZ; (repeat' split) <;> omega) (hop _) (hop _) (by decide) c89 c115 (by omega) (by omega) | exact jn_no0 (by unfold nbZ; (repeat' split) <;> omega))), rfl⟩ dL_joined_73
              · refine lv_iload hx hb dL_joined_66 (lv_at hl 0 rfl) ?_
                refine x_iconst hx hb dL_joined_68 ?_
                refine x_icmp_le (tgt := 74) hx hb dL_joined_69 (by decide) (by omega) (by decide) (fun c69 => ?_) (fun c69 => ?_)
                · refine lv_aload_n hx hb dL_joined_74 rfl (lv_at hl 2 rfl) ?_
                  refine lv_iload_n hx hb dL_joined_75 rfl (lv_at hl 3 rfl) ?_
                  refine x_iconst hx hb dL_joined_76 ?_
                  refine x_idiv hx hb dL_joined_77 (by omega) (by omega) (by omega) (by omega) ?_
                  refine lv_iload_n hx hb dL_joined_78 rfl (lv_at hl 3 rfl) ?_
                  refine x_iconst hx hb dL_joined_79 ?_
                  refine x_irem hx hb dL_joined_80 (by omega) (by omega) (by omega) (by omega) ?_
                  obtain ⟨fs9, hfs9⟩ := fcw_0.o0
                  refine x_cVID (As := [.int (iZ (ce / 5)), .int (iZ (ce % 5))]) (rest := []) hx hb hml hts hown hK hST hOK hH 0 (q_openings0 l E ST hSF σ (ce / 5) (ce % 5) B S Y fcw_0 (by omega) (by omega) (by omega)) (cwV 2 hts (goodIn_t (goodIn_x gK_73)) rfl rfl rfl (by decide +kernel) ⟨Nat.le_of_ble_eq_true rfl, Nat.le_of_ble_eq_true rfl⟩) (ltw (by decide)) hfs9 rfl rfl hl.1 rfl (Nat.le_of_ble_eq_true rfl) dL_joined_81 ⟨Nat.le_of_ble_eq_true rfl, Nat.le_of_ble_eq_true rfl⟩ (fun z u h => h) (fun H locs hH => ?_)
                  rw [show ce / 5 * 5 + ce % 5 = ce by omega]
                  refine lv_iload_n hx hb dL_joined_84 rfl (lv_at hl 4 rfl) ?_
                  refine x_ishr hx hb dL_joined_85 ?_
                  have hs1 := ishr_b (d := 0) (hop ce) (by decide)
                  refine x_iconst hx hb dL_joined_86 ?_
                  refine x_irem hx hb dL_joined_87 (by omega) (by omega) (by omega) (by omega) ?_
                  refine x_iconst hx hb dL_joined_88 ?_
                  refine x_icmp_ne (tgt := 96) hx hb dL_joined_89 (by decide) (by omega) (by decide) (fun c89 => ?_) (fun c89 => ?_)
                  · refine x_iconst hx hb dL_joined_96 ?_
                    refine lv_istore (lv' := [(5, .int (iZ 0)), (4, .int (iZ (((ce % 5) + 0) - 0))), (3, .int (iZ (((ce / 5) - 1) + 0))), (0, .ref (xad E 0)), (1, .int (iZ ce)), (2, .int (iZ 0))]) hx hb dL_joined_97 hl (by decide) rfl (fun ls hl => ?_)
                    refine lv_aload_n hx hb dL_joined_99 rfl (lv_at hl 3 rfl) ?_
                    refine lv_iload_n hx hb dL_joined_100 rfl (lv_at hl 2 rfl) ?_
                    refine lv_iload hx hb dL_joined_101 (lv_at hl 1 rfl) ?_
                    obtain ⟨fs9, hfs9⟩ := fcw_0.o0
                    refine x_cVID (As := [.int (iZ (((ce / 5) - 1) + 0)), .int (iZ (((ce % 5) + 0) - 0))]) (rest := []) hx hb hml hts hown hK hST hOK hH 0 (q_openings0 l E ST hSF σ (((ce / 5) - 1) + 0) (((ce % 5) + 0) - 0) B S Y fcw_0 (by omega) (by omega) (by omega)) (cwV 2 hts (goodIn_t (goodIn_x gK_73)) rfl rfl rfl (by decide +kernel) ⟨Nat.le_of_ble_eq_true rfl, Nat.le_of_ble_eq_true rfl⟩) (ltw (by decide)) hfs9 rfl rfl hl.1 rfl (Nat.le_of_ble_eq_true rfl) dL_joined_103 ⟨Nat.le_of_ble_eq_true rfl, Nat.le_of_ble_eq_true rfl⟩ (fun z u h => h) (fun H locs hH => ?_)
                    rw [show (((ce / 5) - 1) + 0) * 5 + (((ce % 5) + 0) - 0) = ce - 5 by omega]
                    refine lv_iload_n hx hb dL_joined_106 rfl (lv_at hl 5 rfl) ?_
                    refine x_iconst hx hb dL_joined_107 ?_
                    refine x_iadd hx hb dL_joined_108 ?_
                    refine x_iconst hx hb dL_joined_109 ?_
                    refine x_irem hx hb dL_joined_110 (by omega) (by omega) (by omega) (by omega) ?_
                    refine x_ishr hx hb dL_joined_111 ?_
                    have hs2 := ishr_b (d := (0 + 2) % 4) (hop (ce - 5)) (by decide)
                    refine x_iconst hx hb dL_joined_112 ?_
                    refine x_irem hx hb dL_joined_113 (by omega) (by omega) (by omega) (by omega) ?_
                    refine x_iconst hx hb dL_joined_114 ?_
                    refine x_icmp_ne (tgt := 122) hx hb dL_joined_115 (by decide) (by omega) (by decide) (fun c115 => ?_) (fun c115 => ?_)
                    · refine x_iconst hx hb dL_joined_122 ?_
                      refine lv_istore (lv' := [(6, .int (iZ 0)), (5, .int (iZ 0)), (4, .int (iZ (((ce % 5) + 0) - 0))), (3, .int (iZ (((ce / 5) - 1) + 0))), (0, .ref (xad E 0)), (1, .int (iZ ce)), (2, .int (iZ 0))]) hx hb dL_joined_123 hl (by decide) rfl (fun ls hl => ?_)
                      refine lv_iload hx hb dL_joined_125 (lv_at hl 1 rfl) ?_
                      refine x_if_eq (tgt := 144) hx hb dL_joined_127 (by decide) (by decide) (fun c127 => ?_) (fun c127 => ?_)
                      · refine x_iconst hx hb dL_joined_144 ?_
                        subst hQ
                        exact x_iret hx hb hr hlocks hH (Nat.le_of_ble_eq_true rfl) (Nat.le_of_ble_eq_true rfl) ⟨(show (-1) = (cnZ (opT B) ce 0) from (by first | exact jn_no1 (hop _) (by decide) c89 | exact jn_no2 (x := ce - 5) (by unfold nbZ; (repeat' split) <;> omega) (hop _) (by decide) c115 | exact jn_yes (x := ce - 5) (by unfold nbZ; (repeat' split) <;> omega) (hop _) (hop _) (by decide) c89 c115 (by omega) (by omega) | exact jn_no0 (by unfold nbZ; (repeat' split) <;> omega))), rfl⟩ dL_joined_145
                      · exact absurd c127 (by decide)
                    · refine x_iconst hx hb dL_joined_118 ?_
                      refine lv_goto (tgt := 123) hx hb dL_joined_119 (by decide) ?_
                      refine lv_istore (lv' := [(6, .int (iZ 1)), (5, .int (iZ 0)), (4, .int (iZ (((ce % 5) + 0) - 0))), (3, .int (iZ (((ce / 5) - 1) + 0))), (0, .ref (xad E 0)), (1, .int (iZ ce)), (2, .int (iZ 0))]) hx hb dL_joined_123 hl (by decide) rfl (fun ls hl => ?_)
                      refine lv_iload hx hb dL_joined_125 (lv_at hl 1 rfl) ?_
                      refine x_if_eq (tgt := 144) hx hb dL_joined_127 (by decide) (by decide) (fun c127 => ?_) (fun c127 => ?_)
                      · refine x_iconst hx hb dL_joined_144 ?_
                        subst hQ
                        exact x_iret hx hb hr hlocks hH (Nat.le_of_ble_eq_true rfl) (Nat.le_of_ble_eq_true rfl) ⟨(show (-1) = (cnZ (opT B) ce 0) from (by first | exact jn_no1 (hop _) (by decide) c89 | exact jn_no2 (x := ce - 5) (by unfold nbZ; (repeat' split) <;> omega) (hop _) (by decide) c115 | exact jn_yes (x := ce - 5) (by unfold nbZ; (repeat' split) <;> omega) (hop _) (hop _) (by decide) c89 c115 (by omega) (by omega) | exact jn_no0 (by unfold nbZ; (repeat' split) <;> omega))), rfl⟩ dL_joined_145
                      · exact absurd c127 (by decide)
                  · refine x_iconst hx hb dL_joined_92 ?_
                    refine lv_goto (tgt := 97) hx hb dL_joined_93 (by decide) ?_
                    refine lv_istore (lv' := [(5, .int (iZ 1)), (4, .int (iZ (((ce % 5) + 0) - 0))), (3, .int (iZ (((ce / 5) - 1) + 0))), (0, .ref (xad E 0)), (1, .int (iZ ce)), (2, .int (iZ 0))]) hx hb dL_joined_97 hl (by decide) rfl (fun ls hl => ?_)
                    refine lv_aload_n hx hb dL_joined_99 rfl (lv_at hl 3 rfl) ?_
                    refine lv_iload_n hx hb dL_joined_100 rfl (lv_at hl 2 rfl) ?_
                    refine lv_iload hx hb dL_joined_101 (lv_at hl 1 rfl) ?_
                    obtain ⟨fs9, hfs9⟩ := fcw_0.o0
                    refine x_cVID (As := [.int (iZ (((ce / 5) - 1) + 0)), .int (iZ (((ce % 5) + 0) - 0))]) (rest := []) hx hb hml hts hown hK hST hOK hH 0 (q_openings0 l E ST hSF σ (((ce / 5) - 1) + 0) (((ce % 5) + 0) - 0) B S Y fcw_0 (by omega) (by omega) (by omega)) (cwV 2 hts (goodIn_t (goodIn_x gK_73)) rfl rfl rfl (by decide +kernel) ⟨Nat.le_of_ble_eq_true rfl, Nat.le_of_ble_eq_true rfl⟩) (ltw (by decide)) hfs9 rfl rfl hl.1 rfl (Nat.le_of_ble_eq_true rfl) dL_joined_103 ⟨Nat.le_of_ble_eq_true rfl, Nat.le_of_ble_eq_true rfl⟩ (fun z u h => h) (fun H locs hH => ?_)
                    rw [show (((ce / 5) - 1) + 0) * 5 + (((ce % 5) + 0) - 0) = ce - 5 by omega]
                    refine lv_iload_n hx hb dL_joined_106 rfl (lv_at hl 5 rfl) ?_
                    refine x_iconst hx hb dL_joined_107 ?_
                    refine x_iadd hx hb dL_joined_108 ?_
                    refine x_iconst hx hb dL_joined_109 ?_
                    refine x_irem hx hb dL_joined_110 (by omega) (by omega) (by omega) (by omega) ?_
                    refine x_ishr hx hb dL_joined_111 ?_
                    have hs2 := ishr_b (d := (0 + 2) % 4) (hop (ce - 5)) (by decide)
                    refine x_iconst hx hb dL_joined_112 ?_
                    refine x_irem hx hb dL_joined_113 (by omega) (by omega) (by omega) (by omega) ?_
                    refine x_iconst hx hb dL_joined_114 ?_
                    refine x_icmp_ne (tgt := 122) hx hb dL_joined_115 (by decide) (by omega) (by decide) (fun c115 => ?_) (fun c115 => ?_)
                    · refine x_iconst hx hb dL_joined_122 ?_
                      refine lv_istore (lv' := [(6, .int (iZ 0)), (5, .int (iZ 1)), (4, .int (iZ (((ce % 5) + 0) - 0))), (3, .int (iZ (((ce / 5) - 1) + 0))), (0, .ref (xad E 0)), (1, .int (iZ ce)), (2, .int (iZ 0))]) hx hb dL_joined_123 hl (by decide) rfl (fun ls hl => ?_)
                      refine lv_iload hx hb dL_joined_125 (lv_at hl 1 rfl) ?_
                      refine x_if_eq (tgt := 144) hx hb dL_joined_127 (by decide) (by decide) (fun c127 => ?_) (fun c127 => ?_)
                      · exact absurd c127 (by decide)
                      · refine lv_iload hx hb dL_joined_130 (lv_at hl 0 rfl) ?_
                        refine x_if_eq (tgt := 144) hx hb dL_joined_132 (by decide) (by decide) (fun c132 => ?_) (fun c132 => ?_)
                        · refine x_iconst hx hb dL_joined_144 ?_
                          subst hQ
                          exact x_iret hx hb hr hlocks hH (Nat.le_of_ble_eq_true rfl) (Nat.le_of_ble_eq_true rfl) ⟨(show (-1) = (cnZ (opT B) ce 0) from (by first | exact jn_no1 (hop _) (by decide) c89 | exact jn_no2 (x := ce - 5) (by unfold nbZ; (repeat' split) <;> omega) (hop _) (by decide) c115 | exact jn_yes (x := ce - 5) (by unfold nbZ; (repeat' split) <;> omega) (hop _) (hop _) (by decide) c89 c115 (by omega) (by omega) | exact jn_no0 (by unfold nbZ; (repeat' split) <;> omega))), rfl⟩ dL_joined_145
                        · exact absurd c132 (by decide)
                    · refine x_iconst hx hb dL_joined_118 ?_
                      refine lv_goto (tgt := 123) hx hb dL_joined_119 (by decide) ?_
                      refine lv_istore (lv' := [(6, .int (iZ 1)), (5, .int (iZ 1)), (4, .int (iZ (((ce % 5) + 0) - 0))), (3, .int (iZ (((ce / 5) - 1) + 0))), (0, .ref (xad E 0)), (1, .int (iZ ce)), (2, .int (iZ 0))]) hx hb dL_joined_123 hl (by decide) rfl (fun ls hl => ?_)
                      refine lv_iload hx hb dL_joined_125 (lv_at hl 1 rfl) ?_
                      refine x_if_eq (tgt := 144) hx hb dL_joined_127 (by decide) (by decide) (fun c127 => ?_) (fun c127 => ?_)
                      · exact absurd c127 (by decide)
                      · refine lv_iload hx hb dL_joined_130 (lv_at hl 0 rfl) ?_
                        refine x_if_eq (tgt := 144) hx hb dL_joined_132 (by decide) (by decide) (fun c132 => ?_) (fun c132 => ?_)
                        · exact absurd c132 (by decide)
                        · refine x_iconst hx hb dL_joined_135 ?_
                          refine lv_iload_n hx hb dL_joined_136 rfl (lv_at hl 3 rfl) ?_
                          refine x_imul hx hb dL_joined_137 ?_
                          refine lv_iload hx hb dL_joined_138 (lv_at hl 2 rfl) ?_
                          refine x_iadd hx hb dL_joined_140 ?_
                          refine lv_goto (tgt := 145) hx hb dL_joined_141 (by decide) ?_
                          subst hQ
                          exact x_iret hx hb hr hlocks hH (Nat.le_of_ble_eq_true rfl) (Nat.le_of_ble_eq_true rfl) ⟨(show ((5 * (((ce / 5) - 1) + 0)) + (((ce % 5) + 0) - 0)) = (cnZ (opT B) ce 0) from (by first | exact jn_no1 (hop _) (by decide) c89 | exact jn_no2 (x := ce - 5) (by unfold nbZ; (repeat' split) <;> omega) (hop _) (by decide) c115 | exact jn_yes (x := ce - 5) (by unfold nbZ; (repeat' split) <;> omega) (hop _) (hop _) (by decide) c89 c115 (by omega) (by omega) | exact jn_no0 (by unfold nbZ; (repeat' split) <;> omega))), rfl⟩ dL_joined_145
                · refine x_iconst hx hb dL_joined_72 ?_
                  subst hQ
                  exact x_iret hx hb hr hlocks hH (Nat.le_of_ble_eq_true rfl) (Nat.le_of_ble_eq_true rfl) ⟨(show (-1) = (cnZ (opT B) ce 0) from (by first | exact jn_no1 (hop _) (by decide) c89 | exact jn_no2 (x := ce - 5) (by unfold nbZ; (repeat' split) <;> omega) (hop _) (by decide) c115 | exact jn_yes (x := ce - 5) (by unfold nbZ; (repeat' split) <;> omega) (hop _) (hop _) (by decide) c89 c115 (by omega) (by omega) | exact jn_no0 (by unfold nbZ; (repeat' split) <;> omega))), rfl⟩ dL_joined_73
        · exact absurd c41 (by decide)
      · exact absurd c30 (by decide)
    · exact absurd c15 (by decide)

def rm_L_joined_1 : Room := { frames := 20, cells := 0, slots := 0, locals := 300 }
set_option maxRecDepth 100000 in
set_option maxHeartbeats 4000000 in
theorem c_L_joined_1 (l : Launch) (E : xE) (ST : xST) (hSF : SF ST) (σ : xW) (ce : Int) (B : BT) (S : Option BT) (Y : lnQ) (hr0 : cw E σ B S Y) (hc : 0 ≤ ce ∧ ce ≤ 24) : CI l E ST yL_joined wML_joined rm_L_joined_1 [.ref (xad E 0), .int (iZ ce), .int (iZ 1)] σ (fun (z : Int) (u : xW) => z = cnZ (opT B) ce 1 ∧ u = σ) := by
  have fcw_0 : cw E σ B S Y := hr0
  refine CI_of (by decide) rfl (Nat.le_of_ble_eq_true rfl) ?_
  intro p e s m args below meth c Q ls G hH hl hQ
  obtain ⟨hx, hb, hml, hown, hts, hK, hST, hlocks, hr, hno⟩ := G
  have hOK := hSF.1
  have hown : s.vm.findClass RL = some m.cls := hown
  have hl : lv_has ls 7 [(0, .ref (xad E 0)), (1, .int (iZ ce)), (2, .int (iZ 1))] := hl
  obtain ⟨hop, hlk9, hkp, hwc9, hpn, hnw⟩ : BI (opT B) (lkT B) (kpT B) (wcT B) (pnT B) (nwT B) := fcw_0.bit
  refine lv_iload_n hx hb dL_joined_0 rfl (lv_at hl 1 rfl) ?_
  refine x_iconst hx hb dL_joined_1 ?_
  refine x_idiv hx hb dL_joined_2 (by omega) (by omega) (by omega) (by omega) ?_
  refine lv_iload_n hx hb dL_joined_3 rfl (lv_at hl 2 rfl) ?_
  refine x_if_ne (tgt := 11) hx hb dL_joined_4 (by decide) (by decide) (fun c4 => ?_) (fun c4 => ?_)
  · refine x_iconst hx hb dL_joined_11 ?_
    refine x_isub hx hb dL_joined_12 ?_
    refine lv_iload_n hx hb dL_joined_13 rfl (lv_at hl 2 rfl) ?_
    refine x_iconst hx hb dL_joined_14 ?_
    refine x_icmp_ne (tgt := 22) hx hb dL_joined_15 (by decide) (by decide) (by decide) (fun c15 => ?_) (fun c15 => ?_)
    · refine x_iconst hx hb dL_joined_22 ?_
      refine x_iadd hx hb dL_joined_23 ?_
      refine lv_istore_n (lv' := [(3, .int (iZ (((ce / 5) - 0) + 0))), (0, .ref (xad E 0)), (1, .int (iZ ce)), (2, .int (iZ 1))]) hx hb dL_joined_24 rfl hl (by decide) rfl (fun ls hl => ?_)
      refine lv_iload_n hx hb dL_joined_25 rfl (lv_at hl 2 rfl) ?_
      refine x_iconst hx hb dL_joined_26 ?_
      refine x_irem hx hb dL_joined_27 (by omega) (by omega) (by omega) (by omega) ?_
      refine lv_iload_n hx hb dL_joined_28 rfl (lv_at hl 3 rfl) ?_
      refine x_iconst hx hb dL_joined_29 ?_
      refine x_icmp_ne (tgt := 37) hx hb dL_joined_30 (by decide) (by decide) (by decide) (fun c30 => ?_) (fun c30 => ?_)
      · exact absurd c30 (by decide)
      · refine x_iconst hx hb dL_joined_33 ?_
        refine lv_goto (tgt := 38) hx hb dL_joined_34 (by decide) ?_
        refine x_iadd hx hb dL_joined_38 ?_
        refine lv_iload_n hx hb dL_joined_39 rfl (lv_at hl 3 rfl) ?_
        refine x_iconst hx hb dL_joined_40 ?_
        refine x_icmp_ne (tgt := 48) hx hb dL_joined_41 (by decide) (by decide) (by decide) (fun c41 => ?_) (fun c41 => ?_)
        · refine x_iconst hx hb dL_joined_48 ?_
          refine x_isub hx hb dL_joined_49 ?_
          refine lv_istore (lv' := [(4, .int (iZ (((ce % 5) + 1) - 0))), (3, .int (iZ (((ce / 5) - 0) + 0))), (0, .ref (xad E 0)), (1, .int (iZ ce)), (2, .int (iZ 1))]) hx hb dL_joined_50 hl (by decide) rfl (fun ls hl => ?_)
          refine lv_iload_n hx hb dL_joined_52 rfl (lv_at hl 1 rfl) ?_
          refine x_if_lt (tgt := 72) hx hb dL_joined_53 (by decide) (by omega) (fun c53 => ?_) (fun c53 => ?_)
          · refine x_iconst hx hb dL_joined_72 ?_
            subst hQ
            exact x_iret hx hb hr hlocks hH (Nat.le_of_ble_eq_true rfl) (Nat.le_of_ble_eq_true rfl) ⟨(show (-1) = (cnZ (opT B) ce 1) from (by first | exact jn_no1 (hop _) (by decide) c89 | exact jn_no2 (x := ce + 1) (by unfold nbZ; (repeat' split) <;> omega) (hop _) (by decide) c115 | exact jn_yes (x := ce + 1) (by unfold nbZ; (repeat' split) <;> omega) (hop _) (hop _) (by decide) c89 c115 (by omega) (by omega) | exact jn_no0 (by unfold nbZ; (repeat' split) <;> omega))), rfl⟩ dL_joined_73
          · refine lv_iload_n hx hb dL_joined_56 rfl (lv_at hl 1 rfl) ?_
            refine x_iconst hx hb dL_joined_57 ?_
            refine x_icmp_gt (tgt := 72) hx hb dL_joined_58 (by decide) (by omega) (by decide) (fun c58 => ?_) (fun c58 => ?_)
            · refine x_iconst hx hb dL_joined_72 ?_
              subst hQ
              exact x_iret hx hb hr hlocks hH (Nat.le_of_ble_eq_true rfl) (Nat.le_of_ble_eq_true rfl) ⟨(show (-1) = (cnZ (opT B) ce 1) from (by first | exact jn_no1 (hop _) (by decide) c89 | exact jn_no2 (x := ce + 1) (by unfold nbZ; (repeat' split) <;> omega) (hop _) (by decide) c115 | exact jn_yes (x := ce + 1) (by unfold nbZ; (repeat' split) <;> omega) (hop _) (hop _) (by decide) c89 c115 (by omega) (by omega) | exact jn_no0 (by unfold nbZ; (repeat' split) <;> omega))), rfl⟩ dL_joined_73
            · refine lv_iload hx hb dL_joined_61 (lv_at hl 0 rfl) ?_
              refine x_if_lt (tgt := 72) hx hb dL_joined_63 (by decide) (by omega) (fun c63 => ?_) (fun c63 => ?_)
              · refine x_iconst hx hb dL_joined_72 ?_
                subst hQ
                exact x_iret hx hb hr hlocks hH (Nat.le_of_ble_eq_true rfl) (Nat.le_of_ble_eq_true rfl) ⟨(show (-1) = (cnZ (opT B) ce 1) from (by first | exact jn_no1 (hop _) (by decide) c89 | exact jn_no2 (x := ce + 1) (by unfold nbZ; (repeat' split) <;> omega) (hop _) (by decide) c115 | exact jn_yes (x := ce + 1) (by unfold nbZ; (repeat' split) <;> omega) (hop _) (hop _) (by decide) c89 c115 (by omega) (by omega) | exact jn_no0 (by unfold nbZ; (repeat' split) <;> omega))), rfl⟩ dL_joined_73
              · refine lv_iload hx hb dL_joined_66 (lv_at hl 0 rfl) ?_
                refine x_iconst hx hb dL_joined_68 ?_
                refine x_icmp_le (tgt := 74) hx hb dL_joined_69 (by decide) (by omega) (by decide) (fun c69 => ?_) (fun c69 => ?_)
                · refine lv_aload_n hx hb dL_joined_74 rfl (lv_at hl 2 rfl) ?_
                  refine lv_iload_n hx hb dL_joined_75 rfl (lv_at hl 3 rfl) ?_
                  refine x_iconst hx hb dL_joined_76 ?_
                  refine x_idiv hx hb dL_joined_77 (by omega) (by omega) (by omega) (by omega) ?_
                  refine lv_iload_n hx hb dL_joined_78 rfl (lv_at hl 3 rfl) ?_
                  refine x_iconst hx hb dL_joined_79 ?_
                  refine x_irem hx hb dL_joined_80 (by omega) (by omega) (by omega) (by omega) ?_
                  obtain ⟨fs9, hfs9⟩ := fcw_0.o0
                  refine x_cVID (As := [.int (iZ (ce / 5)), .int (iZ (ce % 5))]) (rest := []) hx hb hml hts hown hK hST hOK hH 0 (q_openings0 l E ST hSF σ (ce / 5) (ce % 5) B S Y fcw_0 (by omega) (by omega) (by omega)) (cwV 2 hts (goodIn_t (goodIn_x gK_73)) rfl rfl rfl (by decide +kernel) ⟨Nat.le_of_ble_eq_true rfl, Nat.le_of_ble_eq_true rfl⟩) (ltw (by decide)) hfs9 rfl rfl hl.1 rfl (Nat.le_of_ble_eq_true rfl) dL_joined_81 ⟨Nat.le_of_ble_eq_true rfl, Nat.le_of_ble_eq_true rfl⟩ (fun z u h => h) (fun H locs hH => ?_)
                  rw [show ce / 5 * 5 + ce % 5 = ce by omega]
                  refine lv_iload_n hx hb dL_joined_84 rfl (lv_at hl 4 rfl) ?_
                  refine x_ishr hx hb dL_joined_85 ?_
                  have hs1 := ishr_b (d := 1) (hop ce) (by decide)
                  refine x_iconst hx hb dL_joined_86 ?_
                  refine x_irem hx hb dL_joined_87 (by omega) (by omega) (by omega) (by omega) ?_
                  refine x_iconst hx hb dL_joined_88 ?_
                  refine x_icmp_ne (tgt := 96) hx hb dL_joined_89 (by decide) (by omega) (by decide) (fun c89 => ?_) (fun c89 => ?_)
                  · refine x_iconst hx hb dL_joined_96 ?_
                    refine lv_istore (lv' := [(5, .int (iZ 0)), (4, .int (iZ (((ce % 5) + 1) - 0))), (3, .int (iZ (((ce / 5) - 0) + 0))), (0, .ref (xad E 0)), (1, .int (iZ ce)), (2, .int (iZ 1))]) hx hb dL_joined_97 hl (by decide) rfl (fun ls hl => ?_)
                    refine lv_aload_n hx hb dL_joined_99 rfl (lv_at hl 3 rfl) ?_
                    refine lv_iload_n hx hb dL_joined_100 rfl (lv_at hl 2 rfl) ?_
                    refine lv_iload hx hb dL_joined_101 (lv_at hl 1 rfl) ?_
                    obtain ⟨fs9, hfs9⟩ := fcw_0.o0
                    refine x_cVID (As := [.int (iZ (((ce / 5) - 0) + 0)), .int (iZ (((ce % 5) + 1) - 0))]) (rest := []) hx hb hml hts hown hK hST hOK hH 0 (q_openings0 l E ST hSF σ (((ce / 5) - 0) + 0) (((ce % 5) + 1) - 0) B S Y fcw_0 (by omega) (by omega) (by omega)) (cwV 2 hts (goodIn_t (goodIn_x gK_73)) rfl rfl rfl (by decide +kernel) ⟨Nat.le_of_ble_eq_true rfl, Nat.le_of_ble_eq_true rfl⟩) (ltw (by decide)) hfs9 rfl rfl hl.1 rfl (Nat.le_of_ble_eq_true rfl) dL_joined_103 ⟨Nat.le_of_ble_eq_true rfl, Nat.le_of_ble_eq_true rfl⟩ (fun z u h => h) (fun H locs hH => ?_)
                    rw [show (((ce / 5) - 0) + 0) * 5 + (((ce % 5) + 1) - 0) = ce + 1 by omega]
                    refine lv_iload_n hx hb dL_joined_106 rfl (lv_at hl 5 rfl) ?_
                    refine x_iconst hx hb dL_joined_107 ?_
                    refine x_iadd hx hb dL_joined_108 ?_
                    refine x_iconst hx hb dL_joined_109 ?_
                    refine x_irem hx hb dL_joined_110 (by omega) (by omega) (by omega) (by omega) ?_
                    refine x_ishr hx hb dL_joined_111 ?_
                    have hs2 := ishr_b (d := (1 + 2) % 4) (hop (ce + 1)) (by decide)
                    refine x_iconst hx hb dL_joined_112 ?_
                    refine x_irem hx hb dL_joined_113 (by omega) (by omega) (by omega) (by omega) ?_
                    refine x_iconst hx hb dL_joined_114 ?_
                    refine x_icmp_ne (tgt := 122) hx hb dL_joined_115 (by decide) (by omega) (by decide) (fun c115 => ?_) (fun c115 => ?_)
                    · refine x_iconst hx hb dL_joined_122 ?_
                      refine lv_istore (lv' := [(6, .int (iZ 0)), (5, .int (iZ 0)), (4, .int (iZ (((ce % 5) + 1) - 0))), (3, .int (iZ (((ce / 5) - 0) + 0))), (0, .ref (xad E 0)), (1, .int (iZ ce)), (2, .int (iZ 1))]) hx hb dL_joined_123 hl (by decide) rfl (fun ls hl => ?_)
                      refine lv_iload hx hb dL_joined_125 (lv_at hl 1 rfl) ?_
                      refine x_if_eq (tgt := 144) hx hb dL_joined_127 (by decide) (by decide) (fun c127 => ?_) (fun c127 => ?_)
                      · refine x_iconst hx hb dL_joined_144 ?_
                        subst hQ
                        exact x_iret hx hb hr hlocks hH (Nat.le_of_ble_eq_true rfl) (Nat.le_of_ble_eq_true rfl) ⟨(show (-1) = (cnZ (opT B) ce 1) from (by first | exact jn_no1 (hop _) (by decide) c89 | exact jn_no2 (x := ce + 1) (by unfold nbZ; (repeat' split) <;> omega) (hop _) (by decide) c115 | exact jn_yes (x := ce + 1) (by unfold nbZ; (repeat' split) <;> omega) (hop _) (hop _) (by decide) c89 c115 (by omega) (by omega) | exact jn_no0 (by unfold nbZ; (repeat' split) <;> omega))), rfl⟩ dL_joined_145
                      · exact absurd c127 (by decide)
                    · refine x_iconst hx hb dL_joined_118 ?_
                      refine lv_goto (tgt := 123) hx hb dL_joined_119 (by decide) ?_
                      refine lv_istore (lv' := [(6, .int (iZ 1)), (5, .int (iZ 0)), (4, .int (iZ (((ce % 5) + 1) - 0))), (3, .int (iZ (((ce / 5) - 0) + 0))), (0, .ref (xad E 0)), (1, .int (iZ ce)), (2, .int (iZ 1))]) hx hb dL_joined_123 hl (by decide) rfl (fun ls hl => ?_)
                      refine lv_iload hx hb dL_joined_125 (lv_at hl 1 rfl) ?_
                      refine x_if_eq (tgt := 144) hx hb dL_joined_127 (by decide) (by decide) (fun c127 => ?_) (fun c127 => ?_)
                      · refine x_iconst hx hb dL_joined_144 ?_
                        subst hQ
                        exact x_iret hx hb hr hlocks hH (Nat.le_of_ble_eq_true rfl) (Nat.le_of_ble_eq_true rfl) ⟨(show (-1) = (cnZ (opT B) ce 1) from (by first | exact jn_no1 (hop _) (by decide) c89 | exact jn_no2 (x := ce + 1) (by unfold nbZ; (repeat' split) <;> omega) (hop _) (by decide) c115 | exact jn_yes (x := ce + 1) (by unfold nbZ; (repeat' split) <;> omega) (hop _) (hop _) (by decide) c89 c115 (by omega) (by omega) | exact jn_no0 (by unfold nbZ; (repeat' split) <;> omega))), rfl⟩ dL_joined_145
                      · exact absurd c127 (by decide)
                  · refine x_iconst hx hb dL_joined_92 ?_
                    refine lv_goto (tgt := 97) hx hb dL_joined_93 (by decide) ?_
                    refine lv_istore (lv' := [(5, .int (iZ 1)), (4, .int (iZ (((ce % 5) + 1) - 0))), (3, .int (iZ (((ce / 5) - 0) + 0))), (0, .ref (xad E 0)), (1, .int (iZ ce)), (2, .int (iZ 1))]) hx hb dL_joined_97 hl (by decide) rfl (fun ls hl => ?_)
                    refine lv_aload_n hx hb dL_joined_99 rfl (lv_at hl 3 rfl) ?_
                    refine lv_iload_n hx hb dL_joined_100 rfl (lv_at hl 2 rfl) ?_
                    refine lv_iload hx hb dL_joined_101 (lv_at hl 1 rfl) ?_
                    obtain ⟨fs9, hfs9⟩ := fcw_0.o0
                    refine x_cVID (As := [.int (iZ (((ce / 5) - 0) + 0)), .int (iZ (((ce % 5) + 1) - 0))]) (rest := []) hx hb hml hts hown hK hST hOK hH 0 (q_openings0 l E ST hSF σ (((ce / 5) - 0) + 0) (((ce % 5) + 1) - 0) B S Y fcw_0 (by omega) (by omega) (by omega)) (cwV 2 hts (goodIn_t (goodIn_x gK_73)) rfl rfl rfl (by decide +kernel) ⟨Nat.le_of_ble_eq_true rfl, Nat.le_of_ble_eq_true rfl⟩) (ltw (by decide)) hfs9 rfl rfl hl.1 rfl (Nat.le_of_ble_eq_true rfl) dL_joined_103 ⟨Nat.le_of_ble_eq_true rfl, Nat.le_of_ble_eq_true rfl⟩ (fun z u h => h) (fun H locs hH => ?_)
                    rw [show (((ce / 5) - 0) + 0) * 5 + (((ce % 5) + 1) - 0) = ce + 1 by omega]
                    refine lv_iload_n hx hb dL_joined_106 rfl (lv_at hl 5 rfl) ?_
                    refine x_iconst hx hb dL_joined_107 ?_
                    refine x_iadd hx hb dL_joined_108 ?_
                    refine x_iconst hx hb dL_joined_109 ?_
                    refine x_irem hx hb dL_joined_110 (by omega) (by omega) (by omega) (by omega) ?_
                    refine x_ishr hx hb dL_joined_111 ?_
                    have hs2 := ishr_b (d := (1 + 2) % 4) (hop (ce + 1)) (by decide)
                    refine x_iconst hx hb dL_joined_112 ?_
                    refine x_irem hx hb dL_joined_113 (by omega) (by omega) (by omega) (by omega) ?_
                    refine x_iconst hx hb dL_joined_114 ?_
                    refine x_icmp_ne (tgt := 122) hx hb dL_joined_115 (by decide) (by omega) (by decide) (fun c115 => ?_) (fun c115 => ?_)
                    · refine x_iconst hx hb dL_joined_122 ?_
                      refine lv_istore (lv' := [(6, .int (iZ 0)), (5, .int (iZ 1)), (4, .int (iZ (((ce % 5) + 1) - 0))), (3, .int (iZ (((ce / 5) - 0) + 0))), (0, .ref (xad E 0)), (1, .int (iZ ce)), (2, .int (iZ 1))]) hx hb dL_joined_123 hl (by decide) rfl (fun ls hl => ?_)
                      refine lv_iload hx hb dL_joined_125 (lv_at hl 1 rfl) ?_
                      refine x_if_eq (tgt := 144) hx hb dL_joined_127 (by decide) (by decide) (fun c127 => ?_) (fun c127 => ?_)
                      · exact absurd c127 (by decide)
                      · refine lv_iload hx hb dL_joined_130 (lv_at hl 0 rfl) ?_
                        refine x_if_eq (tgt := 144) hx hb dL_joined_132 (by decide) (by decide) (fun c132 => ?_) (fun c132 => ?_)
                        · refine x_iconst hx hb dL_joined_144 ?_
                          subst hQ
                          exact x_iret hx hb hr hlocks hH (Nat.le_of_ble_eq_true rfl) (Nat.le_of_ble_eq_true rfl) ⟨(show (-1) = (cnZ (opT B) ce 1) from (by first | exact jn_no1 (hop _) (by decide) c89 | exact jn_no2 (x := ce + 1) (by unfold nbZ; (repeat' split) <;> omega) (hop _) (by decide) c115 | exact jn_yes (x := ce + 1) (by unfold nbZ; (repeat' split) <;> omega) (hop _) (hop _) (by decide) c89 c115 (by omega) (by omega) | exact jn_no0 (by unfold nbZ; (repeat' split) <;> omega))), rfl⟩ dL_joined_145
                        · exact absurd c132 (by decide)
                    · refine x_iconst hx hb dL_joined_118 ?_
                      refine lv_goto (tgt := 123) hx hb dL_joined_119 (by decide) ?_
                      refine lv_istore (lv' := [(6, .int (iZ 1)), (5, .int (iZ 1)), (4, .int (iZ (((ce % 5) + 1) - 0))), (3, .int (iZ (((ce / 5) - 0) + 0))), (0, .ref (xad E 0)), (1, .int (iZ ce)), (2, .int (iZ 1))]) hx hb dL_joined_123 hl (by decide) rfl (fun ls hl => ?_)
                      refine lv_iload hx hb dL_joined_125 (lv_at hl 1 rfl) ?_
                      refine x_if_eq (tgt := 144) hx hb dL_joined_127 (by decide) (by decide) (fun c127 => ?_) (fun c127 => ?_)
                      · exact absurd c127 (by decide)
                      · refine lv_iload hx hb dL_joined_130 (lv_at hl 0 rfl) ?_
                        refine x_if_eq (tgt := 144) hx hb dL_joined_132 (by decide) (by decide) (fun c132 => ?_) (fun c132 => ?_)
                        · exact absurd c132 (by decide)
                        · refine x_iconst hx hb dL_joined_135 ?_
                          refine lv_iload_n hx hb dL_joined_136 rfl (lv_at hl 3 rfl) ?_
                          refine x_imul hx hb dL_joined_137 ?_
                          refine lv_iload hx hb dL_joined_138 (lv_at hl 2 rfl) ?_
                          refine x_iadd hx hb dL_joined_140 ?_
                          refine lv_goto (tgt := 145) hx hb dL_joined_141 (by decide) ?_
                          subst hQ
                          exact x_iret hx hb hr hlocks hH (Nat.le_of_ble_eq_true rfl) (Nat.le_of_ble_eq_true rfl) ⟨(show ((5 * (((ce / 5) - 0) + 0)) + (((ce % 5) + 1) - 0)) = (cnZ (opT B) ce 1) from (by first | exact jn_no1 (hop _) (by decide) c89 | exact jn_no2 (x := ce + 1) (by unfold nbZ; (repeat' split) <;> omega) (hop _) (by decide) c115 | exact jn_yes (x := ce + 1) (by unfold nbZ; (repeat' split) <;> omega) (hop _) (hop _) (by decide) c89 c115 (by omega) (by omega) | exact jn_no0 (by unfold nbZ; (repeat' split) <;> omega))), rfl⟩ dL_joined_145
                · refine x_iconst hx hb dL_joined_72 ?_
                  subst hQ
                  exact x_iret hx hb hr hlocks hH (Nat.le_of_ble_eq_true rfl) (Nat.le_of_ble_eq_true rfl) ⟨(show (-1) = (cnZ (opT B) ce 1) from (by first | exact jn_no1 (hop _) (by decide) c89 | exact jn_no2 (x := ce + 1) (by unfold nbZ; (repeat' split) <;> omega) (hop _) (by decide) c115 | exact jn_yes (x := ce + 1) (by unfold nbZ; (repeat' split) <;> omega) (hop _) (hop _) (by decide) c89 c115 (by omega) (by omega) | exact jn_no0 (by unfold nbZ; (repeat' split) <;> omega))), rfl⟩ dL_joined_73
        · exact absurd c41 (by decide)
    · exact absurd c15 (by decide)
  · exact absurd c4 (by decide)

def rm_L_joined_2 : Room := { frames := 20, cells := 0, slots := 0, locals := 300 }
set_option maxRecDepth 100000 in
set_option maxHeartbeats 4000000 in
theorem c_L_joined_2 (l : Launch) (E : xE) (ST : xST) (hSF : SF ST) (σ : xW) (ce : Int) (B : BT) (S : Option BT) (Y : lnQ) (hr0 : cw E σ B S Y) (hc : 0 ≤ ce ∧ ce ≤ 24) : CI l E ST yL_joined wML_joined rm_L_joined_2 [.ref (xad E 0), .int (iZ ce), .int (iZ 2)] σ (fun (z : Int) (u : xW) => z = cnZ (opT B) ce 2 ∧ u = σ) := by
  have fcw_0 : cw E σ B S Y := hr0
  refine CI_of (by decide) rfl (Nat.le_of_ble_eq_true rfl) ?_
  intro p e s m args below meth c Q ls G hH hl hQ
  obtain ⟨hx, hb, hml, hown, hts, hK, hST, hlocks, hr, hno⟩ := G
  have hOK := hSF.1
  have hown : s.vm.findClass RL = some m.cls := hown
  have hl : lv_has ls 7 [(0, .ref (xad E 0)), (1, .int (iZ ce)), (2, .int (iZ 2))] := hl
  obtain ⟨hop, hlk9, hkp, hwc9, hpn, hnw⟩ : BI (opT B) (lkT B) (kpT B) (wcT B) (pnT B) (nwT B) := fcw_0.bit
  refine lv_iload_n hx hb dL_joined_0 rfl (lv_at hl 1 rfl) ?_
  refine x_iconst hx hb dL_joined_1 ?_
  refine x_idiv hx hb dL_joined_2 (by omega) (by omega) (by omega) (by omega) ?_
  refine lv_iload_n hx hb dL_joined_3 rfl (lv_at hl 2 rfl) ?_
  refine x_if_ne (tgt := 11) hx hb dL_joined_4 (by decide) (by decide) (fun c4 => ?_) (fun c4 => ?_)
  · refine x_iconst hx hb dL_joined_11 ?_
    refine x_isub hx hb dL_joined_12 ?_
    refine lv_iload_n hx hb dL_joined_13 rfl (lv_at hl 2 rfl) ?_
    refine x_iconst hx hb dL_joined_14 ?_
    refine x_icmp_ne (tgt := 22) hx hb dL_joined_15 (by decide) (by decide) (by decide) (fun c15 => ?_) (fun c15 => ?_)
    · exact absurd c15 (by decide)
    · refine x_iconst hx hb dL_joined_18 ?_
      refine lv_goto (tgt := 23) hx hb dL_joined_19 (by decide) ?_
      refine x_iadd hx hb dL_joined_23 ?_
      refine lv_istore_n (lv' := [(3, .int (iZ (((ce / 5) - 0) + 1))), (0, .ref (xad E 0)), (1, .int (iZ ce)), (2, .int (iZ 2))]) hx hb dL_joined_24 rfl hl (by decide) rfl (fun ls hl => ?_)
      refine lv_iload_n hx hb dL_joined_25 rfl (lv_at hl 2 rfl) ?_
      refine x_iconst hx hb dL_joined_26 ?_
      refine x_irem hx hb dL_joined_27 (by omega) (by omega) (by omega) (by omega) ?_
      refine lv_iload_n hx hb dL_joined_28 rfl (lv_at hl 3 rfl) ?_
      refine x_iconst hx hb dL_joined_29 ?_
      refine x_icmp_ne (tgt := 37) hx hb dL_joined_30 (by decide) (by decide) (by decide) (fun c30 => ?_) (fun c30 => ?_)
      · refine x_iconst hx hb dL_joined_37 ?_
        refine x_iadd hx hb dL_joined_38 ?_
        refine lv_iload_n hx hb dL_joined_39 rfl (lv_at hl 3 rfl) ?_
        refine x_iconst hx hb dL_joined_40 ?_
        refine x_icmp_ne (tgt := 48) hx hb dL_joined_41 (by decide) (by decide) (by decide) (fun c41 => ?_) (fun c41 => ?_)
        · refine x_iconst hx hb dL_joined_48 ?_
          refine x_isub hx hb dL_joined_49 ?_
          refine lv_istore (lv' := [(4, .int (iZ (((ce % 5) + 0) - 0))), (3, .int (iZ (((ce / 5) - 0) + 1))), (0, .ref (xad E 0)), (1, .int (iZ ce)), (2, .int (iZ 2))]) hx hb dL_joined_50 hl (by decide) rfl (fun ls hl => ?_)
          refine lv_iload_n hx hb dL_joined_52 rfl (lv_at hl 1 rfl) ?_
          refine x_if_lt (tgt := 72) hx hb dL_joined_53 (by decide) (by omega) (fun c53 => ?_) (fun c53 => ?_)
          · refine x_iconst hx hb dL_joined_72 ?_
            subst hQ
            exact x_iret hx hb hr hlocks hH (Nat.le_of_ble_eq_true rfl) (Nat.le_of_ble_eq_true rfl) ⟨(show (-1) = (cnZ (opT B) ce 2) from (by first | exact jn_no1 (hop _) (by decide) c89 | exact jn_no2 (x := ce + 5) (by unfold nbZ; (repeat' split) <;> omega) (hop _) (by decide) c115 | exact jn_yes (x := ce + 5) (by unfold nbZ; (repeat' split) <;> omega) (hop _) (hop _) (by decide) c89 c115 (by omega) (by omega) | exact jn_no0 (by unfold nbZ; (repeat' split) <;> omega))), rfl⟩ dL_joined_73
          · refine lv_iload_n hx hb dL_joined_56 rfl (lv_at hl 1 rfl) ?_
            refine x_iconst hx hb dL_joined_57 ?_
            refine x_icmp_gt (tgt := 72) hx hb dL_joined_58 (by decide) (by omega) (by decide) (fun c58 => ?_) (fun c58 => ?_)
            · refine x_iconst hx hb dL_joined_72 ?_
              subst hQ
              exact x_iret hx hb hr hlocks hH (Nat.le_of_ble_eq_true rfl) (Nat.le_of_ble_eq_true rfl) ⟨(show (-1) = (cnZ (opT B) ce 2) from (by first | exact jn_no1 (hop _) (by decide) c89 | exact jn_no2 (x := ce + 5) (by unfold nbZ; (repeat' split) <;> omega) (hop _) (by decide) c115 | exact jn_yes (x := ce + 5) (by unfold nbZ; (repeat' split) <;> omega) (hop _) (hop _) (by decide) c89 c115 (by omega) (by omega) | exact jn_no0 (by unfold nbZ; (repeat' split) <;> omega))), rfl⟩ dL_joined_73
            · refine lv_iload hx hb dL_joined_61 (lv_at hl 0 rfl) ?_
              refine x_if_lt (tgt := 72) hx hb dL_joined_63 (by decide) (by omega) (fun c63 => ?_) (fun c63 => ?_)
              · refine x_iconst hx hb dL_joined_72 ?_
                subst hQ
                exact x_iret hx hb hr hlocks hH (Nat.le_of_ble_eq_true rfl) (Nat.le_of_ble_eq_true rfl) ⟨(show (-1) = (cnZ (opT B) ce 2) from (by first | exact jn_no1 (hop _) (by decide) c89 | exact jn_no2 (x := ce + 5) (by unfold nbZ; (repeat' split) <;> omega) (hop _) (by decide) c115 | exact jn_yes (x := ce + 5) (by unfold nbZ; (repeat' split) <;> omega) (hop _) (hop _) (by decide) c89 c115 (by omega) (by omega) | exact jn_no0 (by unfold nbZ; (repeat' split) <;> omega))), rfl⟩ dL_joined_73
              · refine lv_iload hx hb dL_joined_66 (lv_at hl 0 rfl) ?_
                refine x_iconst hx hb dL_joined_68 ?_
                refine x_icmp_le (tgt := 74) hx hb dL_joined_69 (by decide) (by omega) (by decide) (fun c69 => ?_) (fun c69 => ?_)
                · refine lv_aload_n hx hb dL_joined_74 rfl (lv_at hl 2 rfl) ?_
                  refine lv_iload_n hx hb dL_joined_75 rfl (lv_at hl 3 rfl) ?_
                  refine x_iconst hx hb dL_joined_76 ?_
                  refine x_idiv hx hb dL_joined_77 (by omega) (by omega) (by omega) (by omega) ?_
                  refine lv_iload_n hx hb dL_joined_78 rfl (lv_at hl 3 rfl) ?_
                  refine x_iconst hx hb dL_joined_79 ?_
                  refine x_irem hx hb dL_joined_80 (by omega) (by omega) (by omega) (by omega) ?_
                  obtain ⟨fs9, hfs9⟩ := fcw_0.o0
                  refine x_cVID (As := [.int (iZ (ce / 5)), .int (iZ (ce % 5))]) (rest := []) hx hb hml hts hown hK hST hOK hH 0 (q_openings0 l E ST hSF σ (ce / 5) (ce % 5) B S Y fcw_0 (by omega) (by omega) (by omega)) (cwV 2 hts (goodIn_t (goodIn_x gK_73)) rfl rfl rfl (by decide +kernel) ⟨Nat.le_of_ble_eq_true rfl, Nat.le_of_ble_eq_true rfl⟩) (ltw (by decide)) hfs9 rfl rfl hl.1 rfl (Nat.le_of_ble_eq_true rfl) dL_joined_81 ⟨Nat.le_of_ble_eq_true rfl, Nat.le_of_ble_eq_true rfl⟩ (fun z u h => h) (fun H locs hH => ?_)
                  rw [show ce / 5 * 5 + ce % 5 = ce by omega]
                  refine lv_iload_n hx hb dL_joined_84 rfl (lv_at hl 4 rfl) ?_
                  refine x_ishr hx hb dL_joined_85 ?_
                  have hs1 := ishr_b (d := 2) (hop ce) (by decide)
                  refine x_iconst hx hb dL_joined_86 ?_
                  refine x_irem hx hb dL_joined_87 (by omega) (by omega) (by omega) (by omega) ?_
                  refine x_iconst hx hb dL_joined_88 ?_
                  refine x_icmp_ne (tgt := 96) hx hb dL_joined_89 (by decide) (by omega) (by decide) (fun c89 => ?_) (fun c89 => ?_)
                  · refine x_iconst hx hb dL_joined_96 ?_
                    refine lv_istore (lv' := [(5, .int (iZ 0)), (4, .int (iZ (((ce % 5) + 0) - 0))), (3, .int (iZ (((ce / 5) - 0) + 1))), (0, .ref (xad E 0)), (1, .int (iZ ce)), (2, .int (iZ 2))]) hx hb dL_joined_97 hl (by decide) rfl (fun ls hl => ?_)
                    refine lv_aload_n hx hb dL_joined_99 rfl (lv_at hl 3 rfl) ?_
                    refine lv_iload_n hx hb dL_joined_100 rfl (lv_at hl 2 rfl) ?_
                    refine lv_iload hx hb dL_joined_101 (lv_at hl 1 rfl) ?_
                    obtain ⟨fs9, hfs9⟩ := fcw_0.o0
                    refine x_cVID (As := [.int (iZ (((ce / 5) - 0) + 1)), .int (iZ (((ce % 5) + 0) - 0))]) (rest := []) hx hb hml hts hown hK hST hOK hH 0 (q_openings0 l E ST hSF σ (((ce / 5) - 0) + 1) (((ce % 5) + 0) - 0) B S Y fcw_0 (by omega) (by omega) (by omega)) (cwV 2 hts (goodIn_t (goodIn_x gK_73)) rfl rfl rfl (by decide +kernel) ⟨Nat.le_of_ble_eq_true rfl, Nat.le_of_ble_eq_true rfl⟩) (ltw (by decide)) hfs9 rfl rfl hl.1 rfl (Nat.le_of_ble_eq_true rfl) dL_joined_103 ⟨Nat.le_of_ble_eq_true rfl, Nat.le_of_ble_eq_true rfl⟩ (fun z u h => h) (fun H locs hH => ?_)
                    rw [show (((ce / 5) - 0) + 1) * 5 + (((ce % 5) + 0) - 0) = ce + 5 by omega]
                    refine lv_iload_n hx hb dL_joined_106 rfl (lv_at hl 5 rfl) ?_
                    refine x_iconst hx hb dL_joined_107 ?_
                    refine x_iadd hx hb dL_joined_108 ?_
                    refine x_iconst hx hb dL_joined_109 ?_
                    refine x_irem hx hb dL_joined_110 (by omega) (by omega) (by omega) (by omega) ?_
                    refine x_ishr hx hb dL_joined_111 ?_
                    have hs2 := ishr_b (d := (2 + 2) % 4) (hop (ce + 5)) (by decide)
                    refine x_iconst hx hb dL_joined_112 ?_
                    refine x_irem hx hb dL_joined_113 (by omega) (by omega) (by omega) (by omega) ?_
                    refine x_iconst hx hb dL_joined_114 ?_
                    refine x_icmp_ne (tgt := 122) hx hb dL_joined_115 (by decide) (by omega) (by decide) (fun c115 => ?_) (fun c115 => ?_)
                    · refine x_iconst hx hb dL_joined_122 ?_
                      refine lv_istore (lv' := [(6, .int (iZ 0)), (5, .int (iZ 0)), (4, .int (iZ (((ce % 5) + 0) - 0))), (3, .int (iZ (((ce / 5) - 0) + 1))), (0, .ref (xad E 0)), (1, .int (iZ ce)), (2, .int (iZ 2))]) hx hb dL_joined_123 hl (by decide) rfl (fun ls hl => ?_)
                      refine lv_iload hx hb dL_joined_125 (lv_at hl 1 rfl) ?_
                      refine x_if_eq (tgt := 144) hx hb dL_joined_127 (by decide) (by decide) (fun c127 => ?_) (fun c127 => ?_)
                      · refine x_iconst hx hb dL_joined_144 ?_
                        subst hQ
                        exact x_iret hx hb hr hlocks hH (Nat.le_of_ble_eq_true rfl) (Nat.le_of_ble_eq_true rfl) ⟨(show (-1) = (cnZ (opT B) ce 2) from (by first | exact jn_no1 (hop _) (by decide) c89 | exact jn_no2 (x := ce + 5) (by unfold nbZ; (repeat' split) <;> omega) (hop _) (by decide) c115 | exact jn_yes (x := ce + 5) (by unfold nbZ; (repeat' split) <;> omega) (hop _) (hop _) (by decide) c89 c115 (by omega) (by omega) | exact jn_no0 (by unfold nbZ; (repeat' split) <;> omega))), rfl⟩ dL_joined_145
                      · exact absurd c127 (by decide)
                    · refine x_iconst hx hb dL_joined_118 ?_
                      refine lv_goto (tgt := 123) hx hb dL_joined_119 (by decide) ?_
                      refine lv_istore (lv' := [(6, .int (iZ 1)), (5, .int (iZ 0)), (4, .int (iZ (((ce % 5) + 0) - 0))), (3, .int (iZ (((ce / 5) - 0) + 1))), (0, .ref (xad E 0)), (1, .int (iZ ce)), (2, .int (iZ 2))]) hx hb dL_joined_123 hl (by decide) rfl (fun ls hl => ?_)
                      refine lv_iload hx hb dL_joined_125 (lv_at hl 1 rfl) ?_
                      refine x_if_eq (tgt := 144) hx hb dL_joined_127 (by decide) (by decide) (fun c127 => ?_) (fun c127 => ?_)
                      · refine x_iconst hx hb dL_joined_144 ?_
                        subst hQ
                        exact x_iret hx hb hr hlocks hH (Nat.le_of_ble_eq_true rfl) (Nat.le_of_ble_eq_true rfl) ⟨(show (-1) = (cnZ (opT B) ce 2) from (by first | exact jn_no1 (hop _) (by decide) c89 | exact jn_no2 (x := ce + 5) (by unfold nbZ; (repeat' split) <;> omega) (hop _) (by decide) c115 | exact jn_yes (x := ce + 5) (by unfold nbZ; (repeat' split) <;> omega) (hop _) (hop _) (by decide) c89 c115 (by omega) (by omega) | exact jn_no0 (by unfold nbZ; (repeat' split) <;> omega))), rfl⟩ dL_joined_145
                      · exact absurd c127 (by decide)
                  · refine x_iconst hx hb dL_joined_92 ?_
                    refine lv_goto (tgt := 97) hx hb dL_joined_93 (by decide) ?_
                    refine lv_istore (lv' := [(5, .int (iZ 1)), (4, .int (iZ (((ce % 5) + 0) - 0))), (3, .int (iZ (((ce / 5) - 0) + 1))), (0, .ref (xad E 0)), (1, .int (iZ ce)), (2, .int (iZ 2))]) hx hb dL_joined_97 hl (by decide) rfl (fun ls hl => ?_)
                    refine lv_aload_n hx hb dL_joined_99 rfl (lv_at hl 3 rfl) ?_
                    refine lv_iload_n hx hb dL_joined_100 rfl (lv_at hl 2 rfl) ?_
                    refine lv_iload hx hb dL_joined_101 (lv_at hl 1 rfl) ?_
                    obtain ⟨fs9, hfs9⟩ := fcw_0.o0
                    refine x_cVID (As := [.int (iZ (((ce / 5) - 0) + 1)), .int (iZ (((ce % 5) + 0) - 0))]) (rest := []) hx hb hml hts hown hK hST hOK hH 0 (q_openings0 l E ST hSF σ (((ce / 5) - 0) + 1) (((ce % 5) + 0) - 0) B S Y fcw_0 (by omega) (by omega) (by omega)) (cwV 2 hts (goodIn_t (goodIn_x gK_73)) rfl rfl rfl (by decide +kernel) ⟨Nat.le_of_ble_eq_true rfl, Nat.le_of_ble_eq_true rfl⟩) (ltw (by decide)) hfs9 rfl rfl hl.1 rfl (Nat.le_of_ble_eq_true rfl) dL_joined_103 ⟨Nat.le_of_ble_eq_true rfl, Nat.le_of_ble_eq_true rfl⟩ (fun z u h => h) (fun H locs hH => ?_)
                    rw [show (((ce / 5) - 0) + 1) * 5 + (((ce % 5) + 0) - 0) = ce + 5 by omega]
                    refine lv_iload_n hx hb dL_joined_106 rfl (lv_at hl 5 rfl) ?_
                    refine x_iconst hx hb dL_joined_107 ?_
                    refine x_iadd hx hb dL_joined_108 ?_
                    refine x_iconst hx hb dL_joined_109 ?_
                    refine x_irem hx hb dL_joined_110 (by omega) (by omega) (by omega) (by omega) ?_
                    refine x_ishr hx hb dL_joined_111 ?_
                    have hs2 := ishr_b (d := (2 + 2) % 4) (hop (ce + 5)) (by decide)
                    refine x_iconst hx hb dL_joined_112 ?_
                    refine x_irem hx hb dL_joined_113 (by omega) (by omega) (by omega) (by omega) ?_
                    refine x_iconst hx hb dL_joined_114 ?_
                    refine x_icmp_ne (tgt := 122) hx hb dL_joined_115 (by decide) (by omega) (by decide) (fun c115 => ?_) (fun c115 => ?_)
                    · refine x_iconst hx hb dL_joined_122 ?_
                      refine lv_istore (lv' := [(6, .int (iZ 0)), (5, .int (iZ 1)), (4, .int (iZ (((ce % 5) + 0) - 0))), (3, .int (iZ (((ce / 5) - 0) + 1))), (0, .ref (xad E 0)), (1, .int (iZ ce)), (2, .int (iZ 2))]) hx hb dL_joined_123 hl (by decide) rfl (fun ls hl => ?_)
                      refine lv_iload hx hb dL_joined_125 (lv_at hl 1 rfl) ?_
                      refine x_if_eq (tgt := 144) hx hb dL_joined_127 (by decide) (by decide) (fun c127 => ?_) (fun c127 => ?_)
                      · exact absurd c127 (by decide)
                      · refine lv_iload hx hb dL_joined_130 (lv_at hl 0 rfl) ?_
                        refine x_if_eq (tgt := 144) hx hb dL_joined_132 (by decide) (by decide) (fun c132 => ?_) (fun c132 => ?_)
                        · refine x_iconst hx hb dL_joined_144 ?_
                          subst hQ
                          exact x_iret hx hb hr hlocks hH (Nat.le_of_ble_eq_true rfl) (Nat.le_of_ble_eq_true rfl) ⟨(show (-1) = (cnZ (opT B) ce 2) from (by first | exact jn_no1 (hop _) (by decide) c89 | exact jn_no2 (x := ce + 5) (by unfold nbZ; (repeat' split) <;> omega) (hop _) (by decide) c115 | exact jn_yes (x := ce + 5) (by unfold nbZ; (repeat' split) <;> omega) (hop _) (hop _) (by decide) c89 c115 (by omega) (by omega) | exact jn_no0 (by unfold nbZ; (repeat' split) <;> omega))), rfl⟩ dL_joined_145
                        · exact absurd c132 (by decide)
                    · refine x_iconst hx hb dL_joined_118 ?_
                      refine lv_goto (tgt := 123) hx hb dL_joined_119 (by decide) ?_
                      refine lv_istore (lv' := [(6, .int (iZ 1)), (5, .int (iZ 1)), (4, .int (iZ (((ce % 5) + 0) - 0))), (3, .int (iZ (((ce / 5) - 0) + 1))), (0, .ref (xad E 0)), (1, .int (iZ ce)), (2, .int (iZ 2))]) hx hb dL_joined_123 hl (by decide) rfl (fun ls hl => ?_)
                      refine lv_iload hx hb dL_joined_125 (lv_at hl 1 rfl) ?_
                      refine x_if_eq (tgt := 144) hx hb dL_joined_127 (by decide) (by decide) (fun c127 => ?_) (fun c127 => ?_)
                      · exact absurd c127 (by decide)
                      · refine lv_iload hx hb dL_joined_130 (lv_at hl 0 rfl) ?_
                        refine x_if_eq (tgt := 144) hx hb dL_joined_132 (by decide) (by decide) (fun c132 => ?_) (fun c132 => ?_)
                        · exact absurd c132 (by decide)
                        · refine x_iconst hx hb dL_joined_135 ?_
                          refine lv_iload_n hx hb dL_joined_136 rfl (lv_at hl 3 rfl) ?_
                          refine x_imul hx hb dL_joined_137 ?_
                          refine lv_iload hx hb dL_joined_138 (lv_at hl 2 rfl) ?_
                          refine x_iadd hx hb dL_joined_140 ?_
                          refine lv_goto (tgt := 145) hx hb dL_joined_141 (by decide) ?_
                          subst hQ
                          exact x_iret hx hb hr hlocks hH (Nat.le_of_ble_eq_true rfl) (Nat.le_of_ble_eq_true rfl) ⟨(show ((5 * (((ce / 5) - 0) + 1)) + (((ce % 5) + 0) - 0)) = (cnZ (opT B) ce 2) from (by first | exact jn_no1 (hop _) (by decide) c89 | exact jn_no2 (x := ce + 5) (by unfold nbZ; (repeat' split) <;> omega) (hop _) (by decide) c115 | exact jn_yes (x := ce + 5) (by unfold nbZ; (repeat' split) <;> omega) (hop _) (hop _) (by decide) c89 c115 (by omega) (by omega) | exact jn_no0 (by unfold nbZ; (repeat' split) <;> omega))), rfl⟩ dL_joined_145
                · refine x_iconst hx hb dL_joined_72 ?_
                  subst hQ
                  exact x_iret hx hb hr hlocks hH (Nat.le_of_ble_eq_true rfl) (Nat.le_of_ble_eq_true rfl) ⟨(show (-1) = (cnZ (opT B) ce 2) from (by first | exact jn_no1 (hop _) (by decide) c89 | exact jn_no2 (x := ce + 5) (by unfold nbZ; (repeat' split) <;> omega) (hop _) (by decide) c115 | exact jn_yes (x := ce + 5) (by unfold nbZ; (repeat' split) <;> omega) (hop _) (hop _) (by decide) c89 c115 (by omega) (by omega) | exact jn_no0 (by unfold nbZ; (repeat' split) <;> omega))), rfl⟩ dL_joined_73
        · exact absurd c41 (by decide)
      · exact absurd c30 (by decide)
  · exact absurd c4 (by decide)

def rm_L_joined_3 : Room := { frames := 20, cells := 0, slots := 0, locals := 300 }
set_option maxRecDepth 100000 in
set_option maxHeartbeats 4000000 in
theorem c_L_joined_3 (l : Launch) (E : xE) (ST : xST) (hSF : SF ST) (σ : xW) (ce : Int) (B : BT) (S : Option BT) (Y : lnQ) (hr0 : cw E σ B S Y) (hc : 0 ≤ ce ∧ ce ≤ 24) : CI l E ST yL_joined wML_joined rm_L_joined_3 [.ref (xad E 0), .int (iZ ce), .int (iZ 3)] σ (fun (z : Int) (u : xW) => z = cnZ (opT B) ce 3 ∧ u = σ) := by
  have fcw_0 : cw E σ B S Y := hr0
  refine CI_of (by decide) rfl (Nat.le_of_ble_eq_true rfl) ?_
  intro p e s m args below meth c Q ls G hH hl hQ
  obtain ⟨hx, hb, hml, hown, hts, hK, hST, hlocks, hr, hno⟩ := G
  have hOK := hSF.1
  have hown : s.vm.findClass RL = some m.cls := hown
  have hl : lv_has ls 7 [(0, .ref (xad E 0)), (1, .int (iZ ce)), (2, .int (iZ 3))] := hl
  obtain ⟨hop, hlk9, hkp, hwc9, hpn, hnw⟩ : BI (opT B) (lkT B) (kpT B) (wcT B) (pnT B) (nwT B) := fcw_0.bit
  refine lv_iload_n hx hb dL_joined_0 rfl (lv_at hl 1 rfl) ?_
  refine x_iconst hx hb dL_joined_1 ?_
  refine x_idiv hx hb dL_joined_2 (by omega) (by omega) (by omega) (by omega) ?_
  refine lv_iload_n hx hb dL_joined_3 rfl (lv_at hl 2 rfl) ?_
  refine x_if_ne (tgt := 11) hx hb dL_joined_4 (by decide) (by decide) (fun c4 => ?_) (fun c4 => ?_)
  · refine x_iconst hx hb dL_joined_11 ?_
    refine x_isub hx hb dL_joined_12 ?_
    refine lv_iload_n hx hb dL_joined_13 rfl (lv_at hl 2 rfl) ?_
    refine x_iconst hx hb dL_joined_14 ?_
    refine x_icmp_ne (tgt := 22) hx hb dL_joined_15 (by decide) (by decide) (by decide) (fun c15 => ?_) (fun c15 => ?_)
    · refine x_iconst hx hb dL_joined_22 ?_
      refine x_iadd hx hb dL_joined_23 ?_
      refine lv_istore_n (lv' := [(3, .int (iZ (((ce / 5) - 0) + 0))), (0, .ref (xad E 0)), (1, .int (iZ ce)), (2, .int (iZ 3))]) hx hb dL_joined_24 rfl hl (by decide) rfl (fun ls hl => ?_)
      refine lv_iload_n hx hb dL_joined_25 rfl (lv_at hl 2 rfl) ?_
      refine x_iconst hx hb dL_joined_26 ?_
      refine x_irem hx hb dL_joined_27 (by omega) (by omega) (by omega) (by omega) ?_
      refine lv_iload_n hx hb dL_joined_28 rfl (lv_at hl 3 rfl) ?_
      refine x_iconst hx hb dL_joined_29 ?_
      refine x_icmp_ne (tgt := 37) hx hb dL_joined_30 (by decide) (by decide) (by decide) (fun c30 => ?_) (fun c30 => ?_)
      · refine x_iconst hx hb dL_joined_37 ?_
        refine x_iadd hx hb dL_joined_38 ?_
        refine lv_iload_n hx hb dL_joined_39 rfl (lv_at hl 3 rfl) ?_
        refine x_iconst hx hb dL_joined_40 ?_
        refine x_icmp_ne (tgt := 48) hx hb dL_joined_41 (by decide) (by decide) (by decide) (fun c41 => ?_) (fun c41 => ?_)
        · exact absurd c41 (by decide)
        · refine x_iconst hx hb dL_joined_44 ?_
          refine lv_goto (tgt := 49) hx hb dL_joined_45 (by decide) ?_
          refine x_isub hx hb dL_joined_49 ?_
          refine lv_istore (lv' := [(4, .int (iZ (((ce % 5) + 0) - 1))), (3, .int (iZ (((ce / 5) - 0) + 0))), (0, .ref (xad E 0)), (1, .int (iZ ce)), (2, .int (iZ 3))]) hx hb dL_joined_50 hl (by decide) rfl (fun ls hl => ?_)
          refine lv_iload_n hx hb dL_joined_52 rfl (lv_at hl 1 rfl) ?_
          refine x_if_lt (tgt := 72) hx hb dL_joined_53 (by decide) (by omega) (fun c53 => ?_) (fun c53 => ?_)
          · refine x_iconst hx hb dL_joined_72 ?_
            subst hQ
            exact x_iret hx hb hr hlocks hH (Nat.le_of_ble_eq_true rfl) (Nat.le_of_ble_eq_true rfl) ⟨(show (-1) = (cnZ (opT B) ce 3) from (by first | exact jn_no1 (hop _) (by decide) c89 | exact jn_no2 (x := ce - 1) (by unfold nbZ; (repeat' split) <;> omega) (hop _) (by decide) c115 | exact jn_yes (x := ce - 1) (by unfold nbZ; (repeat' split) <;> omega) (hop _) (hop _) (by decide) c89 c115 (by omega) (by omega) | exact jn_no0 (by unfold nbZ; (repeat' split) <;> omega))), rfl⟩ dL_joined_73
          · refine lv_iload_n hx hb dL_joined_56 rfl (lv_at hl 1 rfl) ?_
            refine x_iconst hx hb dL_joined_57 ?_
            refine x_icmp_gt (tgt := 72) hx hb dL_joined_58 (by decide) (by omega) (by decide) (fun c58 => ?_) (fun c58 => ?_)
            · refine x_iconst hx hb dL_joined_72 ?_
              subst hQ
              exact x_iret hx hb hr hlocks hH (Nat.le_of_ble_eq_true rfl) (Nat.le_of_ble_eq_true rfl) ⟨(show (-1) = (cnZ (opT B) ce 3) from (by first | exact jn_no1 (hop _) (by decide) c89 | exact jn_no2 (x := ce - 1) (by unfold nbZ; (repeat' split) <;> omega) (hop _) (by decide) c115 | exact jn_yes (x := ce - 1) (by unfold nbZ; (repeat' split) <;> omega) (hop _) (hop _) (by decide) c89 c115 (by omega) (by omega) | exact jn_no0 (by unfold nbZ; (repeat' split) <;> omega))), rfl⟩ dL_joined_73
            · refine lv_iload hx hb dL_joined_61 (lv_at hl 0 rfl) ?_
              refine x_if_lt (tgt := 72) hx hb dL_joined_63 (by decide) (by omega) (fun c63 => ?_) (fun c63 => ?_)
              · refine x_iconst hx hb dL_joined_72 ?_
                subst hQ
                exact x_iret hx hb hr hlocks hH (Nat.le_of_ble_eq_true rfl) (Nat.le_of_ble_eq_true rfl) ⟨(show (-1) = (cnZ (opT B) ce 3) from (by first | exact jn_no1 (hop _) (by decide) c89 | exact jn_no2 (x := ce - 1) (by unfold nbZ; (repeat' split) <;> omega) (hop _) (by decide) c115 | exact jn_yes (x := ce - 1) (by unfold nbZ; (repeat' split) <;> omega) (hop _) (hop _) (by decide) c89 c115 (by omega) (by omega) | exact jn_no0 (by unfold nbZ; (repeat' split) <;> omega))), rfl⟩ dL_joined_73
              · refine lv_iload hx hb dL_joined_66 (lv_at hl 0 rfl) ?_
                refine x_iconst hx hb dL_joined_68 ?_
                refine x_icmp_le (tgt := 74) hx hb dL_joined_69 (by decide) (by omega) (by decide) (fun c69 => ?_) (fun c69 => ?_)
                · refine lv_aload_n hx hb dL_joined_74 rfl (lv_at hl 2 rfl) ?_
                  refine lv_iload_n hx hb dL_joined_75 rfl (lv_at hl 3 rfl) ?_
                  refine x_iconst hx hb dL_joined_76 ?_
                  refine x_idiv hx hb dL_joined_77 (by omega) (by omega) (by omega) (by omega) ?_
                  refine lv_iload_n hx hb dL_joined_78 rfl (lv_at hl 3 rfl) ?_
                  refine x_iconst hx hb dL_joined_79 ?_
                  refine x_irem hx hb dL_joined_80 (by omega) (by omega) (by omega) (by omega) ?_
                  obtain ⟨fs9, hfs9⟩ := fcw_0.o0
                  refine x_cVID (As := [.int (iZ (ce / 5)), .int (iZ (ce % 5))]) (rest := []) hx hb hml hts hown hK hST hOK hH 0 (q_openings0 l E ST hSF σ (ce / 5) (ce % 5) B S Y fcw_0 (by omega) (by omega) (by omega)) (cwV 2 hts (goodIn_t (goodIn_x gK_73)) rfl rfl rfl (by decide +kernel) ⟨Nat.le_of_ble_eq_true rfl, Nat.le_of_ble_eq_true rfl⟩) (ltw (by decide)) hfs9 rfl rfl hl.1 rfl (Nat.le_of_ble_eq_true rfl) dL_joined_81 ⟨Nat.le_of_ble_eq_true rfl, Nat.le_of_ble_eq_true rfl⟩ (fun z u h => h) (fun H locs hH => ?_)
                  rw [show ce / 5 * 5 + ce % 5 = ce by omega]
                  refine lv_iload_n hx hb dL_joined_84 rfl (lv_at hl 4 rfl) ?_
                  refine x_ishr hx hb dL_joined_85 ?_
                  have hs1 := ishr_b (d := 3) (hop ce) (by decide)
                  refine x_iconst hx hb dL_joined_86 ?_
                  refine x_irem hx hb dL_joined_87 (by omega) (by omega) (by omega) (by omega) ?_
                  refine x_iconst hx hb dL_joined_88 ?_
                  refine x_icmp_ne (tgt := 96) hx hb dL_joined_89 (by decide) (by omega) (by decide) (fun c89 => ?_) (fun c89 => ?_)
                  · refine x_iconst hx hb dL_joined_96 ?_
                    refine lv_istore (lv' := [(5, .int (iZ 0)), (4, .int (iZ (((ce % 5) + 0) - 1))), (3, .int (iZ (((ce / 5) - 0) + 0))), (0, .ref (xad E 0)), (1, .int (iZ ce)), (2, .int (iZ 3))]) hx hb dL_joined_97 hl (by decide) rfl (fun ls hl => ?_)
                    refine lv_aload_n hx hb dL_joined_99 rfl (lv_at hl 3 rfl) ?_
                    refine lv_iload_n hx hb dL_joined_100 rfl (lv_at hl 2 rfl) ?_
                    refine lv_iload hx hb dL_joined_101 (lv_at hl 1 rfl) ?_
                    obtain ⟨fs9, hfs9⟩ := fcw_0.o0
                    refine x_cVID (As := [.int (iZ (((ce / 5) - 0) + 0)), .int (iZ (((ce % 5) + 0) - 1))]) (rest := []) hx hb hml hts hown hK hST hOK hH 0 (q_openings0 l E ST hSF σ (((ce / 5) - 0) + 0) (((ce % 5) + 0) - 1) B S Y fcw_0 (by omega) (by omega) (by omega)) (cwV 2 hts (goodIn_t (goodIn_x gK_73)) rfl rfl rfl (by decide +kernel) ⟨Nat.le_of_ble_eq_true rfl, Nat.le_of_ble_eq_true rfl⟩) (ltw (by decide)) hfs9 rfl rfl hl.1 rfl (Nat.le_of_ble_eq_true rfl) dL_joined_103 ⟨Nat.le_of_ble_eq_true rfl, Nat.le_of_ble_eq_true rfl⟩ (fun z u h => h) (fun H locs hH => ?_)
                    rw [show (((ce / 5) - 0) + 0) * 5 + (((ce % 5) + 0) - 1) = ce - 1 by omega]
                    refine lv_iload_n hx hb dL_joined_106 rfl (lv_at hl 5 rfl) ?_
                    refine x_iconst hx hb dL_joined_107 ?_
                    refine x_iadd hx hb dL_joined_108 ?_
                    refine x_iconst hx hb dL_joined_109 ?_
                    refine x_irem hx hb dL_joined_110 (by omega) (by omega) (by omega) (by omega) ?_
                    refine x_ishr hx hb dL_joined_111 ?_
                    have hs2 := ishr_b (d := (3 + 2) % 4) (hop (ce - 1)) (by decide)
                    refine x_iconst hx hb dL_joined_112 ?_
                    refine x_irem hx hb dL_joined_113 (by omega) (by omega) (by omega) (by omega) ?_
                    refine x_iconst hx hb dL_joined_114 ?_
                    refine x_icmp_ne (tgt := 122) hx hb dL_joined_115 (by decide) (by omega) (by decide) (fun c115 => ?_) (fun c115 => ?_)
                    · refine x_iconst hx hb dL_joined_122 ?_
                      refine lv_istore (lv' := [(6, .int (iZ 0)), (5, .int (iZ 0)), (4, .int (iZ (((ce % 5) + 0) - 1))), (3, .int (iZ (((ce / 5) - 0) + 0))), (0, .ref (xad E 0)), (1, .int (iZ ce)), (2, .int (iZ 3))]) hx hb dL_joined_123 hl (by decide) rfl (fun ls hl => ?_)
                      refine lv_iload hx hb dL_joined_125 (lv_at hl 1 rfl) ?_
                      refine x_if_eq (tgt := 144) hx hb dL_joined_127 (by decide) (by decide) (fun c127 => ?_) (fun c127 => ?_)
                      · refine x_iconst hx hb dL_joined_144 ?_
                        subst hQ
                        exact x_iret hx hb hr hlocks hH (Nat.le_of_ble_eq_true rfl) (Nat.le_of_ble_eq_true rfl) ⟨(show (-1) = (cnZ (opT B) ce 3) from (by first | exact jn_no1 (hop _) (by decide) c89 | exact jn_no2 (x := ce - 1) (by unfold nbZ; (repeat' split) <;> omega) (hop _) (by decide) c115 | exact jn_yes (x := ce - 1) (by unfold nbZ; (repeat' split) <;> omega) (hop _) (hop _) (by decide) c89 c115 (by omega) (by omega) | exact jn_no0 (by unfold nbZ; (repeat' split) <;> omega))), rfl⟩ dL_joined_145
                      · exact absurd c127 (by decide)
                    · refine x_iconst hx hb dL_joined_118 ?_
                      refine lv_goto (tgt := 123) hx hb dL_joined_119 (by decide) ?_
                      refine lv_istore (lv' := [(6, .int (iZ 1)), (5, .int (iZ 0)), (4, .int (iZ (((ce % 5) + 0) - 1))), (3, .int (iZ (((ce / 5) - 0) + 0))), (0, .ref (xad E 0)), (1, .int (iZ ce)), (2, .int (iZ 3))]) hx hb dL_joined_123 hl (by decide) rfl (fun ls hl => ?_)
                      refine lv_iload hx hb dL_joined_125 (lv_at hl 1 rfl) ?_
                      refine x_if_eq (tgt := 144) hx hb dL_joined_127 (by decide) (by decide) (fun c127 => ?_) (fun c127 => ?_)
                      · refine x_iconst hx hb dL_joined_144 ?_
                        subst hQ
                        exact x_iret hx hb hr hlocks hH (Nat.le_of_ble_eq_true rfl) (Nat.le_of_ble_eq_true rfl) ⟨(show (-1) = (cnZ (opT B) ce 3) from (by first | exact jn_no1 (hop _) (by decide) c89 | exact jn_no2 (x := ce - 1) (by unfold nbZ; (repeat' split) <;> omega) (hop _) (by decide) c115 | exact jn_yes (x := ce - 1) (by unfold nbZ; (repeat' split) <;> omega) (hop _) (hop _) (by decide) c89 c115 (by omega) (by omega) | exact jn_no0 (by unfold nbZ; (repeat' split) <;> omega))), rfl⟩ dL_joined_145
                      · exact absurd c127 (by decide)
                  · refine x_iconst hx hb dL_joined_92 ?_
                    refine lv_goto (tgt := 97) hx hb dL_joined_93 (by decide) ?_
                    refine lv_istore (lv' := [(5, .int (iZ 1)), (4, .int (iZ (((ce % 5) + 0) - 1))), (3, .int (iZ (((ce / 5) - 0) + 0))), (0, .ref (xad E 0)), (1, .int (iZ ce)), (2, .int (iZ 3))]) hx hb dL_joined_97 hl (by decide) rfl (fun ls hl => ?_)
                    refine lv_aload_n hx hb dL_joined_99 rfl (lv_at hl 3 rfl) ?_
                    refine lv_iload_n hx hb dL_joined_100 rfl (lv_at hl 2 rfl) ?_
                    refine lv_iload hx hb dL_joined_101 (lv_at hl 1 rfl) ?_
                    obtain ⟨fs9, hfs9⟩ := fcw_0.o0
                    refine x_cVID (As := [.int (iZ (((ce / 5) - 0) + 0)), .int (iZ (((ce % 5) + 0) - 1))]) (rest := []) hx hb hml hts hown hK hST hOK hH 0 (q_openings0 l E ST hSF σ (((ce / 5) - 0) + 0) (((ce % 5) + 0) - 1) B S Y fcw_0 (by omega) (by omega) (by omega)) (cwV 2 hts (goodIn_t (goodIn_x gK_73)) rfl rfl rfl (by decide +kernel) ⟨Nat.le_of_ble_eq_true rfl, Nat.le_of_ble_eq_true rfl⟩) (ltw (by decide)) hfs9 rfl rfl hl.1 rfl (Nat.le_of_ble_eq_true rfl) dL_joined_103 ⟨Nat.le_of_ble_eq_true rfl, Nat.le_of_ble_eq_true rfl⟩ (fun z u h => h) (fun H locs hH => ?_)
                    rw [show (((ce / 5) - 0) + 0) * 5 + (((ce % 5) + 0) - 1) = ce - 1 by omega]
                    refine lv_iload_n hx hb dL_joined_106 rfl (lv_at hl 5 rfl) ?_
                    refine x_iconst hx hb dL_joined_107 ?_
                    refine x_iadd hx hb dL_joined_108 ?_
                    refine x_iconst hx hb dL_joined_109 ?_
                    refine x_irem hx hb dL_joined_110 (by omega) (by omega) (by omega) (by omega) ?_
                    refine x_ishr hx hb dL_joined_111 ?_
                    have hs2 := ishr_b (d := (3 + 2) % 4) (hop (ce - 1)) (by decide)
                    refine x_iconst hx hb dL_joined_112 ?_
                    refine x_irem hx hb dL_joined_113 (by omega) (by omega) (by omega) (by omega) ?_
                    refine x_iconst hx hb dL_joined_114 ?_
                    refine x_icmp_ne (tgt := 122) hx hb dL_joined_115 (by decide) (by omega) (by decide) (fun c115 => ?_) (fun c115 => ?_)
                    · refine x_iconst hx hb dL_joined_122 ?_
                      refine lv_istore (lv' := [(6, .int (iZ 0)), (5, .int (iZ 1)), (4, .int (iZ (((ce % 5) + 0) - 1))), (3, .int (iZ (((ce / 5) - 0) + 0))), (0, .ref (xad E 0)), (1, .int (iZ ce)), (2, .int (iZ 3))]) hx hb dL_joined_123 hl (by decide) rfl (fun ls hl => ?_)
                      refine lv_iload hx hb dL_joined_125 (lv_at hl 1 rfl) ?_
                      refine x_if_eq (tgt := 144) hx hb dL_joined_127 (by decide) (by decide) (fun c127 => ?_) (fun c127 => ?_)
                      · exact absurd c127 (by decide)
                      · refine lv_iload hx hb dL_joined_130 (lv_at hl 0 rfl) ?_
                        refine x_if_eq (tgt := 144) hx hb dL_joined_132 (by decide) (by decide) (fun c132 => ?_) (fun c132 => ?_)
                        · refine x_iconst hx hb dL_joined_144 ?_
                          subst hQ
                          exact x_iret hx hb hr hlocks hH (Nat.le_of_ble_eq_true rfl) (Nat.le_of_ble_eq_true rfl) ⟨(show (-1) = (cnZ (opT B) ce 3) from (by first | exact jn_no1 (hop _) (by decide) c89 | exact jn_no2 (x := ce - 1) (by unfold nbZ; (repeat' split) <;> omega) (hop _) (by decide) c115 | exact jn_yes (x := ce - 1) (by unfold nbZ; (repeat' split) <;> omega) (hop _) (hop _) (by decide) c89 c115 (by omega) (by omega) | exact jn_no0 (by unfold nbZ; (repeat' split) <;> omega))), rfl⟩ dL_joined_145
                        · exact absurd c132 (by decide)
                    · refine x_iconst hx hb dL_joined_118 ?_
                      refine lv_goto (tgt := 123) hx hb dL_joined_119 (by decide) ?_
                      refine lv_istore (lv' := [(6, .int (iZ 1)), (5, .int (iZ 1)), (4, .int (iZ (((ce % 5) + 0) - 1))), (3, .int (iZ (((ce / 5) - 0) + 0))), (0, .ref (xad E 0)), (1, .int (iZ ce)), (2, .int (iZ 3))]) hx hb dL_joined_123 hl (by decide) rfl (fun ls hl => ?_)
                      refine lv_iload hx hb dL_joined_125 (lv_at hl 1 rfl) ?_
                      refine x_if_eq (tgt := 144) hx hb dL_joined_127 (by decide) (by decide) (fun c127 => ?_) (fun c127 => ?_)
                      · exact absurd c127 (by decide)
                      · refine lv_iload hx hb dL_joined_130 (lv_at hl 0 rfl) ?_
                        refine x_if_eq (tgt := 144) hx hb dL_joined_132 (by decide) (by decide) (fun c132 => ?_) (fun c132 => ?_)
                        · exact absurd c132 (by decide)
                        · refine x_iconst hx hb dL_joined_135 ?_
                          refine lv_iload_n hx hb dL_joined_136 rfl (lv_at hl 3 rfl) ?_
                          refine x_imul hx hb dL_joined_137 ?_
                          refine lv_iload hx hb dL_joined_138 (lv_at hl 2 rfl) ?_
                          refine x_iadd hx hb dL_joined_140 ?_
                          refine lv_goto (tgt := 145) hx hb dL_joined_141 (by decide) ?_
                          subst hQ
                          exact x_iret hx hb hr hlocks hH (Nat.le_of_ble_eq_true rfl) (Nat.le_of_ble_eq_true rfl) ⟨(show ((5 * (((ce / 5) - 0) + 0)) + (((ce % 5) + 0) - 1)) = (cnZ (opT B) ce 3) from (by first | exact jn_no1 (hop _) (by decide) c89 | exact jn_no2 (x := ce - 1) (by unfold nbZ; (repeat' split) <;> omega) (hop _) (by decide) c115 | exact jn_yes (x := ce - 1) (by unfold nbZ; (repeat' split) <;> omega) (hop _) (hop _) (by decide) c89 c115 (by omega) (by omega) | exact jn_no0 (by unfold nbZ; (repeat' split) <;> omega))), rfl⟩ dL_joined_145
                · refine x_iconst hx hb dL_joined_72 ?_
                  subst hQ
                  exact x_iret hx hb hr hlocks hH (Nat.le_of_ble_eq_true rfl) (Nat.le_of_ble_eq_true rfl) ⟨(show (-1) = (cnZ (opT B) ce 3) from (by first | exact jn_no1 (hop _) (by decide) c89 | exact jn_no2 (x := ce - 1) (by unfold nbZ; (repeat' split) <;> omega) (hop _) (by decide) c115 | exact jn_yes (x := ce - 1) (by unfold nbZ; (repeat' split) <;> omega) (hop _) (hop _) (by decide) c89 c115 (by omega) (by omega) | exact jn_no0 (by unfold nbZ; (repeat' split) <;> omega))), rfl⟩ dL_joined_73
      · exact absurd c30 (by decide)
    · exact absurd c15 (by decide)
  · exact absurd c4 (by decide)

def rm_L_mayEnter_n : Room := { frames := 30, cells := 1, slots := 6, locals := 500 }
set_option maxRecDepth 100000 in
set_option maxHeartbeats 4000000 in
theorem c_L_mayEnter_n (l : Launch) (E : xE) (ST : xST) (hSF : SF ST) (hSX : SX ST) (htr : l.stackTraces = false) (σ : xW) (w : Int) (ce : Int) (B : BT) (S : Option BT) (Y : lnQ) (hr0 : cw E σ B S Y) (hw : 0 ≤ w ∧ w ≤ 2) (hc : 0 ≤ ce ∧ ce ≤ 24) (hlk : lkT B ce = -1) : CI l E ST yL_mayEnter wML_mayEnter rm_L_mayEnter_n [.ref (xad E 0), .int (iZ w), .int (iZ ce)] σ (fun (z : Int) (u : xW) => z = b2 (decide (lkT B ce = -1 ∨ kpT B (lkT B ce) = 25 + w)) ∧ u = σ) := by
  have fcw_0 : cw E σ B S Y := hr0
  refine CI_of (by decide) rfl (Nat.le_of_ble_eq_true rfl) ?_
  intro p e s m args below meth c Q ls G hH hl hQ
  obtain ⟨hx, hb, hml, hown, hts, hK, hST, hlocks, hr, hno⟩ := G
  have hOK := hSF.1
  have hown : s.vm.findClass RL = some m.cls := hown
  have hl : lv_has ls 4 [(0, .ref (xad E 0)), (1, .int (iZ w)), (2, .int (iZ ce))] := hl
  refine lv_aload_n hx hb dL_mayEnter_0 rfl (lv_at hl 0 rfl) ?_
  refine x_iconst hx hb dL_mayEnter_1 ?_
  refine lv_iload_n hx hb dL_mayEnter_2 rfl (lv_at hl 2 rfl) ?_
  refine x_iconst hx hb dL_mayEnter_3 ?_
  refine x_idiv hx hb dL_mayEnter_4 (by omega) (by omega) (by omega) (by omega) ?_
  refine lv_iload_n hx hb dL_mayEnter_5 rfl (lv_at hl 2 rfl) ?_
  refine x_iconst hx hb dL_mayEnter_6 ?_
  refine x_irem hx hb dL_mayEnter_7 (by omega) (by omega) (by omega) (by omega) ?_
  refine x_iconst hx hb dL_mayEnter_8 ?_
  refine x_cSW (As := [.ref (xad E 0), .int (iZ 1), .int (iZ (ce / 5)), .int (iZ (ce % 5)), .int (iZ 0)]) (rest := []) hx hb hml hts hown hK hST hOK hH (c_L_ask_1n l E ST hSF hSX htr σ (ce / 5) (ce % 5) 0 B S Y fcw_0 (by omega) (by rw [show ce / 5 * 5 + ce % 5 = ce by omega]; exact hlk)) (vx_cwSW 5 hts (goodIn_t gK_162) rfl rfl rfl (by decide +kernel) ⟨Nat.le_of_ble_eq_true rfl, Nat.le_of_ble_eq_true rfl⟩) rfl hl.1 rfl (Nat.le_of_ble_eq_true rfl) dL_mayEnter_9 ⟨Nat.le_of_ble_eq_true rfl, Nat.le_of_ble_eq_true rfl⟩ (fun z1 σ2 H locs hp3 hH => ?_)
  obtain ⟨hq9, hu9⟩ := hp3
  subst hq9
  rw [hu9] at hH
  refine lv_istore_n (lv' := [(3, .int (iZ (-2004))), (0, .ref (xad E 0)), (1, .int (iZ w)), (2, .int (iZ ce))]) hx hb dL_mayEnter_12 rfl hl (by decide) rfl (fun ls hl => ?_)
  refine lv_iload_n hx hb dL_mayEnter_13 rfl (lv_at hl 0 rfl) ?_
  refine x_if_lt (tgt := 32) hx hb dL_mayEnter_14 (by decide) (by decide) (fun c14 => ?_) (fun c14 => ?_)
  · refine x_iconst hx hb dL_mayEnter_32 ?_
    refine lv_goto (tgt := 37) hx hb dL_mayEnter_33 (by decide) ?_
    subst hQ
    exact x_zret (b := true) hx hb hr hlocks hH (Nat.le_of_ble_eq_true rfl) (Nat.le_of_ble_eq_true rfl) ⟨congrArg b2 (show true = (decide (lkT B ce = -1 ∨ kpT B (lkT B ce) = 25 + w)) from (by exact (decide_eq_true (Or.inl hlk)).symm)), rfl⟩ dL_mayEnter_37
  · exact absurd c14 (by decide)

def rm_L_mayEnter_y : Room := { frames := 30, cells := 1, slots := 6, locals := 500 }
set_option maxRecDepth 100000 in
set_option maxHeartbeats 4000000 in
theorem c_L_mayEnter_y (l : Launch) (E : xE) (ST : xST) (hSF : SF ST) (hSX : SX ST) (htr : l.stackTraces = false) (σ : xW) (w : Int) (ce : Int) (B : BT) (S : Option BT) (Y : lnQ) (hr0 : cw E σ B S Y) (hw : 0 ≤ w ∧ w ≤ 2) (hc : 0 ≤ ce ∧ ce ≤ 24) (hlk : ¬ lkT B ce = -1) : CI l E ST yL_mayEnter wML_mayEnter rm_L_mayEnter_y [.ref (xad E 0), .int (iZ w), .int (iZ ce)] σ (fun (z : Int) (u : xW) => z = b2 (decide (lkT B ce = -1 ∨ kpT B (lkT B ce) = 25 + w)) ∧ u = σ) := by
  have fcw_0 : cw E σ B S Y := hr0
  refine CI_of (by decide) rfl (Nat.le_of_ble_eq_true rfl) ?_
  intro p e s m args below meth c Q ls G hH hl hQ
  obtain ⟨hx, hb, hml, hown, hts, hK, hST, hlocks, hr, hno⟩ := G
  have hOK := hSF.1
  have hown : s.vm.findClass RL = some m.cls := hown
  have hl : lv_has ls 4 [(0, .ref (xad E 0)), (1, .int (iZ w)), (2, .int (iZ ce))] := hl
  obtain ⟨hop, hlk9, hkp, hwc9, hpn, hnw⟩ : BI (opT B) (lkT B) (kpT B) (wcT B) (pnT B) (nwT B) := fcw_0.bit
  have hlk8 := hlk9 ce
  refine lv_aload_n hx hb dL_mayEnter_0 rfl (lv_at hl 0 rfl) ?_
  refine x_iconst hx hb dL_mayEnter_1 ?_
  refine lv_iload_n hx hb dL_mayEnter_2 rfl (lv_at hl 2 rfl) ?_
  refine x_iconst hx hb dL_mayEnter_3 ?_
  refine x_idiv hx hb dL_mayEnter_4 (by omega) (by omega) (by omega) (by omega) ?_
  refine lv_iload_n hx hb dL_mayEnter_5 rfl (lv_at hl 2 rfl) ?_
  refine x_iconst hx hb dL_mayEnter_6 ?_
  refine x_irem hx hb dL_mayEnter_7 (by omega) (by omega) (by omega) (by omega) ?_
  refine x_iconst hx hb dL_mayEnter_8 ?_
  refine x_cSW (As := [.ref (xad E 0), .int (iZ 1), .int (iZ (ce / 5)), .int (iZ (ce % 5)), .int (iZ 0)]) (rest := []) hx hb hml hts hown hK hST hOK hH (c_L_ask_1y l E ST hSF hSX htr σ (ce / 5) (ce % 5) 0 B S Y fcw_0 (by omega) (by rw [show ce / 5 * 5 + ce % 5 = ce by omega]; exact hlk)) (vx_cwSW 5 hts (goodIn_t gK_162) rfl rfl rfl (by decide +kernel) ⟨Nat.le_of_ble_eq_true rfl, Nat.le_of_ble_eq_true rfl⟩) rfl hl.1 rfl (Nat.le_of_ble_eq_true rfl) dL_mayEnter_9 ⟨Nat.le_of_ble_eq_true rfl, Nat.le_of_ble_eq_true rfl⟩ (fun z1 σ2 H locs hp3 hH => ?_)
  obtain ⟨hq9, hu9⟩ := hp3
  subst hq9
  rw [hu9] at hH
  rw [show ce / 5 * 5 + ce % 5 = ce by omega]
  refine lv_istore_n (lv' := [(3, .int (iZ (97 + lkT B ce))), (0, .ref (xad E 0)), (1, .int (iZ w)), (2, .int (iZ ce))]) hx hb dL_mayEnter_12 rfl hl (by decide) rfl (fun ls hl => ?_)
  refine lv_iload_n hx hb dL_mayEnter_13 rfl (lv_at hl 0 rfl) ?_
  refine x_if_lt (tgt := 32) hx hb dL_mayEnter_14 (by decide) (by omega) (fun c14 => ?_) (fun c14 => ?_)
  · exfalso; omega
  · refine lv_aload_n hx hb dL_mayEnter_17 rfl (lv_at hl 1 rfl) ?_
    refine x_iconst hx hb dL_mayEnter_18 ?_
    refine lv_iload_n hx hb dL_mayEnter_19 rfl (lv_at hl 0 rfl) ?_
    refine x_bipush hx hb dL_mayEnter_20 (by decide) ?_
    refine x_isub hx hb dL_mayEnter_22 ?_
    refine x_iconst hx hb dL_mayEnter_23 ?_
    refine x_iconst hx hb dL_mayEnter_24 ?_
    refine x_cSW (As := [.ref (xad E 0), .int (iZ 4), .int (iZ ((97 + lkT B ce) - 97)), .int (iZ 0), .int (iZ 0)]) (rest := []) hx hb hml hts hown hK hST hOK hH (c_L_ask_4 l E ST hSF hSX htr σ ((97 + lkT B ce) - 97) 0 0 B S Y fcw_0 (by omega)) (vx_cwSW 5 hts (goodIn_t gK_162) rfl rfl rfl (by decide +kernel) ⟨Nat.le_of_ble_eq_true rfl, Nat.le_of_ble_eq_true rfl⟩) rfl hl.1 rfl (Nat.le_of_ble_eq_true rfl) dL_mayEnter_25 ⟨Nat.le_of_ble_eq_true rfl, Nat.le_of_ble_eq_true rfl⟩ (fun z4 σ5 H locs hp6 hH => ?_)
    obtain ⟨hq9, hu9⟩ := hp6
    subst hq9
    rw [hu9] at hH
    have hca := aCa_rg (hkp (97 + lkT B ce - 97)) hnw.2
    refine lv_iload_n hx hb dL_mayEnter_28 rfl (lv_at hl 2 rfl) ?_
    refine x_icmp_ne (tgt := 36) hx hb dL_mayEnter_29 (by decide) (by omega) (by omega) (fun c29 => ?_) (fun c29 => ?_)
    · refine x_iconst hx hb dL_mayEnter_36 ?_
      subst hQ
      exact x_zret (b := false) hx hb hr hlocks hH (Nat.le_of_ble_eq_true rfl) (Nat.le_of_ble_eq_true rfl) ⟨congrArg b2 (show false = (decide (lkT B ce = -1 ∨ kpT B (lkT B ce) = 25 + w)) from (by first | exact (decide_eq_true (Or.inr (me_t hw.1 c29))).symm | exact (decide_eq_false (fun q => q.elim hlk (me_f hw.1 c29))).symm)), rfl⟩ dL_mayEnter_37
    · refine x_iconst hx hb dL_mayEnter_32 ?_
      refine lv_goto (tgt := 37) hx hb dL_mayEnter_33 (by decide) ?_
      subst hQ
      exact x_zret (b := true) hx hb hr hlocks hH (Nat.le_of_ble_eq_true rfl) (Nat.le_of_ble_eq_true rfl) ⟨congrArg b2 (show true = (decide (lkT B ce = -1 ∨ kpT B (lkT B ce) = 25 + w)) from (by first | exact (decide_eq_true (Or.inr (me_t hw.1 c29))).symm | exact (decide_eq_false (fun q => q.elim hlk (me_f hw.1 c29))).symm)), rfl⟩ dL_mayEnter_37
