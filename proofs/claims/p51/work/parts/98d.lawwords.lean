/-! ===== the law's words hold where the tables do ===== -/
theorem j_sel {C : String} {y : MethodName} {s : State} {args : Array Value} {n : Nat} (hy : y.cls ≠ "java/lang/invoke/MethodHandle" ∧ y.cls ≠ "java/lang/invoke/VarHandle") (hins : (Cond.instantiable C n).before args s = true) (hpriv : (Cond.privateMethod y).before args s = true) (hinst : (Cond.instanceMethod y).before args s = true) (hsame : (Cond.sameMethod y.cls y.cls y.name y.desc).before args s = true) : (Cond.selects C y y).before args s = true := by
  obtain ⟨c, k, hc, hk, -, -⟩ := Cond.instantiable_spec hins
  obtain ⟨mk, methM, hnamed, hmethM, -, -⟩ := Cond.instanceMethod_spec hinst
  have hfound : s.methodFound? y.cls y.name y.desc = some mk := State.methodFound?_of_named hnamed hy
  obtain ⟨cn, ck, r1, hcn, hck, hni, hf, hn1⟩ := Cond.sameMethod_found hsame
  have hcls : mk.cls = cn := Option.some.inj ((findClass_of_methodNamed hnamed).symm.trans hcn)
  have hsel : selectMethod {} s.vm c mk = .method mk := selectMethod_private hmethM (Cond.privateMethod_at hpriv mk methM hnamed hmethM)
  simp only [Cond.before, Cond.holds, Cond.value, hc, hfound, hnamed, hsel, hcls, hck]
  simp; exact hni
def lw_s6 : List Cond := [Cond.selects RJ4 ⟨"java/lang/AbstractStringBuilder", "appendNull", "()Ljava/lang/AbstractStringBuilder;"⟩ yJ5_appendNull_278bc, Cond.selects RJ4 ⟨"java/lang/AbstractStringBuilder", "ensureCapacityInternal", "(I)V"⟩ yJ5_ensureCapacityInternal_d00df, Cond.selects RJ4 ⟨"java/lang/AbstractStringBuilder", "newCapacity", "(I)I"⟩ yJ5_newCapacity_0f7a4, Cond.selects RJ4 ⟨"java/lang/AbstractStringBuilder", "putStringAt", "(ILjava/lang/String;)V"⟩ yJ5_putStringAt_47b60, Cond.selects RJ4 ⟨"java/lang/AbstractStringBuilder", "inflateIfNeededFor", "(Ljava/lang/String;)V"⟩ yJ5_inflateIfNeededFor_a7421, Cond.selects RJ4 ⟨"java/lang/AbstractStringBuilder", "inflate", "()V"⟩ yJ5_inflate_da8c8]
abbrev lw_tblX : List Cond := lw_s6 ++ lw_tbl
theorem lw_s6_ok {args : Array Value} {s : State} (hts : ∀ w ∈ lw_tbl, w.before args s = true) : ∀ w ∈ lw_tblX, w.before args s = true := by
  intro w hw
  rcases List.mem_append.mp hw with hw | hw
  · have hi : (Cond.instantiable RJ4 4).before args s = true := hts _ (by decide +kernel)
    rcases List.mem_cons.mp hw with rfl | hw
    · exact j_sel (y := (⟨"java/lang/AbstractStringBuilder", "appendNull", "()Ljava/lang/AbstractStringBuilder;"⟩ : MethodName)) ⟨by decide, by decide⟩ hi (hts _ (by decide +kernel)) (hts _ (by decide +kernel)) (hts _ (by decide +kernel))
    rcases List.mem_cons.mp hw with rfl | hw
    · exact j_sel (y := (⟨"java/lang/AbstractStringBuilder", "ensureCapacityInternal", "(I)V"⟩ : MethodName)) ⟨by decide, by decide⟩ hi (hts _ (by decide +kernel)) (hts _ (by decide +kernel)) (hts _ (by decide +kernel))
    rcases List.mem_cons.mp hw with rfl | hw
    · exact j_sel (y := (⟨"java/lang/AbstractStringBuilder", "newCapacity", "(I)I"⟩ : MethodName)) ⟨by decide, by decide⟩ hi (hts _ (by decide +kernel)) (hts _ (by decide +kernel)) (hts _ (by decide +kernel))
    rcases List.mem_cons.mp hw with rfl | hw
    · exact j_sel (y := (⟨"java/lang/AbstractStringBuilder", "putStringAt", "(ILjava/lang/String;)V"⟩ : MethodName)) ⟨by decide, by decide⟩ hi (hts _ (by decide +kernel)) (hts _ (by decide +kernel)) (hts _ (by decide +kernel))
    rcases List.mem_cons.mp hw with rfl | hw
    · exact j_sel (y := (⟨"java/lang/AbstractStringBuilder", "inflateIfNeededFor", "(Ljava/lang/String;)V"⟩ : MethodName)) ⟨by decide, by decide⟩ hi (hts _ (by decide +kernel)) (hts _ (by decide +kernel)) (hts _ (by decide +kernel))
    rcases List.mem_cons.mp hw with rfl | hw
    · exact j_sel (y := (⟨"java/lang/AbstractStringBuilder", "inflate", "()V"⟩ : MethodName)) ⟨by decide, by decide⟩ hi (hts _ (by decide +kernel)) (hts _ (by decide +kernel)) (hts _ (by decide +kernel))
    exact absurd hw List.not_mem_nil
  · exact hts w hw
set_option maxRecDepth 20000 in
theorem iwsL_law0_r1 : ∀ w ∈ wsL_law0_r1, w ∈ lw_tblX := fun w h => (goodIn_p wsL_law0_r1 [56, 59] (by decide +kernel) (by decide +kernel) w h).1
set_option maxRecDepth 20000 in
theorem iwsL_law0_r2 : ∀ w ∈ wsL_law0_r2, w ∈ lw_tblX := fun w h => (goodIn_p wsL_law0_r2 [64] (by decide +kernel) (by decide +kernel) w h).1
set_option maxRecDepth 20000 in
theorem iwsL_law0_r3 : ∀ w ∈ wsL_law0_r3, w ∈ lw_tblX := fun w h => (goodIn_p wsL_law0_r3 [68, 110, 129, 155] (by decide +kernel) (by decide +kernel) w h).1
set_option maxRecDepth 20000 in
theorem iwsL_law0_r4 : ∀ w ∈ wsL_law0_r4, w ∈ lw_tblX := fun w h => (goodIn_p wsL_law0_r4 [226, 229, 218, 221] (by decide +kernel) (by decide +kernel) w h).1
set_option maxRecDepth 20000 in
theorem iwsL_law0_r5 : ∀ w ∈ wsL_law0_r5, w ∈ lw_tblX := fun w h => (goodIn_p wsL_law0_r5 [240, 244, 248, 255, 258] (by decide +kernel) (by decide +kernel) w h).1
set_option maxRecDepth 20000 in
theorem iwsL_law0_r6 : ∀ w ∈ wsL_law0_r6, w ∈ lw_tblX := fun w h => (goodIn_p wsL_law0_r6 [262, 400, 404] (by decide +kernel) (by decide +kernel) w h).1
set_option maxRecDepth 20000 in
theorem iwsL_law0_r7 : ∀ w ∈ wsL_law0_r7, w ∈ lw_tblX := fun w h => (goodIn_p wsL_law0_r7 [408, 412, 416, 420, 424, 427] (by decide +kernel) (by decide +kernel) w h).1
set_option maxRecDepth 20000 in
theorem iwsL_law0_r8 : ∀ w ∈ wsL_law0_r8, w ∈ lw_tblX := fun w h => (goodIn_p wsL_law0_r8 [434, 438, 442, 446, 450, 454] (by decide +kernel) (by decide +kernel) w h).1
set_option maxRecDepth 20000 in
theorem iwsL_law0_r9 : ∀ w ∈ wsL_law0_r9, w ∈ lw_tblX := fun w h => (goodIn_p wsL_law0_r9 [458, 462, 465, 468, 472, 476] (by decide +kernel) (by decide +kernel) w h).1
set_option maxRecDepth 20000 in
theorem iwsL_law0_r10 : ∀ w ∈ wsL_law0_r10, w ∈ lw_tblX := fun w h => (goodIn_p wsL_law0_r10 [480, 484, 488, 491, 495, 499] (by decide +kernel) (by decide +kernel) w h).1
set_option maxRecDepth 20000 in
theorem iwsL_law0_r11 : ∀ w ∈ wsL_law0_r11, w ∈ lw_tblX := fun w h => (goodIn_p wsL_law0_r11 [503, 507, 511, 515, 518, 522, 526] (by decide +kernel) (by decide +kernel) w h).1
set_option maxRecDepth 20000 in
theorem iwsL_law0_r12 : ∀ w ∈ wsL_law0_r12, w ∈ lw_tblX := fun w h => (goodIn_p wsL_law0_r12 [530, 534, 538, 542, 546] (by decide +kernel) (by decide +kernel) w h).1
set_option maxRecDepth 20000 in
theorem iwsL_law0_r13 : ∀ w ∈ wsL_law0_r13, w ∈ lw_tblX := fun w h => (goodIn_p wsL_law0_r13 [551, 554, 558, 562, 566, 570] (by decide +kernel) (by decide +kernel) w h).1
set_option maxRecDepth 20000 in
theorem iwsL_law0_r14 : ∀ w ∈ wsL_law0_r14, w ∈ lw_tblX := fun w h => (goodIn_p wsL_law0_r14 [637, 576, 580, 584, 590] (by decide +kernel) (by decide +kernel) w h).1
set_option maxRecDepth 20000 in
theorem iwsL_law0_r15 : ∀ w ∈ wsL_law0_r15, w ∈ lw_tblX := fun w h => (goodIn_p wsL_law0_r15 [594, 597, 600, 605, 608, 611, 614] (by decide +kernel) (by decide +kernel) w h).1
set_option maxRecDepth 20000 in
theorem iwsL_law0_r16 : ∀ w ∈ wsL_law0_r16, w ∈ lw_tblX := fun w h => (goodIn_p wsL_law0_r16 [618, 627, 631, 634, 641, 646] (by decide +kernel) (by decide +kernel) w h).1
set_option maxRecDepth 20000 in
theorem iwsL_law0_r17 : ∀ w ∈ wsL_law0_r17, w ∈ lw_tblX := fun w h => (goodIn_p wsL_law0_r17 [651, 659, 663, 667] (by decide +kernel) (by decide +kernel) w h).1
set_option maxRecDepth 20000 in
theorem iwsL_law0_r18 : ∀ w ∈ wsL_law0_r18, w ∈ lw_tblX := fun w h => (goodIn_p wsL_law0_r18 [671, 677, 681, 684, 690] (by decide +kernel) (by decide +kernel) w h).1
set_option maxRecDepth 20000 in
theorem iwsL_law0_r19 : ∀ w ∈ wsL_law0_r19, w ∈ lw_tblX := fun w h => (goodIn_p wsL_law0_r19 [695, 700, 704, 708, 711] (by decide +kernel) (by decide +kernel) w h).1
set_option maxRecDepth 20000 in
theorem iwsL_law0_r20 : ∀ w ∈ wsL_law0_r20, w ∈ lw_tblX := fun w h => (goodIn_p wsL_law0_r20 [716, 721, 725, 730, 734, 740] (by decide +kernel) (by decide +kernel) w h).1
set_option maxRecDepth 20000 in
theorem iwsL_law0_r21 : ∀ w ∈ wsL_law0_r21, w ∈ lw_tblX := fun w h => (goodIn_p wsL_law0_r21 [745, 749, 753, 757, 762] (by decide +kernel) (by decide +kernel) w h).1
set_option maxRecDepth 20000 in
theorem iwsL_law0_r22 : ∀ w ∈ wsL_law0_r22, w ∈ lw_tblX := fun w h => (goodIn_p wsL_law0_r22 [767, 771, 777, 782, 787, 791] (by decide +kernel) (by decide +kernel) w h).1
set_option maxRecDepth 20000 in
theorem iwsL_law0_r23 : ∀ w ∈ wsL_law0_r23, w ∈ lw_tblX := fun w h => (goodIn_p wsL_law0_r23 [795, 798, 803, 808, 813, 816] (by decide +kernel) (by decide +kernel) w h).1
set_option maxRecDepth 20000 in
theorem iwsL_law0_r24 : ∀ w ∈ wsL_law0_r24, w ∈ lw_tblX := fun w h => (goodIn_p wsL_law0_r24 [821, 825, 829, 833, 837, 841] (by decide +kernel) (by decide +kernel) w h).1
set_option maxRecDepth 20000 in
theorem iwsL_law0_r25 : ∀ w ∈ wsL_law0_r25, w ∈ lw_tblX := fun w h => (goodIn_p wsL_law0_r25 [845, 852, 856, 862, 866] (by decide +kernel) (by decide +kernel) w h).1
set_option maxRecDepth 20000 in
theorem iwsL_law0_r26 : ∀ w ∈ wsL_law0_r26, w ∈ lw_tblX := fun w h => (goodIn_p wsL_law0_r26 [871, 877, 880, 885] (by decide +kernel) (by decide +kernel) w h).1
set_option maxRecDepth 20000 in
theorem iwsL_law0_r27 : ∀ w ∈ wsL_law0_r27, w ∈ lw_tblX := fun w h => (goodIn_p wsL_law0_r27 [888, 906, 909, 913, 917] (by decide +kernel) (by decide +kernel) w h).1
set_option maxRecDepth 20000 in
theorem iwsL_law0_r28 : ∀ w ∈ wsL_law0_r28, w ∈ lw_tblX := fun w h => (goodIn_p wsL_law0_r28 [921, 924, 929, 933] (by decide +kernel) (by decide +kernel) w h).1
set_option maxRecDepth 20000 in
theorem iwsL_law0_r29 : ∀ w ∈ wsL_law0_r29, w ∈ lw_tblX := fun w h => (goodIn_p wsL_law0_r29 [947, 950, 953, 956, 959, 962] (by decide +kernel) (by decide +kernel) w h).1
set_option maxRecDepth 20000 in
theorem iwsL_law0_r30 : ∀ w ∈ wsL_law0_r30, w ∈ lw_tblX := fun w h => (goodIn_p wsL_law0_r30 [967, 971, 976, 979, 982, 985] (by decide +kernel) (by decide +kernel) w h).1
set_option maxRecDepth 20000 in
theorem iwsL_law0_r31 : ∀ w ∈ wsL_law0_r31, w ∈ lw_tblX := fun w h => (goodIn_p wsL_law0_r31 [988, 991, 995, 1004, 1007, 1010] (by decide +kernel) (by decide +kernel) w h).1
set_option maxRecDepth 20000 in
theorem iwsL_law0_r32 : ∀ w ∈ wsL_law0_r32, w ∈ lw_tblX := fun w h => (goodIn_p wsL_law0_r32 [1013, 1019, 1024, 1027, 1033] (by decide +kernel) (by decide +kernel) w h).1
set_option maxRecDepth 20000 in
theorem iwsL_law0_r33 : ∀ w ∈ wsL_law0_r33, w ∈ lw_tblX := fun w h => (goodIn_p wsL_law0_r33 [1039, 1041, 1045, 1048, 1051, 1086, 1089] (by decide +kernel) (by decide +kernel) w h).1
set_option maxRecDepth 20000 in
theorem iwsL_law0_r34 : ∀ w ∈ wsL_law0_r34, w ∈ lw_tblX := fun w h => (goodIn_p wsL_law0_r34 [1093, 1107, 1111, 1115, 1120, 1124] (by decide +kernel) (by decide +kernel) w h).1
set_option maxRecDepth 20000 in
theorem iwsL_law0_r35 : ∀ w ∈ wsL_law0_r35, w ∈ lw_tblX := fun w h => (goodIn_p wsL_law0_r35 [1128, 1134, 1138, 1141, 1144, 1148] (by decide +kernel) (by decide +kernel) w h).1
set_option maxRecDepth 20000 in
theorem iwsL_law0_r36 : ∀ w ∈ wsL_law0_r36, w ∈ lw_tblX := fun w h => (goodIn_p wsL_law0_r36 [1154, 1157, 1160, 1164, 1168, 1172] (by decide +kernel) (by decide +kernel) w h).1
set_option maxRecDepth 20000 in
theorem iwsL_law0_r37 : ∀ w ∈ wsL_law0_r37, w ∈ lw_tblX := fun w h => (goodIn_p wsL_law0_r37 [1176, 1181] (by decide +kernel) (by decide +kernel) w h).1
theorem iwsX60 : ∀ w ∈ wsX60, w ∈ lw_tblX := by decide +kernel
theorem iwsX10 : ∀ w ∈ wsX10, w ∈ lw_tblX := by decide +kernel
theorem iwsX30 : ∀ w ∈ wsX30, w ∈ lw_tblX := by decide +kernel
theorem iwsX50 : ∀ w ∈ wsX50, w ∈ lw_tblX := by decide +kernel
theorem iwsX40 : ∀ w ∈ wsX40, w ∈ lw_tblX := by decide +kernel
theorem iwsJ00 : ∀ w ∈ wsJ00, w ∈ lw_tblX := by decide +kernel
theorem iwsJ40 : ∀ w ∈ wsJ40, w ∈ lw_tblX := by decide +kernel
theorem wsL_law_in0 : ∀ w ∈ wsL_law0, w ∈ lw_tblX := (List.forall_mem_append.mpr ⟨(List.forall_mem_append.mpr ⟨(List.forall_mem_append.mpr ⟨(List.forall_mem_append.mpr ⟨(List.forall_mem_append.mpr ⟨(List.forall_mem_append.mpr ⟨(List.forall_mem_append.mpr ⟨(List.forall_mem_append.mpr ⟨(List.forall_mem_append.mpr ⟨iwsL_law0_r1, (List.forall_mem_append.mpr ⟨iwsL_law0_r2, (List.forall_mem_append.mpr ⟨iwsL_law0_r3, (List.forall_mem_append.mpr ⟨iwsL_law0_r4, (List.forall_mem_append.mpr ⟨iwsL_law0_r5, (List.forall_mem_append.mpr ⟨iwsL_law0_r6, (List.forall_mem_append.mpr ⟨iwsL_law0_r7, (List.forall_mem_append.mpr ⟨iwsL_law0_r8, (List.forall_mem_append.mpr ⟨iwsL_law0_r9, (List.forall_mem_append.mpr ⟨iwsL_law0_r10, (List.forall_mem_append.mpr ⟨iwsL_law0_r11, (List.forall_mem_append.mpr ⟨iwsL_law0_r12, (List.forall_mem_append.mpr ⟨iwsL_law0_r13, (List.forall_mem_append.mpr ⟨iwsL_law0_r14, (List.forall_mem_append.mpr ⟨iwsL_law0_r15, (List.forall_mem_append.mpr ⟨iwsL_law0_r16, (List.forall_mem_append.mpr ⟨iwsL_law0_r17, (List.forall_mem_append.mpr ⟨iwsL_law0_r18, (List.forall_mem_append.mpr ⟨iwsL_law0_r19, (List.forall_mem_append.mpr ⟨iwsL_law0_r20, (List.forall_mem_append.mpr ⟨iwsL_law0_r21, (List.forall_mem_append.mpr ⟨iwsL_law0_r22, (List.forall_mem_append.mpr ⟨iwsL_law0_r23, (List.forall_mem_append.mpr ⟨iwsL_law0_r24, (List.forall_mem_append.mpr ⟨iwsL_law0_r25, (List.forall_mem_append.mpr ⟨iwsL_law0_r26, (List.forall_mem_append.mpr ⟨iwsL_law0_r27, (List.forall_mem_append.mpr ⟨iwsL_law0_r28, (List.forall_mem_append.mpr ⟨iwsL_law0_r29, (List.forall_mem_append.mpr ⟨iwsL_law0_r30, (List.forall_mem_append.mpr ⟨iwsL_law0_r31, (List.forall_mem_append.mpr ⟨iwsL_law0_r32, (List.forall_mem_append.mpr ⟨iwsL_law0_r33, (List.forall_mem_append.mpr ⟨iwsL_law0_r34, (List.forall_mem_append.mpr ⟨iwsL_law0_r35, (List.forall_mem_append.mpr ⟨iwsL_law0_r36, iwsL_law0_r37⟩)⟩)⟩)⟩)⟩)⟩)⟩)⟩)⟩)⟩)⟩)⟩)⟩)⟩)⟩)⟩)⟩)⟩)⟩)⟩)⟩)⟩)⟩)⟩)⟩)⟩)⟩)⟩)⟩)⟩)⟩)⟩)⟩)⟩)⟩)⟩), iwsX60⟩), iwsX10⟩), iwsX30⟩), iwsX50⟩), iwsX40⟩), iwsJ00⟩), iwsJ40⟩), fun _ h => absurd h List.not_mem_nil⟩)
theorem wsL_law_x0 : ∀ w ∈ (vx_atS RX6 287 "java/lang/IndexOutOfBoundsException" ["java/lang/RuntimeException", "java/lang/Exception"]).filter goodWord, w ∈ lw_tblX := fun w h => (goodIn_of (big := lw_tblX) _ (by decide +kernel) w h).1
theorem wsL_law_x1 : ∀ w ∈ (vx_atS RX6 149 "java/lang/IllegalArgumentException" ["java/lang/RuntimeException", "java/lang/Exception"]).filter goodWord, w ∈ lw_tblX := fun w h => (goodIn_of (big := lw_tblX) _ (by decide +kernel) w h).1
theorem wsL_law_x2 : ∀ w ∈ (vx_atS RX6 246 "java/lang/IllegalStateException" ["java/lang/RuntimeException", "java/lang/Exception"]).filter goodWord, w ∈ lw_tblX := fun w h => (goodIn_of (big := lw_tblX) _ (by decide +kernel) w h).1
theorem wsL_law_x3 : ∀ w ∈ (vx_atS RX6 265 "java/lang/UnsupportedOperationException" ["java/lang/RuntimeException", "java/lang/Exception"]).filter goodWord, w ∈ lw_tblX := fun w h => (goodIn_of (big := lw_tblX) _ (by decide +kernel) w h).1
theorem wsL_law_x4 : ∀ w ∈ nsW, w ∈ lw_tblX := fun w h => (goodIn_of (big := lw_tblX) _ (by decide +kernel) w h).1
theorem wsL_law_in : ∀ w ∈ wsL_law, w ∈ lw_tblX := fun w h => (List.mem_append.mp h).elim (fun h => (List.mem_append.mp h).elim (fun h => (List.mem_append.mp h).elim (fun h => (List.mem_append.mp h).elim (fun h => (List.mem_append.mp h).elim (fun h => wsL_law_in0 w h) (fun h => wsL_law_x0 w h)) (fun h => wsL_law_x1 w h)) (fun h => wsL_law_x2 w h)) (fun h => wsL_law_x3 w h)) (fun h => wsL_law_x4 w h)
