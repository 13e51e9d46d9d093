theorem dX6_pathLengthByRounds_22 : decode cX6_pathLengthByRounds 22 = .ok (.invokevirtual 191, 3) := by decide +kernel
theorem dX6_pathLengthByRounds_25 : decode cX6_pathLengthByRounds 25 = .ok (.aload_n 0, 1) := by decide +kernel
theorem dX6_pathLengthByRounds_26 : decode cX6_pathLengthByRounds 26 = .ok (.getfield 39, 3) := by decide +kernel
theorem dX6_pathLengthByRounds_29 : decode cX6_pathLengthByRounds 29 = .ok (.getfield 194, 3) := by decide +kernel
theorem dX6_pathLengthByRounds_32 : decode cX6_pathLengthByRounds 32 = .ok (.iload 4, 2) := by decide +kernel
theorem dX6_pathLengthByRounds_34 : decode cX6_pathLengthByRounds 34 = .ok (.iaload, 1) := by decide +kernel
theorem dX6_pathLengthByRounds_35 : decode cX6_pathLengthByRounds 35 = .ok (.invokestatic 188, 3) := by decide +kernel
theorem dX6_pathLengthByRounds_38 : decode cX6_pathLengthByRounds 38 = .ok (.ireturn, 1) := by decide +kernel
set_option maxRecDepth 20000 in
theorem ggX6_firstStep_X6_needWalker : GoodIn wsX6_firstStep wsX6_needWalker := goodIn_ca (goodIn_r _ [11, 12, 13, 4, 14, 15, 16, 17, 18, 19, 56, 57, 58, 59, 60, 61, 62, 63, 64, 65, 66, 67, 73, 74, 75, 76, 77, 78, 79, 80, 81] (by decide +kernel) (by decide +kernel)) (goodIn_sub (fun _ h => List.mem_cons_of_mem _ (List.mem_append_right _ h)) (by decide +kernel))
set_option maxRecDepth 20000 in
theorem gX6_firstStep_X6_needWalker : GoodIn wsX6_firstStep (wsV RX6 178 RX6 yX6_needWalker wsX6_needWalker) := goodIn_app (goodIn_of _ (by decide +kernel)) ggX6_firstStep_X6_needWalker
set_option maxRecDepth 20000 in
theorem ggX6_firstStep_X6_needCell : GoodIn wsX6_firstStep wsX6_needCell := goodIn_ca (goodIn_r _ [22, 12, 13, 23, 24, 10, 25] (by decide +kernel) (by decide +kernel)) (goodIn_sub (fun _ h => List.mem_cons_of_mem _ (List.mem_append_right _ h)) (by decide +kernel))
set_option maxRecDepth 20000 in
theorem gX6_firstStep_X6_needCell : GoodIn wsX6_firstStep (va_wsS RX6 114 yX6_needCell wsX6_needCell) := goodIn_app (goodIn_of _ (by decide +kernel)) ggX6_firstStep_X6_needCell
set_option maxRecDepth 20000 in
theorem ggX6_firstStep_X5_findPaths : GoodIn wsX6_firstStep wsX5_findPaths := goodIn_r _ [30, 31, 32, 33, 34, 35, 36, 37, 38, 39, 40, 41, 17, 42, 43, 44, 45, 46, 47, 48, 49, 50, 51, 52, 73, 74, 75, 76, 77, 78, 79, 80, 81, 68, 69, 70, 71, 72] (by decide +kernel) (by decide +kernel)
set_option maxRecDepth 20000 in
theorem gX6_firstStep_X5_findPaths : GoodIn wsX6_firstStep (wsV RX6 181 RX5 yX5_findPaths wsX5_findPaths) := goodIn_app (goodIn_of _ (by decide +kernel)) ggX6_firstStep_X5_findPaths
set_option maxRecDepth 20000 in
theorem ggX6_firstStep_X6_needPath : GoodIn wsX6_firstStep wsX6_needPath := goodIn_ca (goodIn_r _ [55, 1, 2] (by decide +kernel) (by decide +kernel)) (goodIn_sub (fun _ h => List.mem_cons_of_mem _ (List.mem_append_left _ (List.mem_append_right _ h))) (by decide +kernel))
set_option maxRecDepth 20000 in
theorem gX6_firstStep_X6_needPath : GoodIn wsX6_firstStep (va_wsS RX6 188 yX6_needPath wsX6_needPath) := goodIn_app (goodIn_of _ (by decide +kernel)) ggX6_firstStep_X6_needPath
theorem dX6_firstStep_0 : decode cX6_firstStep 0 = .ok (.aload_n 0, 1) := by decide +kernel
theorem dX6_firstStep_1 : decode cX6_firstStep 1 = .ok (.iload_n 1, 1) := by decide +kernel
theorem dX6_firstStep_2 : decode cX6_firstStep 2 = .ok (.invokevirtual 178, 3) := by decide +kernel
theorem dX6_firstStep_5 : decode cX6_firstStep 5 = .ok (.pop, 1) := by decide +kernel
theorem dX6_firstStep_6 : decode cX6_firstStep 6 = .ok (.iload_n 2, 1) := by decide +kernel
theorem dX6_firstStep_7 : decode cX6_firstStep 7 = .ok (.iload_n 3, 1) := by decide +kernel
theorem dX6_firstStep_8 : decode cX6_firstStep 8 = .ok (.invokestatic 114, 3) := by decide +kernel
theorem dX6_firstStep_11 : decode cX6_firstStep 11 = .ok (.istore 4, 2) := by decide +kernel
theorem dX6_firstStep_13 : decode cX6_firstStep 13 = .ok (.aload_n 0, 1) := by decide +kernel
theorem dX6_firstStep_14 : decode cX6_firstStep 14 = .ok (.getfield 39, 3) := by decide +kernel
theorem dX6_firstStep_17 : decode cX6_firstStep 17 = .ok (.aload_n 0, 1) := by decide +kernel
theorem dX6_firstStep_18 : decode cX6_firstStep 18 = .ok (.getfield 12, 3) := by decide +kernel
theorem dX6_firstStep_21 : decode cX6_firstStep 21 = .ok (.iload_n 1, 1) := by decide +kernel
theorem dX6_firstStep_22 : decode cX6_firstStep 22 = .ok (.invokevirtual 181, 3) := by decide +kernel
theorem dX6_firstStep_25 : decode cX6_firstStep 25 = .ok (.aload_n 0, 1) := by decide +kernel
theorem dX6_firstStep_26 : decode cX6_firstStep 26 = .ok (.getfield 39, 3) := by decide +kernel
theorem dX6_firstStep_29 : decode cX6_firstStep 29 = .ok (.getfield 185, 3) := by decide +kernel
theorem dX6_firstStep_32 : decode cX6_firstStep 32 = .ok (.iload 4, 2) := by decide +kernel
theorem dX6_firstStep_34 : decode cX6_firstStep 34 = .ok (.iaload, 1) := by decide +kernel
theorem dX6_firstStep_35 : decode cX6_firstStep 35 = .ok (.invokestatic 188, 3) := by decide +kernel
theorem dX6_firstStep_38 : decode cX6_firstStep 38 = .ok (.ifCond .ne 13, 3) := by decide +kernel
theorem dX6_firstStep_41 : decode cX6_firstStep 41 = .ok (.new 131, 3) := by decide +kernel
theorem dX6_firstStep_44 : decode cX6_firstStep 44 = .ok (.dup, 1) := by decide +kernel
theorem dX6_firstStep_45 : decode cX6_firstStep 45 = .ok (.ldc 197, 2) := by decide +kernel
theorem dX6_firstStep_47 : decode cX6_firstStep 47 = .ok (.invokespecial 135, 3) := by decide +kernel
theorem dX6_firstStep_50 : decode cX6_firstStep 50 = .ok (.athrow, 1) := by decide +kernel
theorem dX6_firstStep_51 : decode cX6_firstStep 51 = .ok (.aload_n 0, 1) := by decide +kernel
theorem dX6_firstStep_52 : decode cX6_firstStep 52 = .ok (.getfield 39, 3) := by decide +kernel
theorem dX6_firstStep_55 : decode cX6_firstStep 55 = .ok (.getfield 199, 3) := by decide +kernel
theorem dX6_firstStep_58 : decode cX6_firstStep 58 = .ok (.iload 4, 2) := by decide +kernel
theorem dX6_firstStep_60 : decode cX6_firstStep 60 = .ok (.iaload, 1) := by decide +kernel
theorem dX6_firstStep_61 : decode cX6_firstStep 61 = .ok (.ireturn, 1) := by decide +kernel
set_option maxRecDepth 20000 in
theorem ggX6_reachableCells_X6_needWalker : GoodIn wsX6_reachableCells wsX6_needWalker := goodIn_ca (goodIn_r _ [7, 8, 9, 2, 10, 11, 12, 13, 14, 15, 47, 48, 49, 50, 51, 52, 53, 54, 55, 56, 57, 58, 59, 60, 61, 62, 63, 64, 65, 66, 67] (by decide +kernel) (by decide +kernel)) (goodIn_sub (fun _ h => List.mem_cons_of_mem _ (List.mem_append_right _ h)) (by decide +kernel))
set_option maxRecDepth 20000 in
theorem gX6_reachableCells_X6_needWalker : GoodIn wsX6_reachableCells (wsV RX6 178 RX6 yX6_needWalker wsX6_needWalker) := goodIn_app (goodIn_of _ (by decide +kernel)) ggX6_reachableCells_X6_needWalker
set_option maxRecDepth 20000 in
theorem ggX6_reachableCells_X5_findPaths : GoodIn wsX6_reachableCells wsX5_findPaths := goodIn_r _ [20, 21, 22, 23, 24, 25, 26, 27, 28, 29, 30, 31, 13, 32, 33, 34, 35, 36, 37, 38, 39, 40, 41, 42, 59, 60, 61, 62, 63, 64, 65, 66, 67, 68, 69, 70, 71, 72] (by decide +kernel) (by decide +kernel)
set_option maxRecDepth 20000 in
theorem gX6_reachableCells_X5_findPaths : GoodIn wsX6_reachableCells (wsV RX6 181 RX5 yX5_findPaths wsX5_findPaths) := goodIn_app (goodIn_of _ (by decide +kernel)) ggX6_reachableCells_X5_findPaths
set_option maxRecDepth 20000 in
theorem ggX6_reachableCells_X5_countReached : GoodIn wsX6_reachableCells wsX5_countReached := goodIn_r _ [46, 22, 68, 69, 70, 71, 72] (by decide +kernel) (by decide +kernel)
set_option maxRecDepth 20000 in
theorem gX6_reachableCells_X5_countReached : GoodIn wsX6_reachableCells (wsV RX6 202 RX5 yX5_countReached wsX5_countReached) := goodIn_app (goodIn_of _ (by decide +kernel)) ggX6_reachableCells_X5_countReached
theorem dX6_reachableCells_0 : decode cX6_reachableCells 0 = .ok (.aload_n 0, 1) := by decide +kernel
theorem dX6_reachableCells_1 : decode cX6_reachableCells 1 = .ok (.getfield 39, 3) := by decide +kernel
theorem dX6_reachableCells_4 : decode cX6_reachableCells 4 = .ok (.aload_n 0, 1) := by decide +kernel
theorem dX6_reachableCells_5 : decode cX6_reachableCells 5 = .ok (.getfield 12, 3) := by decide +kernel
theorem dX6_reachableCells_8 : decode cX6_reachableCells 8 = .ok (.aload_n 0, 1) := by decide +kernel
theorem dX6_reachableCells_9 : decode cX6_reachableCells 9 = .ok (.iload_n 1, 1) := by decide +kernel
theorem dX6_reachableCells_10 : decode cX6_reachableCells 10 = .ok (.invokevirtual 178, 3) := by decide +kernel
theorem dX6_reachableCells_13 : decode cX6_reachableCells 13 = .ok (.invokevirtual 181, 3) := by decide +kernel
theorem dX6_reachableCells_16 : decode cX6_reachableCells 16 = .ok (.aload_n 0, 1) := by decide +kernel
theorem dX6_reachableCells_17 : decode cX6_reachableCells 17 = .ok (.getfield 39, 3) := by decide +kernel
theorem dX6_reachableCells_20 : decode cX6_reachableCells 20 = .ok (.invokevirtual 202, 3) := by decide +kernel
theorem dX6_reachableCells_23 : decode cX6_reachableCells 23 = .ok (.ireturn, 1) := by decide +kernel
set_option maxRecDepth 20000 in
theorem ggX6_nearestKey_X6_needWalker : GoodIn wsX6_nearestKey wsX6_needWalker := goodIn_ca (goodIn_r _ [11, 12, 13, 4, 14, 15, 16, 17, 18, 19, 53, 54, 55, 56, 57, 58, 59, 60, 61, 62, 63, 64, 65, 66, 67, 68, 69, 70, 71, 72, 73] (by decide +kernel) (by decide +kernel)) (goodIn_sub (fun _ h => List.mem_cons_of_mem _ (List.mem_append_right _ h)) (by decide +kernel))
set_option maxRecDepth 20000 in
theorem gX6_nearestKey_X6_needWalker : GoodIn wsX6_nearestKey (wsV RX6 178 RX6 yX6_needWalker wsX6_needWalker) := goodIn_app (goodIn_of _ (by decide +kernel)) ggX6_nearestKey_X6_needWalker
set_option maxRecDepth 20000 in
theorem ggX6_nearestKey_X5_findPaths : GoodIn wsX6_nearestKey wsX5_findPaths := goodIn_r _ [24, 25, 26, 27, 28, 29, 30, 31, 32, 33, 34, 35, 17, 36, 37, 38, 39, 40, 41, 42, 43, 44, 45, 46, 65, 66, 67, 68, 69, 70, 71, 72, 73, 74, 75, 76, 77, 78] (by decide +kernel) (by decide +kernel)
set_option maxRecDepth 20000 in
theorem gX6_nearestKey_X5_findPaths : GoodIn wsX6_nearestKey (wsV RX6 181 RX5 yX5_findPaths wsX5_findPaths) := goodIn_app (goodIn_of _ (by decide +kernel)) ggX6_nearestKey_X5_findPaths
set_option maxRecDepth 20000 in
theorem ggX6_nearestKey_X6_isCell : GoodIn wsX6_nearestKey wsX6_isCell := goodIn_r _ [49] (by decide +kernel) (by decide +kernel)
set_option maxRecDepth 20000 in
theorem gX6_nearestKey_X6_isCell : GoodIn wsX6_nearestKey (va_wsS RX6 206 yX6_isCell wsX6_isCell) := goodIn_app (goodIn_of _ (by decide +kernel)) ggX6_nearestKey_X6_isCell
set_option maxRecDepth 20000 in
theorem ggX6_nearestKey_X6_keyName : GoodIn wsX6_nearestKey wsX6_keyName := goodIn_r _ [52] (by decide +kernel) (by decide +kernel)
set_option maxRecDepth 20000 in
theorem gX6_nearestKey_X6_keyName : GoodIn wsX6_nearestKey (va_wsS RX6 138 yX6_keyName wsX6_keyName) := goodIn_app (goodIn_of _ (by decide +kernel)) ggX6_nearestKey_X6_keyName
theorem dX6_nearestKey_0 : decode cX6_nearestKey 0 = .ok (.aload_n 0, 1) := by decide +kernel
theorem dX6_nearestKey_1 : decode cX6_nearestKey 1 = .ok (.getfield 39, 3) := by decide +kernel
theorem dX6_nearestKey_4 : decode cX6_nearestKey 4 = .ok (.aload_n 0, 1) := by decide +kernel
theorem dX6_nearestKey_5 : decode cX6_nearestKey 5 = .ok (.getfield 12, 3) := by decide +kernel
theorem dX6_nearestKey_8 : decode cX6_nearestKey 8 = .ok (.aload_n 0, 1) := by decide +kernel
theorem dX6_nearestKey_9 : decode cX6_nearestKey 9 = .ok (.iload_n 1, 1) := by decide +kernel
theorem dX6_nearestKey_10 : decode cX6_nearestKey 10 = .ok (.invokevirtual 178, 3) := by decide +kernel
theorem dX6_nearestKey_13 : decode cX6_nearestKey 13 = .ok (.invokevirtual 181, 3) := by decide +kernel
theorem dX6_nearestKey_16 : decode cX6_nearestKey 16 = .ok (.iconst (-1), 1) := by decide +kernel
theorem dX6_nearestKey_17 : decode cX6_nearestKey 17 = .ok (.istore_n 2, 1) := by decide +kernel
theorem dX6_nearestKey_18 : decode cX6_nearestKey 18 = .ok (.bipush 25, 2) := by decide +kernel
theorem dX6_nearestKey_20 : decode cX6_nearestKey 20 = .ok (.istore_n 3, 1) := by decide +kernel
theorem dX6_nearestKey_21 : decode cX6_nearestKey 21 = .ok (.iconst 0, 1) := by decide +kernel
theorem dX6_nearestKey_22 : decode cX6_nearestKey 22 = .ok (.istore 4, 2) := by decide +kernel
theorem dX6_nearestKey_24 : decode cX6_nearestKey 24 = .ok (.iload 4, 2) := by decide +kernel
theorem dX6_nearestKey_26 : decode cX6_nearestKey 26 = .ok (.bipush 6, 2) := by decide +kernel
theorem dX6_nearestKey_28 : decode cX6_nearestKey 28 = .ok (.if_icmp .ge 57, 3) := by decide +kernel
theorem dX6_nearestKey_31 : decode cX6_nearestKey 31 = .ok (.aload_n 0, 1) := by decide +kernel
theorem dX6_nearestKey_32 : decode cX6_nearestKey 32 = .ok (.getfield 12, 3) := by decide +kernel
theorem dX6_nearestKey_35 : decode cX6_nearestKey 35 = .ok (.getfield 164, 3) := by decide +kernel
theorem dX6_nearestKey_38 : decode cX6_nearestKey 38 = .ok (.iload 4, 2) := by decide +kernel
theorem dX6_nearestKey_40 : decode cX6_nearestKey 40 = .ok (.iaload, 1) := by decide +kernel
theorem dX6_nearestKey_41 : decode cX6_nearestKey 41 = .ok (.istore 5, 2) := by decide +kernel
theorem dX6_nearestKey_43 : decode cX6_nearestKey 43 = .ok (.iload 5, 2) := by decide +kernel
theorem dX6_nearestKey_45 : decode cX6_nearestKey 45 = .ok (.invokestatic 206, 3) := by decide +kernel
theorem dX6_nearestKey_48 : decode cX6_nearestKey 48 = .ok (.ifCond .eq 31, 3) := by decide +kernel
theorem dX6_nearestKey_51 : decode cX6_nearestKey 51 = .ok (.aload_n 0, 1) := by decide +kernel
theorem dX6_nearestKey_52 : decode cX6_nearestKey 52 = .ok (.getfield 39, 3) := by decide +kernel
theorem dX6_nearestKey_55 : decode cX6_nearestKey 55 = .ok (.getfield 185, 3) := by decide +kernel
theorem dX6_nearestKey_58 : decode cX6_nearestKey 58 = .ok (.iload 5, 2) := by decide +kernel
theorem dX6_nearestKey_60 : decode cX6_nearestKey 60 = .ok (.iaload, 1) := by decide +kernel
theorem dX6_nearestKey_61 : decode cX6_nearestKey 61 = .ok (.iload_n 3, 1) := by decide +kernel
theorem dX6_nearestKey_62 : decode cX6_nearestKey 62 = .ok (.if_icmp .ge 17, 3) := by decide +kernel
theorem dX6_nearestKey_65 : decode cX6_nearestKey 65 = .ok (.iload 4, 2) := by decide +kernel
theorem dX6_nearestKey_67 : decode cX6_nearestKey 67 = .ok (.istore_n 2, 1) := by decide +kernel
theorem dX6_nearestKey_68 : decode cX6_nearestKey 68 = .ok (.aload_n 0, 1) := by decide +kernel
theorem dX6_nearestKey_69 : decode cX6_nearestKey 69 = .ok (.getfield 39, 3) := by decide +kernel
theorem dX6_nearestKey_72 : decode cX6_nearestKey 72 = .ok (.getfield 185, 3) := by decide +kernel
theorem dX6_nearestKey_75 : decode cX6_nearestKey 75 = .ok (.iload 5, 2) := by decide +kernel
theorem dX6_nearestKey_77 : decode cX6_nearestKey 77 = .ok (.iaload, 1) := by decide +kernel
theorem dX6_nearestKey_78 : decode cX6_nearestKey 78 = .ok (.istore_n 3, 1) := by decide +kernel
theorem dX6_nearestKey_79 : decode cX6_nearestKey 79 = .ok (.iinc 4 1, 3) := by decide +kernel
theorem dX6_nearestKey_82 : decode cX6_nearestKey 82 = .ok (.goto (-58), 3) := by decide +kernel
theorem dX6_nearestKey_85 : decode cX6_nearestKey 85 = .ok (.iload_n 2, 1) := by decide +kernel
theorem dX6_nearestKey_86 : decode cX6_nearestKey 86 = .ok (.iconst (-1), 1) := by decide +kernel
theorem dX6_nearestKey_87 : decode cX6_nearestKey 87 = .ok (.if_icmp .ne 13, 3) := by decide +kernel
theorem dX6_nearestKey_90 : decode cX6_nearestKey 90 = .ok (.new 131, 3) := by decide +kernel
theorem dX6_nearestKey_93 : decode cX6_nearestKey 93 = .ok (.dup, 1) := by decide +kernel
theorem dX6_nearestKey_94 : decode cX6_nearestKey 94 = .ok (.ldc 209, 2) := by decide +kernel
theorem dX6_nearestKey_96 : decode cX6_nearestKey 96 = .ok (.invokespecial 135, 3) := by decide +kernel
theorem dX6_nearestKey_99 : decode cX6_nearestKey 99 = .ok (.athrow, 1) := by decide +kernel
theorem dX6_nearestKey_100 : decode cX6_nearestKey 100 = .ok (.iload_n 2, 1) := by decide +kernel
theorem dX6_nearestKey_101 : decode cX6_nearestKey 101 = .ok (.invokestatic 138, 3) := by decide +kernel
theorem dX6_nearestKey_104 : decode cX6_nearestKey 104 = .ok (.ireturn, 1) := by decide +kernel
set_option maxRecDepth 20000 in
theorem ggX6_helpfulShifts_X6_needWalker : GoodIn wsX6_helpfulShifts wsX6_needWalker := goodIn_ca (goodIn_r _ [5, 6, 7, 8, 9, 10, 11, 12, 13, 14, 91, 92, 93, 94, 95, 96, 97, 98, 99, 100, 101, 102, 103, 104, 105, 106, 107, 108, 109, 110, 111] (by decide +kernel) (by decide +kernel)) (goodIn_sub (fun _ h => List.mem_cons_of_mem _ (List.mem_append_right _ h)) (by decide +kernel))
set_option maxRecDepth 20000 in
theorem gX6_helpfulShifts_X6_needWalker : GoodIn wsX6_helpfulShifts (wsV RX6 178 RX6 yX6_needWalker wsX6_needWalker) := goodIn_app (goodIn_of _ (by decide +kernel)) ggX6_helpfulShifts_X6_needWalker
set_option maxRecDepth 20000 in
theorem ggX6_helpfulShifts_X6_needCell : GoodIn wsX6_helpfulShifts wsX6_needCell := goodIn_ca (goodIn_r _ [17, 6, 7, 18, 19, 4, 20] (by decide +kernel) (by decide +kernel)) (goodIn_sub (fun _ h => List.mem_cons_of_mem _ (List.mem_append_right _ h)) (by decide +kernel))
set_option maxRecDepth 20000 in
theorem gX6_helpfulShifts_X6_needCell : GoodIn wsX6_helpfulShifts (va_wsS RX6 114 yX6_needCell wsX6_needCell) := goodIn_app (goodIn_of _ (by decide +kernel)) ggX6_helpfulShifts_X6_needCell
set_option maxRecDepth 20000 in
theorem ggX6_helpfulShifts_X6_countHelpful : GoodIn wsX6_helpfulShifts wsX6_countHelpful := goodIn_r _ [24, 8, 25, 26, 27, 28, 29, 30, 12, 31, 32, 33, 34, 35, 36, 37, 38, 39, 40, 41, 42, 43, 44, 45, 46, 47, 48, 14, 49, 50, 51, 52, 53, 54, 55, 56, 57, 58, 59, 60, 61, 62, 63, 64, 65, 66, 67, 68, 69, 70, 71, 72, 73, 74, 75, 76, 77, 78, 79, 80, 81, 82, 83, 84, 85, 86, 87, 88, 89, 90, 91, 92, 93, 94, 95, 96, 97, 98, 99, 100, 101, 102, 112, 113, 114, 115, 116, 103, 104, 105, 106, 107, 108, 109, 110, 111] (by decide +kernel) (by decide +kernel)
set_option maxRecDepth 20000 in
theorem gX6_helpfulShifts_X6_countHelpful : GoodIn wsX6_helpfulShifts (wsV RX6 211 RX6 yX6_countHelpful wsX6_countHelpful) := goodIn_app (goodIn_of _ (by decide +kernel)) ggX6_helpfulShifts_X6_countHelpful
theorem dX6_helpfulShifts_0 : decode cX6_helpfulShifts 0 = .ok (.aload_n 0, 1) := by decide +kernel
theorem dX6_helpfulShifts_1 : decode cX6_helpfulShifts 1 = .ok (.iload_n 1, 1) := by decide +kernel
theorem dX6_helpfulShifts_2 : decode cX6_helpfulShifts 2 = .ok (.invokevirtual 178, 3) := by decide +kernel
theorem dX6_helpfulShifts_5 : decode cX6_helpfulShifts 5 = .ok (.pop, 1) := by decide +kernel
theorem dX6_helpfulShifts_6 : decode cX6_helpfulShifts 6 = .ok (.iload_n 2, 1) := by decide +kernel
theorem dX6_helpfulShifts_7 : decode cX6_helpfulShifts 7 = .ok (.iload_n 3, 1) := by decide +kernel
theorem dX6_helpfulShifts_8 : decode cX6_helpfulShifts 8 = .ok (.invokestatic 114, 3) := by decide +kernel
theorem dX6_helpfulShifts_11 : decode cX6_helpfulShifts 11 = .ok (.istore 4, 2) := by decide +kernel
theorem dX6_helpfulShifts_13 : decode cX6_helpfulShifts 13 = .ok (.iconst 0, 1) := by decide +kernel
theorem dX6_helpfulShifts_14 : decode cX6_helpfulShifts 14 = .ok (.istore 5, 2) := by decide +kernel
theorem dX6_helpfulShifts_16 : decode cX6_helpfulShifts 16 = .ok (.iconst 0, 1) := by decide +kernel
theorem dX6_helpfulShifts_17 : decode cX6_helpfulShifts 17 = .ok (.istore 6, 2) := by decide +kernel
theorem dX6_helpfulShifts_19 : decode cX6_helpfulShifts 19 = .ok (.iload 6, 2) := by decide +kernel
theorem dX6_helpfulShifts_21 : decode cX6_helpfulShifts 21 = .ok (.iconst 5, 1) := by decide +kernel
theorem dX6_helpfulShifts_22 : decode cX6_helpfulShifts 22 = .ok (.if_icmp .ge 41, 3) := by decide +kernel
theorem dX6_helpfulShifts_25 : decode cX6_helpfulShifts 25 = .ok (.iload 5, 2) := by decide +kernel
theorem dX6_helpfulShifts_27 : decode cX6_helpfulShifts 27 = .ok (.aload_n 0, 1) := by decide +kernel
theorem dX6_helpfulShifts_28 : decode cX6_helpfulShifts 28 = .ok (.iload_n 1, 1) := by decide +kernel
theorem dX6_helpfulShifts_29 : decode cX6_helpfulShifts 29 = .ok (.iload 4, 2) := by decide +kernel
theorem dX6_helpfulShifts_31 : decode cX6_helpfulShifts 31 = .ok (.iload 6, 2) := by decide +kernel
theorem dX6_helpfulShifts_33 : decode cX6_helpfulShifts 33 = .ok (.iconst 5, 1) := by decide +kernel
theorem dX6_helpfulShifts_34 : decode cX6_helpfulShifts 34 = .ok (.imul, 1) := by decide +kernel
theorem dX6_helpfulShifts_35 : decode cX6_helpfulShifts 35 = .ok (.iconst 1, 1) := by decide +kernel
theorem dX6_helpfulShifts_36 : decode cX6_helpfulShifts 36 = .ok (.invokevirtual 211, 3) := by decide +kernel
theorem dX6_helpfulShifts_39 : decode cX6_helpfulShifts 39 = .ok (.iadd, 1) := by decide +kernel
theorem dX6_helpfulShifts_40 : decode cX6_helpfulShifts 40 = .ok (.istore 5, 2) := by decide +kernel
theorem dX6_helpfulShifts_42 : decode cX6_helpfulShifts 42 = .ok (.iload 5, 2) := by decide +kernel
theorem dX6_helpfulShifts_44 : decode cX6_helpfulShifts 44 = .ok (.aload_n 0, 1) := by decide +kernel
theorem dX6_helpfulShifts_45 : decode cX6_helpfulShifts 45 = .ok (.iload_n 1, 1) := by decide +kernel
theorem dX6_helpfulShifts_46 : decode cX6_helpfulShifts 46 = .ok (.iload 4, 2) := by decide +kernel
theorem dX6_helpfulShifts_48 : decode cX6_helpfulShifts 48 = .ok (.iload 6, 2) := by decide +kernel
theorem dX6_helpfulShifts_50 : decode cX6_helpfulShifts 50 = .ok (.iconst 5, 1) := by decide +kernel
theorem dX6_helpfulShifts_51 : decode cX6_helpfulShifts 51 = .ok (.invokevirtual 211, 3) := by decide +kernel
theorem dX6_helpfulShifts_54 : decode cX6_helpfulShifts 54 = .ok (.iadd, 1) := by decide +kernel
theorem dX6_helpfulShifts_55 : decode cX6_helpfulShifts 55 = .ok (.istore 5, 2) := by decide +kernel
theorem dX6_helpfulShifts_57 : decode cX6_helpfulShifts 57 = .ok (.iinc 6 1, 3) := by decide +kernel
theorem dX6_helpfulShifts_60 : decode cX6_helpfulShifts 60 = .ok (.goto (-41), 3) := by decide +kernel
theorem dX6_helpfulShifts_63 : decode cX6_helpfulShifts 63 = .ok (.iload 5, 2) := by decide +kernel
theorem dX6_helpfulShifts_65 : decode cX6_helpfulShifts 65 = .ok (.ireturn, 1) := by decide +kernel
theorem dX6_shiftCount_0 : decode cX6_shiftCount 0 = .ok (.aload_n 0, 1) := by decide +kernel
theorem dX6_shiftCount_1 : decode cX6_shiftCount 1 = .ok (.getfield 12, 3) := by decide +kernel
theorem dX6_shiftCount_4 : decode cX6_shiftCount 4 = .ok (.getfield 215, 3) := by decide +kernel
theorem dX6_shiftCount_7 : decode cX6_shiftCount 7 = .ok (.ireturn, 1) := by decide +kernel
theorem dX6_walkedTotal_0 : decode cX6_walkedTotal 0 = .ok (.aload_n 0, 1) := by decide +kernel
theorem dX6_walkedTotal_1 : decode cX6_walkedTotal 1 = .ok (.getfield 12, 3) := by decide +kernel
theorem dX6_walkedTotal_4 : decode cX6_walkedTotal 4 = .ok (.getfield 218, 3) := by decide +kernel
theorem dX6_walkedTotal_7 : decode cX6_walkedTotal 7 = .ok (.lreturn, 1) := by decide +kernel
set_option maxRecDepth 20000 in
theorem ggX6_meanOpenings_J6_bitCount_0f7a4 : GoodIn wsX6_meanOpenings wsJ6_bitCount_0f7a4 := goodIn_r _ [7, 8, 9, 10] (by decide +kernel) (by decide +kernel)
set_option maxRecDepth 20000 in
theorem gX6_meanOpenings_J6_bitCount_0f7a4 : GoodIn wsX6_meanOpenings (va_wsS RX6 222 yJ6_bitCount_0f7a4 wsJ6_bitCount_0f7a4) := goodIn_app (goodIn_of _ (by decide +kernel)) ggX6_meanOpenings_J6_bitCount_0f7a4
theorem dX6_meanOpenings_0 : decode cX6_meanOpenings 0 = .ok (.iconst 0, 1) := by decide +kernel
theorem dX6_meanOpenings_1 : decode cX6_meanOpenings 1 = .ok (.istore_n 1, 1) := by decide +kernel
theorem dX6_meanOpenings_2 : decode cX6_meanOpenings 2 = .ok (.iconst 0, 1) := by decide +kernel
theorem dX6_meanOpenings_3 : decode cX6_meanOpenings 3 = .ok (.istore_n 2, 1) := by decide +kernel
theorem dX6_meanOpenings_4 : decode cX6_meanOpenings 4 = .ok (.iload_n 2, 1) := by decide +kernel
theorem dX6_meanOpenings_5 : decode cX6_meanOpenings 5 = .ok (.bipush 25, 2) := by decide +kernel
theorem dX6_meanOpenings_7 : decode cX6_meanOpenings 7 = .ok (.if_icmp .ge 24, 3) := by decide +kernel
theorem dX6_meanOpenings_10 : decode cX6_meanOpenings 10 = .ok (.iload_n 1, 1) := by decide +kernel
theorem dX6_meanOpenings_11 : decode cX6_meanOpenings 11 = .ok (.aload_n 0, 1) := by decide +kernel
theorem dX6_meanOpenings_12 : decode cX6_meanOpenings 12 = .ok (.getfield 12, 3) := by decide +kernel
theorem dX6_meanOpenings_15 : decode cX6_meanOpenings 15 = .ok (.getfield 110, 3) := by decide +kernel
theorem dX6_meanOpenings_18 : decode cX6_meanOpenings 18 = .ok (.iload_n 2, 1) := by decide +kernel
theorem dX6_meanOpenings_19 : decode cX6_meanOpenings 19 = .ok (.iaload, 1) := by decide +kernel
theorem dX6_meanOpenings_20 : decode cX6_meanOpenings 20 = .ok (.invokestatic 222, 3) := by decide +kernel
theorem dX6_meanOpenings_23 : decode cX6_meanOpenings 23 = .ok (.iadd, 1) := by decide +kernel
theorem dX6_meanOpenings_24 : decode cX6_meanOpenings 24 = .ok (.istore_n 1, 1) := by decide +kernel
theorem dX6_meanOpenings_25 : decode cX6_meanOpenings 25 = .ok (.iinc 2 1, 3) := by decide +kernel
theorem dX6_meanOpenings_28 : decode cX6_meanOpenings 28 = .ok (.goto (-24), 3) := by decide +kernel
theorem dX6_meanOpenings_31 : decode cX6_meanOpenings 31 = .ok (.iload_n 1, 1) := by decide +kernel
theorem dX6_meanOpenings_32 : decode cX6_meanOpenings 32 = .ok (.i2d, 1) := by decide +kernel
theorem dX6_meanOpenings_33 : decode cX6_meanOpenings 33 = .ok (.ldc2_w 227, 3) := by decide +kernel
theorem dX6_meanOpenings_36 : decode cX6_meanOpenings 36 = .ok (.ddiv, 1) := by decide +kernel
theorem dX6_meanOpenings_37 : decode cX6_meanOpenings 37 = .ok (.dreturn, 1) := by decide +kernel
set_option maxRecDepth 20000 in
theorem ggX6_reachableShare_X6_needWalker : GoodIn wsX6_reachableShare wsX6_needWalker := goodIn_ca (goodIn_r _ [8, 9, 10, 2, 11, 12, 13, 14, 15, 16, 48, 49, 50, 51, 52, 53, 54, 55, 56, 57, 58, 59, 60, 61, 62, 63, 64, 65, 66, 67, 68] (by decide +kernel) (by decide +kernel)) (goodIn_sub (fun _ h => List.mem_cons_of_mem _ (List.mem_append_right _ h)) (by decide +kernel))
set_option maxRecDepth 20000 in
theorem gX6_reachableShare_X6_needWalker : GoodIn wsX6_reachableShare (wsV RX6 178 RX6 yX6_needWalker wsX6_needWalker) := goodIn_app (goodIn_of _ (by decide +kernel)) ggX6_reachableShare_X6_needWalker
set_option maxRecDepth 20000 in
theorem ggX6_reachableShare_X5_findPaths : GoodIn wsX6_reachableShare wsX5_findPaths := goodIn_r _ [21, 22, 23, 24, 25, 26, 27, 28, 29, 30, 31, 32, 14, 33, 34, 35, 36, 37, 38, 39, 40, 41, 42, 43, 60, 61, 62, 63, 64, 65, 66, 67, 68, 69, 70, 71, 72, 73] (by decide +kernel) (by decide +kernel)
set_option maxRecDepth 20000 in
theorem gX6_reachableShare_X5_findPaths : GoodIn wsX6_reachableShare (wsV RX6 181 RX5 yX5_findPaths wsX5_findPaths) := goodIn_app (goodIn_of _ (by decide +kernel)) ggX6_reachableShare_X5_findPaths
set_option maxRecDepth 20000 in
theorem ggX6_reachableShare_X5_countReached : GoodIn wsX6_reachableShare wsX5_countReached := goodIn_r _ [47, 23, 69, 70, 71, 72, 73] (by decide +kernel) (by decide +kernel)
set_option maxRecDepth 20000 in
theorem gX6_reachableShare_X5_countReached : GoodIn wsX6_reachableShare (wsV RX6 202 RX5 yX5_countReached wsX5_countReached) := goodIn_app (goodIn_of _ (by decide +kernel)) ggX6_reachableShare_X5_countReached
theorem dX6_reachableShare_0 : decode cX6_reachableShare 0 = .ok (.aload_n 0, 1) := by decide +kernel
theorem dX6_reachableShare_1 : decode cX6_reachableShare 1 = .ok (.getfield 39, 3) := by decide +kernel
theorem dX6_reachableShare_4 : decode cX6_reachableShare 4 = .ok (.aload_n 0, 1) := by decide +kernel
theorem dX6_reachableShare_5 : decode cX6_reachableShare 5 = .ok (.getfield 12, 3) := by decide +kernel
theorem dX6_reachableShare_8 : decode cX6_reachableShare 8 = .ok (.aload_n 0, 1) := by decide +kernel
theorem dX6_reachableShare_9 : decode cX6_reachableShare 9 = .ok (.iload_n 1, 1) := by decide +kernel
theorem dX6_reachableShare_10 : decode cX6_reachableShare 10 = .ok (.invokevirtual 178, 3) := by decide +kernel
theorem dX6_reachableShare_13 : decode cX6_reachableShare 13 = .ok (.invokevirtual 181, 3) := by decide +kernel
theorem dX6_reachableShare_16 : decode cX6_reachableShare 16 = .ok (.aload_n 0, 1) := by decide +kernel
theorem dX6_reachableShare_17 : decode cX6_reachableShare 17 = .ok (.getfield 39, 3) := by decide +kernel
theorem dX6_reachableShare_20 : decode cX6_reachableShare 20 = .ok (.invokevirtual 202, 3) := by decide +kernel
theorem dX6_reachableShare_23 : decode cX6_reachableShare 23 = .ok (.i2f, 1) := by decide +kernel
theorem dX6_reachableShare_24 : decode cX6_reachableShare 24 = .ok (.ldc 229, 2) := by decide +kernel
theorem dX6_reachableShare_26 : decode cX6_reachableShare 26 = .ok (.fdiv, 1) := by decide +kernel
theorem dX6_reachableShare_27 : decode cX6_reachableShare 27 = .ok (.freturn, 1) := by decide +kernel
set_option maxRecDepth 20000 in
theorem ggX6_isConsistent_X5_lengthsAgree : GoodIn wsX6_isConsistent wsX5_lengthsAgree := goodIn_r _ [8, 9, 10, 11, 12, 13, 7, 14, 15, 16, 17, 18, 19, 20, 21, 22, 23, 24, 25, 26, 27, 28, 29, 30, 31, 32, 33, 34, 35, 36, 37, 38, 39, 40, 41, 42, 43, 44, 95, 96, 97, 98, 99, 86, 87, 88, 89, 90, 91, 92, 93, 94] (by decide +kernel) (by decide +kernel)
set_option maxRecDepth 20000 in
theorem gX6_isConsistent_X5_lengthsAgree : GoodIn wsX6_isConsistent (wsV RX6 230 RX5 yX5_lengthsAgree wsX5_lengthsAgree) := goodIn_app (goodIn_of _ (by decide +kernel)) ggX6_isConsistent_X5_lengthsAgree
set_option maxRecDepth 20000 in
theorem ggX6_isConsistent_X1_keyPlacesExist : GoodIn wsX6_isConsistent wsX1_keyPlacesExist := goodIn_r _ [48, 36, 49, 50, 51, 52, 53, 54, 25, 55, 56, 86, 87, 88, 89, 90, 91, 92, 93, 94] (by decide +kernel) (by decide +kernel)
set_option maxRecDepth 20000 in
theorem gX6_isConsistent_X1_keyPlacesExist : GoodIn wsX6_isConsistent (wsV RX6 234 RX1 yX1_keyPlacesExist wsX1_keyPlacesExist) := goodIn_app (goodIn_of _ (by decide +kernel)) ggX6_isConsistent_X1_keyPlacesExist
set_option maxRecDepth 20000 in
theorem ggX6_isConsistent_X5_countGroups : GoodIn wsX6_isConsistent wsX5_countGroups := goodIn_r _ [60, 61, 18, 19, 20, 21, 62, 63, 64, 7, 65, 16, 22, 23, 24, 25, 26, 27, 28, 29, 30, 95, 96, 97, 98, 99, 86, 87, 88, 89, 90, 91, 92, 93, 94] (by decide +kernel) (by decide +kernel)
set_option maxRecDepth 20000 in
theorem gX6_isConsistent_X5_countGroups : GoodIn wsX6_isConsistent (wsV RX6 153 RX5 yX5_countGroups wsX5_countGroups) := goodIn_app (goodIn_of _ (by decide +kernel)) ggX6_isConsistent_X5_countGroups
set_option maxRecDepth 20000 in
theorem ggX6_isConsistent_X5_countGroupsByMerging : GoodIn wsX6_isConsistent wsX5_countGroupsByMerging := goodIn_r _ [69, 61, 22, 23, 24, 25, 26, 27, 28, 29, 30, 70, 71, 72, 7, 73, 95, 96, 97, 98, 99, 86, 87, 88, 89, 90, 91, 92, 93, 94] (by decide +kernel) (by decide +kernel)
set_option maxRecDepth 20000 in
theorem gX6_isConsistent_X5_countGroupsByMerging : GoodIn wsX6_isConsistent (wsV RX6 157 RX5 yX5_countGroupsByMerging wsX5_countGroupsByMerging) := goodIn_app (goodIn_of _ (by decide +kernel)) ggX6_isConsistent_X5_countGroupsByMerging
theorem dX6_isConsistent_0 : decode cX6_isConsistent 0 = .ok (.iconst 0, 1) := by decide +kernel
theorem dX6_isConsistent_1 : decode cX6_isConsistent 1 = .ok (.istore_n 1, 1) := by decide +kernel
theorem dX6_isConsistent_2 : decode cX6_isConsistent 2 = .ok (.iload_n 1, 1) := by decide +kernel
theorem dX6_isConsistent_3 : decode cX6_isConsistent 3 = .ok (.aload_n 0, 1) := by decide +kernel
theorem dX6_isConsistent_4 : decode cX6_isConsistent 4 = .ok (.getfield 12, 3) := by decide +kernel
theorem dX6_isConsistent_7 : decode cX6_isConsistent 7 = .ok (.getfield 172, 3) := by decide +kernel
theorem dX6_isConsistent_10 : decode cX6_isConsistent 10 = .ok (.if_icmp .ge 26, 3) := by decide +kernel
theorem dX6_isConsistent_13 : decode cX6_isConsistent 13 = .ok (.aload_n 0, 1) := by decide +kernel
theorem dX6_isConsistent_14 : decode cX6_isConsistent 14 = .ok (.getfield 39, 3) := by decide +kernel
theorem dX6_isConsistent_17 : decode cX6_isConsistent 17 = .ok (.aload_n 0, 1) := by decide +kernel
theorem dX6_isConsistent_18 : decode cX6_isConsistent 18 = .ok (.getfield 12, 3) := by decide +kernel
theorem dX6_isConsistent_21 : decode cX6_isConsistent 21 = .ok (.iload_n 1, 1) := by decide +kernel
theorem dX6_isConsistent_22 : decode cX6_isConsistent 22 = .ok (.invokevirtual 230, 3) := by decide +kernel
theorem dX6_isConsistent_25 : decode cX6_isConsistent 25 = .ok (.ifCond .ne 5, 3) := by decide +kernel
theorem dX6_isConsistent_28 : decode cX6_isConsistent 28 = .ok (.iconst 0, 1) := by decide +kernel
theorem dX6_isConsistent_29 : decode cX6_isConsistent 29 = .ok (.ireturn, 1) := by decide +kernel
theorem dX6_isConsistent_30 : decode cX6_isConsistent 30 = .ok (.iinc 1 1, 3) := by decide +kernel
theorem dX6_isConsistent_33 : decode cX6_isConsistent 33 = .ok (.goto (-31), 3) := by decide +kernel
theorem dX6_isConsistent_36 : decode cX6_isConsistent 36 = .ok (.aload_n 0, 1) := by decide +kernel
theorem dX6_isConsistent_37 : decode cX6_isConsistent 37 = .ok (.getfield 12, 3) := by decide +kernel
theorem dX6_isConsistent_40 : decode cX6_isConsistent 40 = .ok (.invokevirtual 234, 3) := by decide +kernel
theorem dX6_isConsistent_43 : decode cX6_isConsistent 43 = .ok (.ifCond .eq 32, 3) := by decide +kernel
theorem dX6_isConsistent_46 : decode cX6_isConsistent 46 = .ok (.aload_n 0, 1) := by decide +kernel
theorem dX6_isConsistent_47 : decode cX6_isConsistent 47 = .ok (.getfield 39, 3) := by decide +kernel
theorem dX6_isConsistent_50 : decode cX6_isConsistent 50 = .ok (.aload_n 0, 1) := by decide +kernel
theorem dX6_isConsistent_51 : decode cX6_isConsistent 51 = .ok (.getfield 12, 3) := by decide +kernel
theorem dX6_isConsistent_54 : decode cX6_isConsistent 54 = .ok (.invokevirtual 153, 3) := by decide +kernel
theorem dX6_isConsistent_57 : decode cX6_isConsistent 57 = .ok (.aload_n 0, 1) := by decide +kernel
theorem dX6_isConsistent_58 : decode cX6_isConsistent 58 = .ok (.getfield 39, 3) := by decide +kernel
theorem dX6_isConsistent_61 : decode cX6_isConsistent 61 = .ok (.aload_n 0, 1) := by decide +kernel
theorem dX6_isConsistent_62 : decode cX6_isConsistent 62 = .ok (.getfield 12, 3) := by decide +kernel
theorem dX6_isConsistent_65 : decode cX6_isConsistent 65 = .ok (.invokevirtual 157, 3) := by decide +kernel
theorem dX6_isConsistent_68 : decode cX6_isConsistent 68 = .ok (.if_icmp .ne 7, 3) := by decide +kernel
theorem dX6_isConsistent_71 : decode cX6_isConsistent 71 = .ok (.iconst 1, 1) := by decide +kernel
theorem dX6_isConsistent_72 : decode cX6_isConsistent 72 = .ok (.goto 4, 3) := by decide +kernel
theorem dX6_isConsistent_75 : decode cX6_isConsistent 75 = .ok (.iconst 0, 1) := by decide +kernel
theorem dX6_isConsistent_76 : decode cX6_isConsistent 76 = .ok (.ireturn, 1) := by decide +kernel
set_option maxRecDepth 20000 in
theorem ggX6_append_X4_add : GoodIn wsX6_append wsX4_add := goodIn_r _ [9, 10, 11, 24, 25, 26, 27, 28] (by decide +kernel) (by decide +kernel)
set_option maxRecDepth 20000 in
theorem gX6_append_X4_add : GoodIn wsX6_append (wsV RX6 238 RX4 yX4_add wsX4_add) := goodIn_app (goodIn_of _ (by decide +kernel)) ggX6_append_X4_add
theorem dX6_append_0 : decode cX6_append 0 = .ok (.aload_n 0, 1) := by decide +kernel
theorem dX6_append_1 : decode cX6_append 1 = .ok (.getfield 46, 3) := by decide +kernel
theorem dX6_append_4 : decode cX6_append 4 = .ok (.iload_n 1, 1) := by decide +kernel
theorem dX6_append_5 : decode cX6_append 5 = .ok (.invokevirtual 238, 3) := by decide +kernel
theorem dX6_append_8 : decode cX6_append 8 = .ok (.ifCond .ne 13, 3) := by decide +kernel
theorem dX6_append_11 : decode cX6_append 11 = .ok (.new 242, 3) := by decide +kernel
theorem dX6_append_14 : decode cX6_append 14 = .ok (.dup, 1) := by decide +kernel
theorem dX6_append_15 : decode cX6_append 15 = .ok (.ldc 244, 2) := by decide +kernel
theorem dX6_append_17 : decode cX6_append 17 = .ok (.invokespecial 246, 3) := by decide +kernel
theorem dX6_append_20 : decode cX6_append 20 = .ok (.athrow, 1) := by decide +kernel
theorem dX6_append_21 : decode cX6_append 21 = .ok (.aload_n 0, 1) := by decide +kernel
theorem dX6_append_22 : decode cX6_append 22 = .ok (.getfield 46, 3) := by decide +kernel
theorem dX6_append_25 : decode cX6_append 25 = .ok (.getfield 247, 3) := by decide +kernel
theorem dX6_append_28 : decode cX6_append 28 = .ok (.ireturn, 1) := by decide +kernel
set_option maxRecDepth 20000 in
theorem ggX6_run_X4_findError : GoodIn wsX6_run wsX4_findError := goodIn_r _ [16, 17, 18, 19, 20, 21, 22, 15, 23, 24, 25, 26, 27, 28, 29, 30, 31, 32, 33, 34, 35, 36, 37, 38, 39, 40, 41, 42, 43, 44, 45, 46, 47, 48, 49, 50, 51, 52, 53, 54, 55, 56, 57, 58, 59, 60, 61, 62, 63, 64, 65, 66, 67, 68, 69, 70, 71, 72, 73, 74, 75, 76, 77, 78, 79, 80, 81, 82, 83, 84, 85, 86, 87, 88, 89, 90, 91, 92, 93, 94, 95, 289, 290, 291, 292, 293] (by decide +kernel) (by decide +kernel)
set_option maxRecDepth 20000 in
theorem gX6_run_X4_findError : GoodIn wsX6_run (wsV RX6 250 RX4 yX4_findError wsX4_findError) := goodIn_app (goodIn_of _ (by decide +kernel)) ggX6_run_X4_findError
set_option maxRecDepth 20000 in
theorem ggX6_run_X4_clear : GoodIn wsX6_run wsX4_clear := goodIn_r _ [99, 18, 289, 290, 291, 292, 293] (by decide +kernel) (by decide +kernel)
set_option maxRecDepth 20000 in
theorem gX6_run_X4_clear : GoodIn wsX6_run (wsV RX6 253 RX4 yX4_clear wsX4_clear) := goodIn_app (goodIn_of _ (by decide +kernel)) ggX6_run_X4_clear
set_option maxRecDepth 20000 in
theorem ggX6_run_X1_copyFrom : GoodIn wsX6_run wsX1_copyFrom := goodIn_r _ [104, 105, 106, 107, 108, 109, 110, 111, 112, 113, 114, 115, 116, 294, 295, 296, 297, 298, 299, 300, 301, 302] (by decide +kernel) (by decide +kernel)
set_option maxRecDepth 20000 in
theorem gX6_run_X1_copyFrom : GoodIn wsX6_run (wsV RX6 64 RX1 yX1_copyFrom wsX1_copyFrom) := goodIn_app (goodIn_of _ (by decide +kernel)) ggX6_run_X1_copyFrom
set_option maxRecDepth 20000 in
theorem ggX6_run_X6_findFailure : GoodIn wsX6_run wsX6_findFailure := goodIn_r _ [120, 5, 11, 121, 122, 123, 21, 22, 15, 23, 24, 25, 26, 27, 28, 29, 30, 31, 32, 33, 18, 19, 34, 35, 36, 37, 38, 39, 40, 41, 42, 43, 44, 45, 46, 47, 48, 49, 50, 51, 52, 53, 54, 55, 56, 57, 58, 59, 60, 61, 62, 63, 64, 65, 66, 67, 68, 69, 70, 71, 72, 73, 74, 75, 76, 77, 78, 79, 80, 81, 82, 83, 84, 85, 86, 87, 88, 89, 90, 91, 92, 93, 94, 95, 124, 125, 126, 127, 128, 8, 129, 130, 131, 132, 133, 134, 135, 136, 137, 138, 139, 103, 140, 105, 141, 142, 143, 144, 145, 146, 147, 148, 149, 150, 113, 151, 152, 153, 154, 155, 156, 157, 158, 159, 160, 161, 162, 163, 164, 165, 166, 167, 168, 169, 170, 171, 172, 173, 115, 174, 175, 176, 177, 178, 179, 180, 181, 110, 111, 114, 112, 182, 183, 184, 185, 186, 187, 188, 189, 190, 191, 192, 193, 194, 195, 196, 197, 198, 199, 200, 201, 202, 203, 204, 205, 206, 207, 208, 209, 210, 211, 212, 213, 214, 215, 216, 217, 218, 219, 220, 221, 222, 223, 224, 225, 226, 227, 228, 229, 230, 231, 232, 233, 234, 235, 236, 116, 237, 238, 239, 240, 241, 242, 243, 244, 245, 246, 247, 248, 249, 250, 251, 252, 253, 254, 255, 256, 257, 258, 259, 260, 261, 262, 263, 264, 277, 278, 279, 280, 281, 282, 283, 284, 285, 286, 287, 288, 289, 290, 291, 292, 293, 294, 295, 296, 297, 298, 299, 300, 301, 302, 303, 304, 305, 306, 307] (by decide +kernel) (by decide +kernel)
set_option maxRecDepth 20000 in
theorem gX6_run_X6_findFailure : GoodIn wsX6_run (wsV RX6 258 RX6 yX6_findFailure wsX6_findFailure) := goodIn_app (goodIn_of _ (by decide +kernel)) ggX6_run_X6_findFailure
set_option maxRecDepth 20000 in
theorem ggX6_run_X3_add : GoodIn wsX6_run wsX3_add := goodIn_r _ [269, 270, 271, 272, 273, 274, 28, 275, 276, 101, 102, 103, 104, 105, 106, 107, 108, 109, 110, 111, 112, 113, 114, 115, 116, 308, 309, 310, 294, 295, 296, 297, 298, 299, 300, 301, 302] (by decide +kernel) (by decide +kernel)
set_option maxRecDepth 20000 in
theorem gX6_run_X3_add : GoodIn wsX6_run (wsV RX6 266 RX3 yX3_add wsX3_add) := goodIn_app (goodIn_of _ (by decide +kernel)) ggX6_run_X3_add
theorem dX6_run_0 : decode cX6_run 0 = .ok (.aload_n 0, 1) := by decide +kernel
theorem dX6_run_1 : decode cX6_run 1 = .ok (.getfield 46, 3) := by decide +kernel
theorem dX6_run_4 : decode cX6_run 4 = .ok (.invokevirtual 250, 3) := by decide +kernel
theorem dX6_run_7 : decode cX6_run 7 = .ok (.istore_n 1, 1) := by decide +kernel
theorem dX6_run_8 : decode cX6_run 8 = .ok (.iload_n 1, 1) := by decide +kernel
theorem dX6_run_9 : decode cX6_run 9 = .ok (.iconst (-1), 1) := by decide +kernel
theorem dX6_run_10 : decode cX6_run 10 = .ok (.if_icmp .eq 26, 3) := by decide +kernel
theorem dX6_run_13 : decode cX6_run 13 = .ok (.aload_n 0, 1) := by decide +kernel
theorem dX6_run_14 : decode cX6_run 14 = .ok (.getfield 46, 3) := by decide +kernel
theorem dX6_run_17 : decode cX6_run 17 = .ok (.invokevirtual 253, 3) := by decide +kernel
theorem dX6_run_20 : decode cX6_run 20 = .ok (.aload_n 0, 1) := by decide +kernel
theorem dX6_run_21 : decode cX6_run 21 = .ok (.iload_n 1, 1) := by decide +kernel
theorem dX6_run_22 : decode cX6_run 22 = .ok (.putfield 50, 3) := by decide +kernel
theorem dX6_run_25 : decode cX6_run 25 = .ok (.new 145, 3) := by decide +kernel
theorem dX6_run_28 : decode cX6_run 28 = .ok (.dup, 1) := by decide +kernel
theorem dX6_run_29 : decode cX6_run 29 = .ok (.ldc_w 256, 3) := by decide +kernel
theorem dX6_run_32 : decode cX6_run 32 = .ok (.invokespecial 149, 3) := by decide +kernel
theorem dX6_run_35 : decode cX6_run 35 = .ok (.athrow, 1) := by decide +kernel
theorem dX6_run_36 : decode cX6_run 36 = .ok (.aload_n 0, 1) := by decide +kernel
theorem dX6_run_37 : decode cX6_run 37 = .ok (.getfield 16, 3) := by decide +kernel
theorem dX6_run_40 : decode cX6_run 40 = .ok (.aload_n 0, 1) := by decide +kernel
theorem dX6_run_41 : decode cX6_run 41 = .ok (.getfield 12, 3) := by decide +kernel
theorem dX6_run_44 : decode cX6_run 44 = .ok (.invokevirtual 64, 3) := by decide +kernel
theorem dX6_run_47 : decode cX6_run 47 = .ok (.aload_n 0, 1) := by decide +kernel
theorem dX6_run_48 : decode cX6_run 48 = .ok (.invokevirtual 258, 3) := by decide +kernel
theorem dX6_run_51 : decode cX6_run 51 = .ok (.istore_n 2, 1) := by decide +kernel
theorem dX6_run_52 : decode cX6_run 52 = .ok (.aload_n 0, 1) := by decide +kernel
theorem dX6_run_53 : decode cX6_run 53 = .ok (.getfield 46, 3) := by decide +kernel
theorem dX6_run_56 : decode cX6_run 56 = .ok (.invokevirtual 253, 3) := by decide +kernel
theorem dX6_run_59 : decode cX6_run 59 = .ok (.iload_n 2, 1) := by decide +kernel
theorem dX6_run_60 : decode cX6_run 60 = .ok (.iconst (-1), 1) := by decide +kernel
theorem dX6_run_61 : decode cX6_run 61 = .ok (.if_icmp .eq 30, 3) := by decide +kernel
theorem dX6_run_64 : decode cX6_run 64 = .ok (.aload_n 0, 1) := by decide +kernel
theorem dX6_run_65 : decode cX6_run 65 = .ok (.getfield 12, 3) := by decide +kernel
theorem dX6_run_68 : decode cX6_run 68 = .ok (.aload_n 0, 1) := by decide +kernel
theorem dX6_run_69 : decode cX6_run 69 = .ok (.getfield 16, 3) := by decide +kernel
theorem dX6_run_72 : decode cX6_run 72 = .ok (.invokevirtual 64, 3) := by decide +kernel
theorem dX6_run_75 : decode cX6_run 75 = .ok (.aload_n 0, 1) := by decide +kernel
theorem dX6_run_76 : decode cX6_run 76 = .ok (.iload_n 2, 1) := by decide +kernel
theorem dX6_run_77 : decode cX6_run 77 = .ok (.putfield 54, 3) := by decide +kernel
theorem dX6_run_80 : decode cX6_run 80 = .ok (.new 261, 3) := by decide +kernel
theorem dX6_run_83 : decode cX6_run 83 = .ok (.dup, 1) := by decide +kernel
theorem dX6_run_84 : decode cX6_run 84 = .ok (.ldc_w 263, 3) := by decide +kernel
theorem dX6_run_87 : decode cX6_run 87 = .ok (.invokespecial 265, 3) := by decide +kernel
theorem dX6_run_90 : decode cX6_run 90 = .ok (.athrow, 1) := by decide +kernel
theorem dX6_run_91 : decode cX6_run 91 = .ok (.aload_n 0, 1) := by decide +kernel
theorem dX6_run_92 : decode cX6_run 92 = .ok (.getfield 32, 3) := by decide +kernel
theorem dX6_run_95 : decode cX6_run 95 = .ok (.aload_n 0, 1) := by decide +kernel
theorem dX6_run_96 : decode cX6_run 96 = .ok (.getfield 16, 3) := by decide +kernel
theorem dX6_run_99 : decode cX6_run 99 = .ok (.invokevirtual 266, 3) := by decide +kernel
theorem dX6_run_102 : decode cX6_run 102 = .ok (.aload_n 0, 1) := by decide +kernel
theorem dX6_run_103 : decode cX6_run 103 = .ok (.getfield 46, 3) := by decide +kernel
theorem dX6_run_106 : decode cX6_run 106 = .ok (.getfield 268, 3) := by decide +kernel
theorem dX6_run_109 : decode cX6_run 109 = .ok (.ireturn, 1) := by decide +kernel
theorem dX6_errorPosition_0 : decode cX6_errorPosition 0 = .ok (.aload_n 0, 1) := by decide +kernel
theorem dX6_errorPosition_1 : decode cX6_errorPosition 1 = .ok (.getfield 50, 3) := by decide +kernel
theorem dX6_errorPosition_4 : decode cX6_errorPosition 4 = .ok (.iconst (-1), 1) := by decide +kernel
theorem dX6_errorPosition_5 : decode cX6_errorPosition 5 = .ok (.if_icmp .ne 14, 3) := by decide +kernel
theorem dX6_errorPosition_8 : decode cX6_errorPosition 8 = .ok (.new 131, 3) := by decide +kernel
theorem dX6_errorPosition_11 : decode cX6_errorPosition 11 = .ok (.dup, 1) := by decide +kernel
theorem dX6_errorPosition_12 : decode cX6_errorPosition 12 = .ok (.ldc_w 271, 3) := by decide +kernel
theorem dX6_errorPosition_15 : decode cX6_errorPosition 15 = .ok (.invokespecial 135, 3) := by decide +kernel
theorem dX6_errorPosition_18 : decode cX6_errorPosition 18 = .ok (.athrow, 1) := by decide +kernel
theorem dX6_errorPosition_19 : decode cX6_errorPosition 19 = .ok (.aload_n 0, 1) := by decide +kernel
theorem dX6_errorPosition_20 : decode cX6_errorPosition 20 = .ok (.getfield 50, 3) := by decide +kernel
theorem dX6_errorPosition_23 : decode cX6_errorPosition 23 = .ok (.ireturn, 1) := by decide +kernel
theorem dX6_failedCommand_0 : decode cX6_failedCommand 0 = .ok (.aload_n 0, 1) := by decide +kernel
theorem dX6_failedCommand_1 : decode cX6_failedCommand 1 = .ok (.getfield 54, 3) := by decide +kernel
theorem dX6_failedCommand_4 : decode cX6_failedCommand 4 = .ok (.iconst (-1), 1) := by decide +kernel
theorem dX6_failedCommand_5 : decode cX6_failedCommand 5 = .ok (.if_icmp .ne 14, 3) := by decide +kernel
theorem dX6_failedCommand_8 : decode cX6_failedCommand 8 = .ok (.new 131, 3) := by decide +kernel
theorem dX6_failedCommand_11 : decode cX6_failedCommand 11 = .ok (.dup, 1) := by decide +kernel
theorem dX6_failedCommand_12 : decode cX6_failedCommand 12 = .ok (.ldc_w 273, 3) := by decide +kernel
theorem dX6_failedCommand_15 : decode cX6_failedCommand 15 = .ok (.invokespecial 135, 3) := by decide +kernel
theorem dX6_failedCommand_18 : decode cX6_failedCommand 18 = .ok (.athrow, 1) := by decide +kernel
theorem dX6_failedCommand_19 : decode cX6_failedCommand 19 = .ok (.aload_n 0, 1) := by decide +kernel
theorem dX6_failedCommand_20 : decode cX6_failedCommand 20 = .ok (.getfield 54, 3) := by decide +kernel
theorem dX6_failedCommand_23 : decode cX6_failedCommand 23 = .ok (.ireturn, 1) := by decide +kernel
set_option maxRecDepth 20000 in
theorem ggX6_writeRow_X6_needLine : GoodIn wsX6_writeRow wsX6_needLine := goodIn_ca (goodIn_r _ [5, 6, 7, 8, 9, 4, 10] (by decide +kernel) (by decide +kernel)) (goodIn_sub (fun _ h => List.mem_cons_of_mem _ (List.mem_append_right _ h)) (by decide +kernel))
set_option maxRecDepth 20000 in
theorem gX6_writeRow_X6_needLine : GoodIn wsX6_writeRow (va_wsS RX6 121 yX6_needLine wsX6_needLine) := goodIn_app (goodIn_of _ (by decide +kernel)) ggX6_writeRow_X6_needLine
set_option maxRecDepth 20000 in
theorem ggX6_writeRow_X6_write : GoodIn wsX6_writeRow wsX6_write := goodIn_r _ [14, 1, 15, 39, 40, 41, 42, 43, 44, 45, 46, 47, 48, 49, 50] (by decide +kernel) (by decide +kernel)
set_option maxRecDepth 20000 in
theorem gX6_writeRow_X6_write : GoodIn wsX6_writeRow (wsV RX6 275 RX6 yX6_write wsX6_write) := goodIn_app (goodIn_of _ (by decide +kernel)) ggX6_writeRow_X6_write
set_option maxRecDepth 20000 in
theorem ggX6_writeRow_X6_writeTile : GoodIn wsX6_writeRow wsX6_writeTile := goodIn_r _ [19, 20, 21, 22, 23, 11, 12, 13, 4, 14, 1, 15, 24, 25, 26, 27, 28, 29, 30, 31, 32, 33, 34, 35, 36, 37, 38, 39, 40, 41, 42, 43, 44, 45, 46, 47, 48, 49, 50, 51, 52, 53, 54, 55, 56, 57, 58, 59] (by decide +kernel) (by decide +kernel)
set_option maxRecDepth 20000 in
theorem gX6_writeRow_X6_writeTile : GoodIn wsX6_writeRow (wsV RX6 279 RX6 yX6_writeTile wsX6_writeTile) := goodIn_app (goodIn_of _ (by decide +kernel)) ggX6_writeRow_X6_writeTile
theorem dX6_writeRow_0 : decode cX6_writeRow 0 = .ok (.iload_n 1, 1) := by decide +kernel
theorem dX6_writeRow_1 : decode cX6_writeRow 1 = .ok (.invokestatic 121, 3) := by decide +kernel
theorem dX6_writeRow_4 : decode cX6_writeRow 4 = .ok (.iconst 5, 1) := by decide +kernel
theorem dX6_writeRow_5 : decode cX6_writeRow 5 = .ok (.imul, 1) := by decide +kernel
theorem dX6_writeRow_6 : decode cX6_writeRow 6 = .ok (.istore_n 2, 1) := by decide +kernel
theorem dX6_writeRow_7 : decode cX6_writeRow 7 = .ok (.aload_n 0, 1) := by decide +kernel
theorem dX6_writeRow_8 : decode cX6_writeRow 8 = .ok (.iconst 0, 1) := by decide +kernel
theorem dX6_writeRow_9 : decode cX6_writeRow 9 = .ok (.putfield 61, 3) := by decide +kernel
theorem dX6_writeRow_12 : decode cX6_writeRow 12 = .ok (.iconst 0, 1) := by decide +kernel
theorem dX6_writeRow_13 : decode cX6_writeRow 13 = .ok (.istore_n 3, 1) := by decide +kernel
theorem dX6_writeRow_14 : decode cX6_writeRow 14 = .ok (.iload_n 3, 1) := by decide +kernel
theorem dX6_writeRow_15 : decode cX6_writeRow 15 = .ok (.iconst 5, 1) := by decide +kernel
theorem dX6_writeRow_16 : decode cX6_writeRow 16 = .ok (.if_icmp .ge 26, 3) := by decide +kernel
theorem dX6_writeRow_19 : decode cX6_writeRow 19 = .ok (.iload_n 3, 1) := by decide +kernel
theorem dX6_writeRow_20 : decode cX6_writeRow 20 = .ok (.ifCond .le 9, 3) := by decide +kernel
theorem dX6_writeRow_23 : decode cX6_writeRow 23 = .ok (.aload_n 0, 1) := by decide +kernel
theorem dX6_writeRow_24 : decode cX6_writeRow 24 = .ok (.bipush 32, 2) := by decide +kernel
theorem dX6_writeRow_26 : decode cX6_writeRow 26 = .ok (.invokevirtual 275, 3) := by decide +kernel
theorem dX6_writeRow_29 : decode cX6_writeRow 29 = .ok (.aload_n 0, 1) := by decide +kernel
theorem dX6_writeRow_30 : decode cX6_writeRow 30 = .ok (.iload_n 2, 1) := by decide +kernel
theorem dX6_writeRow_31 : decode cX6_writeRow 31 = .ok (.iload_n 3, 1) := by decide +kernel
theorem dX6_writeRow_32 : decode cX6_writeRow 32 = .ok (.iadd, 1) := by decide +kernel
theorem dX6_writeRow_33 : decode cX6_writeRow 33 = .ok (.invokevirtual 279, 3) := by decide +kernel
theorem dX6_writeRow_36 : decode cX6_writeRow 36 = .ok (.iinc 3 1, 3) := by decide +kernel
theorem dX6_writeRow_39 : decode cX6_writeRow 39 = .ok (.goto (-25), 3) := by decide +kernel
theorem dX6_writeRow_42 : decode cX6_writeRow 42 = .ok (.aload_n 0, 1) := by decide +kernel
theorem dX6_writeRow_43 : decode cX6_writeRow 43 = .ok (.getfield 61, 3) := by decide +kernel
theorem dX6_writeRow_46 : decode cX6_writeRow 46 = .ok (.ireturn, 1) := by decide +kernel
theorem dX6_outputAt_0 : decode cX6_outputAt 0 = .ok (.iload_n 1, 1) := by decide +kernel
theorem dX6_outputAt_1 : decode cX6_outputAt 1 = .ok (.ifCond .lt 11, 3) := by decide +kernel
theorem dX6_outputAt_4 : decode cX6_outputAt 4 = .ok (.iload_n 1, 1) := by decide +kernel
theorem dX6_outputAt_5 : decode cX6_outputAt 5 = .ok (.aload_n 0, 1) := by decide +kernel
theorem dX6_outputAt_6 : decode cX6_outputAt 6 = .ok (.getfield 61, 3) := by decide +kernel
theorem dX6_outputAt_9 : decode cX6_outputAt 9 = .ok (.if_icmp .lt 14, 3) := by decide +kernel
theorem dX6_outputAt_12 : decode cX6_outputAt 12 = .ok (.new 283, 3) := by decide +kernel
theorem dX6_outputAt_15 : decode cX6_outputAt 15 = .ok (.dup, 1) := by decide +kernel
theorem dX6_outputAt_16 : decode cX6_outputAt 16 = .ok (.ldc_w 285, 3) := by decide +kernel
theorem dX6_outputAt_19 : decode cX6_outputAt 19 = .ok (.invokespecial 287, 3) := by decide +kernel
theorem dX6_outputAt_22 : decode cX6_outputAt 22 = .ok (.athrow, 1) := by decide +kernel
theorem dX6_outputAt_23 : decode cX6_outputAt 23 = .ok (.aload_n 0, 1) := by decide +kernel
theorem dX6_outputAt_24 : decode cX6_outputAt 24 = .ok (.getfield 57, 3) := by decide +kernel
theorem dX6_outputAt_27 : decode cX6_outputAt 27 = .ok (.iload_n 1, 1) := by decide +kernel
theorem dX6_outputAt_28 : decode cX6_outputAt 28 = .ok (.caload, 1) := by decide +kernel
theorem dX6_outputAt_29 : decode cX6_outputAt 29 = .ok (.ireturn, 1) := by decide +kernel
set_option maxRecDepth 20000 in
theorem ggX6_undo_X3_takeBack : GoodIn wsX6_undo wsX3_takeBack := goodIn_r _ [10, 11, 12, 13, 14, 15, 16, 17, 18, 19, 20, 21, 22, 23, 24, 25, 26, 27, 28, 29, 30, 43, 44, 45, 46, 47, 48, 49, 50, 51, 52, 53, 54] (by decide +kernel) (by decide +kernel)
set_option maxRecDepth 20000 in
theorem gX6_undo_X3_takeBack : GoodIn wsX6_undo (wsV RX6 293 RX3 yX3_takeBack wsX3_takeBack) := goodIn_app (goodIn_of _ (by decide +kernel)) ggX6_undo_X3_takeBack
theorem dX6_undo_0 : decode cX6_undo 0 = .ok (.aload_n 0, 1) := by decide +kernel
theorem dX6_undo_1 : decode cX6_undo 1 = .ok (.getfield 32, 3) := by decide +kernel
theorem dX6_undo_4 : decode cX6_undo 4 = .ok (.getfield 288, 3) := by decide +kernel
theorem dX6_undo_7 : decode cX6_undo 7 = .ok (.ifCond .ne 14, 3) := by decide +kernel
theorem dX6_undo_10 : decode cX6_undo 10 = .ok (.new 242, 3) := by decide +kernel
theorem dX6_undo_13 : decode cX6_undo 13 = .ok (.dup, 1) := by decide +kernel
theorem dX6_undo_14 : decode cX6_undo 14 = .ok (.ldc_w 291, 3) := by decide +kernel
theorem dX6_undo_17 : decode cX6_undo 17 = .ok (.invokespecial 246, 3) := by decide +kernel
theorem dX6_undo_20 : decode cX6_undo 20 = .ok (.athrow, 1) := by decide +kernel
theorem dX6_undo_21 : decode cX6_undo 21 = .ok (.aload_n 0, 1) := by decide +kernel
theorem dX6_undo_22 : decode cX6_undo 22 = .ok (.getfield 32, 3) := by decide +kernel
theorem dX6_undo_25 : decode cX6_undo 25 = .ok (.aload_n 0, 1) := by decide +kernel
theorem dX6_undo_26 : decode cX6_undo 26 = .ok (.getfield 12, 3) := by decide +kernel
theorem dX6_undo_29 : decode cX6_undo 29 = .ok (.invokevirtual 293, 3) := by decide +kernel
theorem dX6_undo_32 : decode cX6_undo 32 = .ok (.aload_n 0, 1) := by decide +kernel
theorem dX6_undo_33 : decode cX6_undo 33 = .ok (.getfield 32, 3) := by decide +kernel
theorem dX6_undo_36 : decode cX6_undo 36 = .ok (.getfield 288, 3) := by decide +kernel
theorem dX6_undo_39 : decode cX6_undo 39 = .ok (.ireturn, 1) := by decide +kernel
set_option maxRecDepth 20000 in
theorem ggX6_save_X1_copyFrom : GoodIn wsX6_save wsX1_copyFrom := goodIn_r _ [8, 9, 10, 11, 12, 13, 14, 15, 16, 17, 18, 19, 20, 33, 34, 35, 36, 37, 38, 39, 40, 41] (by decide +kernel) (by decide +kernel)
set_option maxRecDepth 20000 in
theorem gX6_save_X1_copyFrom : GoodIn wsX6_save (wsV RX6 64 RX1 yX1_copyFrom wsX1_copyFrom) := goodIn_app (goodIn_of _ (by decide +kernel)) ggX6_save_X1_copyFrom
theorem dX6_save_0 : decode cX6_save 0 = .ok (.aload_n 0, 1) := by decide +kernel
theorem dX6_save_1 : decode cX6_save 1 = .ok (.getfield 22, 3) := by decide +kernel
theorem dX6_save_4 : decode cX6_save 4 = .ok (.aload_n 0, 1) := by decide +kernel
theorem dX6_save_5 : decode cX6_save 5 = .ok (.getfield 12, 3) := by decide +kernel
theorem dX6_save_8 : decode cX6_save 8 = .ok (.invokevirtual 64, 3) := by decide +kernel
theorem dX6_save_11 : decode cX6_save 11 = .ok (.aload_n 0, 1) := by decide +kernel
theorem dX6_save_12 : decode cX6_save 12 = .ok (.iconst 1, 1) := by decide +kernel
theorem dX6_save_13 : decode cX6_save 13 = .ok (.putfield 25, 3) := by decide +kernel
theorem dX6_save_16 : decode cX6_save 16 = .ok (.return_, 1) := by decide +kernel
set_option maxRecDepth 20000 in
theorem ggX6_restore_X1_copyFrom : GoodIn wsX6_restore wsX1_copyFrom := goodIn_r _ [11, 12, 13, 14, 15, 16, 17, 18, 19, 20, 21, 22, 23, 42, 43, 44, 45, 46, 47, 48, 49, 50] (by decide +kernel) (by decide +kernel)
set_option maxRecDepth 20000 in
theorem gX6_restore_X1_copyFrom : GoodIn wsX6_restore (wsV RX6 64 RX1 yX1_copyFrom wsX1_copyFrom) := goodIn_app (goodIn_of _ (by decide +kernel)) ggX6_restore_X1_copyFrom
set_option maxRecDepth 20000 in
theorem ggX6_restore_X3_clear : GoodIn wsX6_restore wsX3_clear := goodIn_r _ [28, 29, 51, 52, 53] (by decide +kernel) (by decide +kernel)
set_option maxRecDepth 20000 in
theorem gX6_restore_X3_clear : GoodIn wsX6_restore (wsV RX6 298 RX3 yX3_clear wsX3_clear) := goodIn_app (goodIn_of _ (by decide +kernel)) ggX6_restore_X3_clear
theorem dX6_restore_0 : decode cX6_restore 0 = .ok (.aload_n 0, 1) := by decide +kernel
theorem dX6_restore_1 : decode cX6_restore 1 = .ok (.getfield 25, 3) := by decide +kernel
theorem dX6_restore_4 : decode cX6_restore 4 = .ok (.ifCond .ne 14, 3) := by decide +kernel
theorem dX6_restore_7 : decode cX6_restore 7 = .ok (.new 242, 3) := by decide +kernel
theorem dX6_restore_10 : decode cX6_restore 10 = .ok (.dup, 1) := by decide +kernel
theorem dX6_restore_11 : decode cX6_restore 11 = .ok (.ldc_w 296, 3) := by decide +kernel
theorem dX6_restore_14 : decode cX6_restore 14 = .ok (.invokespecial 246, 3) := by decide +kernel
theorem dX6_restore_17 : decode cX6_restore 17 = .ok (.athrow, 1) := by decide +kernel
theorem dX6_restore_18 : decode cX6_restore 18 = .ok (.aload_n 0, 1) := by decide +kernel
theorem dX6_restore_19 : decode cX6_restore 19 = .ok (.getfield 12, 3) := by decide +kernel
theorem dX6_restore_22 : decode cX6_restore 22 = .ok (.aload_n 0, 1) := by decide +kernel
theorem dX6_restore_23 : decode cX6_restore 23 = .ok (.getfield 22, 3) := by decide +kernel
theorem dX6_restore_26 : decode cX6_restore 26 = .ok (.invokevirtual 64, 3) := by decide +kernel
theorem dX6_restore_29 : decode cX6_restore 29 = .ok (.aload_n 0, 1) := by decide +kernel
theorem dX6_restore_30 : decode cX6_restore 30 = .ok (.getfield 32, 3) := by decide +kernel
theorem dX6_restore_33 : decode cX6_restore 33 = .ok (.invokevirtual 298, 3) := by decide +kernel
theorem dX6_restore_36 : decode cX6_restore 36 = .ok (.return_, 1) := by decide +kernel
set_option maxRecDepth 20000 in
theorem ggX6_settle_X3_add : GoodIn wsX6_settle wsX3_add := goodIn_r _ [17, 18, 19, 20, 21, 22, 23, 24, 25, 26, 27, 28, 29, 30, 31, 32, 33, 34, 35, 36, 37, 38, 39, 40, 41, 54, 55, 56, 57, 58, 59, 60, 61, 62, 63, 64, 65] (by decide +kernel) (by decide +kernel)
set_option maxRecDepth 20000 in
theorem gX6_settle_X3_add : GoodIn wsX6_settle (wsV RX6 266 RX3 yX3_add wsX3_add) := goodIn_app (goodIn_of _ (by decide +kernel)) ggX6_settle_X3_add
theorem dX6_settle_0 : decode cX6_settle 0 = .ok (.iload_n 1, 1) := by decide +kernel
theorem dX6_settle_1 : decode cX6_settle 1 = .ok (.tableswitch 89 (-5) (-1) #[79, 68, 57, 46, 35], 35) := by decide +kernel
theorem dX6_settle_36 : decode cX6_settle 36 = .ok (.new 283, 3) := by decide +kernel
theorem dX6_settle_39 : decode cX6_settle 39 = .ok (.dup, 1) := by decide +kernel
theorem dX6_settle_40 : decode cX6_settle 40 = .ok (.ldc_w 299, 3) := by decide +kernel
theorem dX6_settle_43 : decode cX6_settle 43 = .ok (.invokespecial 287, 3) := by decide +kernel
theorem dX6_settle_46 : decode cX6_settle 46 = .ok (.athrow, 1) := by decide +kernel
theorem dX6_settle_47 : decode cX6_settle 47 = .ok (.new 145, 3) := by decide +kernel
theorem dX6_settle_50 : decode cX6_settle 50 = .ok (.dup, 1) := by decide +kernel
theorem dX6_settle_51 : decode cX6_settle 51 = .ok (.ldc_w 301, 3) := by decide +kernel
theorem dX6_settle_54 : decode cX6_settle 54 = .ok (.invokespecial 149, 3) := by decide +kernel
theorem dX6_settle_57 : decode cX6_settle 57 = .ok (.athrow, 1) := by decide +kernel
theorem dX6_settle_58 : decode cX6_settle 58 = .ok (.new 242, 3) := by decide +kernel
theorem dX6_settle_61 : decode cX6_settle 61 = .ok (.dup, 1) := by decide +kernel
theorem dX6_settle_62 : decode cX6_settle 62 = .ok (.ldc_w 303, 3) := by decide +kernel
theorem dX6_settle_65 : decode cX6_settle 65 = .ok (.invokespecial 246, 3) := by decide +kernel
theorem dX6_settle_68 : decode cX6_settle 68 = .ok (.athrow, 1) := by decide +kernel
theorem dX6_settle_69 : decode cX6_settle 69 = .ok (.new 261, 3) := by decide +kernel
theorem dX6_settle_72 : decode cX6_settle 72 = .ok (.dup, 1) := by decide +kernel
theorem dX6_settle_73 : decode cX6_settle 73 = .ok (.ldc_w 305, 3) := by decide +kernel
theorem dX6_settle_76 : decode cX6_settle 76 = .ok (.invokespecial 265, 3) := by decide +kernel
theorem dX6_settle_79 : decode cX6_settle 79 = .ok (.athrow, 1) := by decide +kernel
theorem dX6_settle_80 : decode cX6_settle 80 = .ok (.new 131, 3) := by decide +kernel
theorem dX6_settle_83 : decode cX6_settle 83 = .ok (.dup, 1) := by decide +kernel
theorem dX6_settle_84 : decode cX6_settle 84 = .ok (.ldc 133, 2) := by decide +kernel
theorem dX6_settle_86 : decode cX6_settle 86 = .ok (.invokespecial 135, 3) := by decide +kernel
theorem dX6_settle_89 : decode cX6_settle 89 = .ok (.athrow, 1) := by decide +kernel
theorem dX6_settle_90 : decode cX6_settle 90 = .ok (.aload_n 0, 1) := by decide +kernel
theorem dX6_settle_91 : decode cX6_settle 91 = .ok (.getfield 32, 3) := by decide +kernel
theorem dX6_settle_94 : decode cX6_settle 94 = .ok (.aload_n 0, 1) := by decide +kernel
theorem dX6_settle_95 : decode cX6_settle 95 = .ok (.getfield 16, 3) := by decide +kernel
theorem dX6_settle_98 : decode cX6_settle 98 = .ok (.invokevirtual 266, 3) := by decide +kernel
theorem dX6_settle_101 : decode cX6_settle 101 = .ok (.iload_n 1, 1) := by decide +kernel
theorem dX6_settle_102 : decode cX6_settle 102 = .ok (.ireturn, 1) := by decide +kernel
set_option maxRecDepth 20000 in
theorem ggX6_needCell_X6_isLine : GoodIn wsX6_needCell wsX6_isLine := goodIn_r _ [6] (by decide +kernel) (by decide +kernel)
set_option maxRecDepth 20000 in
theorem gX6_needCell_X6_isLine : GoodIn wsX6_needCell (va_wsS RX6 307 yX6_isLine wsX6_isLine) := goodIn_app (goodIn_of _ (by decide +kernel)) ggX6_needCell_X6_isLine
theorem dX6_needCell_0 : decode cX6_needCell 0 = .ok (.iload_n 0, 1) := by decide +kernel
theorem dX6_needCell_1 : decode cX6_needCell 1 = .ok (.invokestatic 307, 3) := by decide +kernel
theorem dX6_needCell_4 : decode cX6_needCell 4 = .ok (.ifCond .eq 10, 3) := by decide +kernel
theorem dX6_needCell_7 : decode cX6_needCell 7 = .ok (.iload_n 1, 1) := by decide +kernel
theorem dX6_needCell_8 : decode cX6_needCell 8 = .ok (.invokestatic 307, 3) := by decide +kernel
theorem dX6_needCell_11 : decode cX6_needCell 11 = .ok (.ifCond .ne 14, 3) := by decide +kernel
theorem dX6_needCell_14 : decode cX6_needCell 14 = .ok (.new 283, 3) := by decide +kernel
theorem dX6_needCell_17 : decode cX6_needCell 17 = .ok (.dup, 1) := by decide +kernel
theorem dX6_needCell_18 : decode cX6_needCell 18 = .ok (.ldc_w 310, 3) := by decide +kernel
theorem dX6_needCell_21 : decode cX6_needCell 21 = .ok (.invokespecial 287, 3) := by decide +kernel
theorem dX6_needCell_24 : decode cX6_needCell 24 = .ok (.athrow, 1) := by decide +kernel
theorem dX6_needCell_25 : decode cX6_needCell 25 = .ok (.iload_n 0, 1) := by decide +kernel
theorem dX6_needCell_26 : decode cX6_needCell 26 = .ok (.iconst 5, 1) := by decide +kernel
theorem dX6_needCell_27 : decode cX6_needCell 27 = .ok (.imul, 1) := by decide +kernel
theorem dX6_needCell_28 : decode cX6_needCell 28 = .ok (.iload_n 1, 1) := by decide +kernel
theorem dX6_needCell_29 : decode cX6_needCell 29 = .ok (.iadd, 1) := by decide +kernel
theorem dX6_needCell_30 : decode cX6_needCell 30 = .ok (.ireturn, 1) := by decide +kernel
set_option maxRecDepth 20000 in
theorem ggX6_needLine_X6_isLine : GoodIn wsX6_needLine wsX6_isLine := goodIn_r _ [6] (by decide +kernel) (by decide +kernel)
set_option maxRecDepth 20000 in
theorem gX6_needLine_X6_isLine : GoodIn wsX6_needLine (va_wsS RX6 307 yX6_isLine wsX6_isLine) := goodIn_app (goodIn_of _ (by decide +kernel)) ggX6_needLine_X6_isLine
theorem dX6_needLine_0 : decode cX6_needLine 0 = .ok (.iload_n 0, 1) := by decide +kernel
theorem dX6_needLine_1 : decode cX6_needLine 1 = .ok (.invokestatic 307, 3) := by decide +kernel
theorem dX6_needLine_4 : decode cX6_needLine 4 = .ok (.ifCond .ne 14, 3) := by decide +kernel
theorem dX6_needLine_7 : decode cX6_needLine 7 = .ok (.new 283, 3) := by decide +kernel
theorem dX6_needLine_10 : decode cX6_needLine 10 = .ok (.dup, 1) := by decide +kernel
theorem dX6_needLine_11 : decode cX6_needLine 11 = .ok (.ldc_w 312, 3) := by decide +kernel
theorem dX6_needLine_14 : decode cX6_needLine 14 = .ok (.invokespecial 287, 3) := by decide +kernel
theorem dX6_needLine_17 : decode cX6_needLine 17 = .ok (.athrow, 1) := by decide +kernel
theorem dX6_needLine_18 : decode cX6_needLine 18 = .ok (.iload_n 0, 1) := by decide +kernel
theorem dX6_needLine_19 : decode cX6_needLine 19 = .ok (.ireturn, 1) := by decide +kernel
set_option maxRecDepth 20000 in
theorem ggX6_needWalker_X1_isWalker : GoodIn wsX6_needWalker wsX1_isWalker := goodIn_r _ [8, 9, 22, 23, 24, 25, 26, 27, 28, 29, 30] (by decide +kernel) (by decide +kernel)
set_option maxRecDepth 20000 in
theorem gX6_needWalker_X1_isWalker : GoodIn wsX6_needWalker (wsV RX6 314 RX1 yX1_isWalker wsX1_isWalker) := goodIn_app (goodIn_of _ (by decide +kernel)) ggX6_needWalker_X1_isWalker
theorem dX6_needWalker_0 : decode cX6_needWalker 0 = .ok (.aload_n 0, 1) := by decide +kernel
theorem dX6_needWalker_1 : decode cX6_needWalker 1 = .ok (.getfield 12, 3) := by decide +kernel
theorem dX6_needWalker_4 : decode cX6_needWalker 4 = .ok (.iload_n 1, 1) := by decide +kernel
theorem dX6_needWalker_5 : decode cX6_needWalker 5 = .ok (.invokevirtual 314, 3) := by decide +kernel
theorem dX6_needWalker_8 : decode cX6_needWalker 8 = .ok (.ifCond .ne 14, 3) := by decide +kernel
theorem dX6_needWalker_11 : decode cX6_needWalker 11 = .ok (.new 283, 3) := by decide +kernel
theorem dX6_needWalker_14 : decode cX6_needWalker 14 = .ok (.dup, 1) := by decide +kernel
theorem dX6_needWalker_15 : decode cX6_needWalker 15 = .ok (.ldc_w 317, 3) := by decide +kernel
theorem dX6_needWalker_18 : decode cX6_needWalker 18 = .ok (.invokespecial 287, 3) := by decide +kernel
theorem dX6_needWalker_21 : decode cX6_needWalker 21 = .ok (.athrow, 1) := by decide +kernel
theorem dX6_needWalker_22 : decode cX6_needWalker 22 = .ok (.iload_n 1, 1) := by decide +kernel
theorem dX6_needWalker_23 : decode cX6_needWalker 23 = .ok (.ireturn, 1) := by decide +kernel
set_option maxRecDepth 20000 in
theorem ggX6_needKey_X6_isKey : GoodIn wsX6_needKey wsX6_isKey := goodIn_r _ [6] (by decide +kernel) (by decide +kernel)
set_option maxRecDepth 20000 in
theorem gX6_needKey_X6_isKey : GoodIn wsX6_needKey (va_wsS RX6 319 yX6_isKey wsX6_isKey) := goodIn_app (goodIn_of _ (by decide +kernel)) ggX6_needKey_X6_isKey
theorem dX6_needKey_0 : decode cX6_needKey 0 = .ok (.iload_n 0, 1) := by decide +kernel
theorem dX6_needKey_1 : decode cX6_needKey 1 = .ok (.invokestatic 319, 3) := by decide +kernel
theorem dX6_needKey_4 : decode cX6_needKey 4 = .ok (.ifCond .ne 14, 3) := by decide +kernel
theorem dX6_needKey_7 : decode cX6_needKey 7 = .ok (.new 145, 3) := by decide +kernel
theorem dX6_needKey_10 : decode cX6_needKey 10 = .ok (.dup, 1) := by decide +kernel
theorem dX6_needKey_11 : decode cX6_needKey 11 = .ok (.ldc_w 322, 3) := by decide +kernel
theorem dX6_needKey_14 : decode cX6_needKey 14 = .ok (.invokespecial 149, 3) := by decide +kernel
theorem dX6_needKey_17 : decode cX6_needKey 17 = .ok (.athrow, 1) := by decide +kernel
theorem dX6_needKey_18 : decode cX6_needKey 18 = .ok (.iload_n 0, 1) := by decide +kernel
theorem dX6_needKey_19 : decode cX6_needKey 19 = .ok (.bipush 97, 2) := by decide +kernel
theorem dX6_needKey_21 : decode cX6_needKey 21 = .ok (.isub, 1) := by decide +kernel
theorem dX6_needKey_22 : decode cX6_needKey 22 = .ok (.ireturn, 1) := by decide +kernel
set_option maxRecDepth 20000 in
theorem ggX6_needKeyCell_X6_needKey : GoodIn wsX6_needKeyCell wsX6_needKey := goodIn_ca (goodIn_r _ [8, 9, 10, 11, 12, 7, 13] (by decide +kernel) (by decide +kernel)) (goodIn_sub (fun _ h => List.mem_cons_of_mem _ (List.mem_append_right _ h)) (by decide +kernel))
set_option maxRecDepth 20000 in
theorem gX6_needKeyCell_X6_needKey : GoodIn wsX6_needKeyCell (va_wsS RX6 167 yX6_needKey wsX6_needKey) := goodIn_app (goodIn_of _ (by decide +kernel)) ggX6_needKeyCell_X6_needKey
set_option maxRecDepth 20000 in
theorem ggX6_needKeyCell_X6_isCell : GoodIn wsX6_needKeyCell wsX6_isCell := goodIn_r _ [16] (by decide +kernel) (by decide +kernel)
set_option maxRecDepth 20000 in
theorem gX6_needKeyCell_X6_isCell : GoodIn wsX6_needKeyCell (va_wsS RX6 206 yX6_isCell wsX6_isCell) := goodIn_app (goodIn_of _ (by decide +kernel)) ggX6_needKeyCell_X6_isCell
theorem dX6_needKeyCell_0 : decode cX6_needKeyCell 0 = .ok (.aload_n 0, 1) := by decide +kernel
theorem dX6_needKeyCell_1 : decode cX6_needKeyCell 1 = .ok (.getfield 12, 3) := by decide +kernel
theorem dX6_needKeyCell_4 : decode cX6_needKeyCell 4 = .ok (.getfield 164, 3) := by decide +kernel
theorem dX6_needKeyCell_7 : decode cX6_needKeyCell 7 = .ok (.iload_n 1, 1) := by decide +kernel
theorem dX6_needKeyCell_8 : decode cX6_needKeyCell 8 = .ok (.invokestatic 167, 3) := by decide +kernel
theorem dX6_needKeyCell_11 : decode cX6_needKeyCell 11 = .ok (.iaload, 1) := by decide +kernel
theorem dX6_needKeyCell_12 : decode cX6_needKeyCell 12 = .ok (.istore_n 2, 1) := by decide +kernel
theorem dX6_needKeyCell_13 : decode cX6_needKeyCell 13 = .ok (.iload_n 2, 1) := by decide +kernel
theorem dX6_needKeyCell_14 : decode cX6_needKeyCell 14 = .ok (.invokestatic 206, 3) := by decide +kernel
theorem dX6_needKeyCell_17 : decode cX6_needKeyCell 17 = .ok (.ifCond .ne 14, 3) := by decide +kernel
theorem dX6_needKeyCell_20 : decode cX6_needKeyCell 20 = .ok (.new 131, 3) := by decide +kernel
theorem dX6_needKeyCell_23 : decode cX6_needKeyCell 23 = .ok (.dup, 1) := by decide +kernel
theorem dX6_needKeyCell_24 : decode cX6_needKeyCell 24 = .ok (.ldc_w 324, 3) := by decide +kernel
theorem dX6_needKeyCell_27 : decode cX6_needKeyCell 27 = .ok (.invokespecial 135, 3) := by decide +kernel
theorem dX6_needKeyCell_30 : decode cX6_needKeyCell 30 = .ok (.athrow, 1) := by decide +kernel
theorem dX6_needKeyCell_31 : decode cX6_needKeyCell 31 = .ok (.iload_n 2, 1) := by decide +kernel
theorem dX6_needKeyCell_32 : decode cX6_needKeyCell 32 = .ok (.ireturn, 1) := by decide +kernel
theorem dX6_needPath_0 : decode cX6_needPath 0 = .ok (.iload_n 0, 1) := by decide +kernel
theorem dX6_needPath_1 : decode cX6_needPath 1 = .ok (.bipush 25, 2) := by decide +kernel
theorem dX6_needPath_3 : decode cX6_needPath 3 = .ok (.if_icmp .lt 14, 3) := by decide +kernel
theorem dX6_needPath_6 : decode cX6_needPath 6 = .ok (.new 131, 3) := by decide +kernel
theorem dX6_needPath_9 : decode cX6_needPath 9 = .ok (.dup, 1) := by decide +kernel
theorem dX6_needPath_10 : decode cX6_needPath 10 = .ok (.ldc_w 326, 3) := by decide +kernel
theorem dX6_needPath_13 : decode cX6_needPath 13 = .ok (.invokespecial 135, 3) := by decide +kernel
theorem dX6_needPath_16 : decode cX6_needPath 16 = .ok (.athrow, 1) := by decide +kernel
theorem dX6_needPath_17 : decode cX6_needPath 17 = .ok (.iload_n 0, 1) := by decide +kernel
theorem dX6_needPath_18 : decode cX6_needPath 18 = .ok (.ireturn, 1) := by decide +kernel
theorem dX6_isLine_0 : decode cX6_isLine 0 = .ok (.iload_n 0, 1) := by decide +kernel
theorem dX6_isLine_1 : decode cX6_isLine 1 = .ok (.ifCond .lt 12, 3) := by decide +kernel
theorem dX6_isLine_4 : decode cX6_isLine 4 = .ok (.iload_n 0, 1) := by decide +kernel
theorem dX6_isLine_5 : decode cX6_isLine 5 = .ok (.iconst 5, 1) := by decide +kernel
theorem dX6_isLine_6 : decode cX6_isLine 6 = .ok (.if_icmp .ge 7, 3) := by decide +kernel
theorem dX6_isLine_9 : decode cX6_isLine 9 = .ok (.iconst 1, 1) := by decide +kernel
theorem dX6_isLine_10 : decode cX6_isLine 10 = .ok (.goto 4, 3) := by decide +kernel
theorem dX6_isLine_13 : decode cX6_isLine 13 = .ok (.iconst 0, 1) := by decide +kernel
theorem dX6_isLine_14 : decode cX6_isLine 14 = .ok (.ireturn, 1) := by decide +kernel
theorem dX6_isCell_0 : decode cX6_isCell 0 = .ok (.iload_n 0, 1) := by decide +kernel
theorem dX6_isCell_1 : decode cX6_isCell 1 = .ok (.ifCond .lt 13, 3) := by decide +kernel
theorem dX6_isCell_4 : decode cX6_isCell 4 = .ok (.iload_n 0, 1) := by decide +kernel
theorem dX6_isCell_5 : decode cX6_isCell 5 = .ok (.bipush 25, 2) := by decide +kernel
theorem dX6_isCell_7 : decode cX6_isCell 7 = .ok (.if_icmp .ge 7, 3) := by decide +kernel
theorem dX6_isCell_10 : decode cX6_isCell 10 = .ok (.iconst 1, 1) := by decide +kernel
theorem dX6_isCell_11 : decode cX6_isCell 11 = .ok (.goto 4, 3) := by decide +kernel
theorem dX6_isCell_14 : decode cX6_isCell 14 = .ok (.iconst 0, 1) := by decide +kernel
theorem dX6_isCell_15 : decode cX6_isCell 15 = .ok (.ireturn, 1) := by decide +kernel
theorem dX6_isKey_0 : decode cX6_isKey 0 = .ok (.iload_n 0, 1) := by decide +kernel
theorem dX6_isKey_1 : decode cX6_isKey 1 = .ok (.bipush 97, 2) := by decide +kernel
theorem dX6_isKey_3 : decode cX6_isKey 3 = .ok (.if_icmp .lt 13, 3) := by decide +kernel
theorem dX6_isKey_6 : decode cX6_isKey 6 = .ok (.iload_n 0, 1) := by decide +kernel
theorem dX6_isKey_7 : decode cX6_isKey 7 = .ok (.bipush 103, 2) := by decide +kernel
theorem dX6_isKey_9 : decode cX6_isKey 9 = .ok (.if_icmp .ge 7, 3) := by decide +kernel
theorem dX6_isKey_12 : decode cX6_isKey 12 = .ok (.iconst 1, 1) := by decide +kernel
theorem dX6_isKey_13 : decode cX6_isKey 13 = .ok (.goto 4, 3) := by decide +kernel
theorem dX6_isKey_16 : decode cX6_isKey 16 = .ok (.iconst 0, 1) := by decide +kernel
theorem dX6_isKey_17 : decode cX6_isKey 17 = .ok (.ireturn, 1) := by decide +kernel
theorem dX6_keyName_0 : decode cX6_keyName 0 = .ok (.bipush 97, 2) := by decide +kernel
theorem dX6_keyName_2 : decode cX6_keyName 2 = .ok (.iload_n 0, 1) := by decide +kernel
theorem dX6_keyName_3 : decode cX6_keyName 3 = .ok (.iadd, 1) := by decide +kernel
theorem dX6_keyName_4 : decode cX6_keyName 4 = .ok (.i2c, 1) := by decide +kernel
theorem dX6_keyName_5 : decode cX6_keyName 5 = .ok (.ireturn, 1) := by decide +kernel
set_option maxRecDepth 20000 in
theorem ggX6_countHelpful_X1_isLineFree : GoodIn wsX6_countHelpful wsX1_isLineFree := goodIn_r _ [9, 10, 11, 12, 8, 13, 14, 87, 88, 89, 90, 91, 92, 93, 94, 95] (by decide +kernel) (by decide +kernel)
set_option maxRecDepth 20000 in
theorem gX6_countHelpful_X1_isLineFree : GoodIn wsX6_countHelpful (wsV RX6 124 RX1 yX1_isLineFree wsX1_isLineFree) := goodIn_app (goodIn_of _ (by decide +kernel)) ggX6_countHelpful_X1_isLineFree
set_option maxRecDepth 20000 in
theorem ggX6_countHelpful_X1_copyFrom : GoodIn wsX6_countHelpful wsX1_copyFrom := goodIn_r _ [18, 19, 20, 21, 22, 23, 24, 25, 26, 14, 27, 28, 29, 87, 88, 89, 90, 91, 92, 93, 94, 95] (by decide +kernel) (by decide +kernel)
set_option maxRecDepth 20000 in
theorem gX6_countHelpful_X1_copyFrom : GoodIn wsX6_countHelpful (wsV RX6 64 RX1 yX1_copyFrom wsX1_copyFrom) := goodIn_app (goodIn_of _ (by decide +kernel)) ggX6_countHelpful_X1_copyFrom
set_option maxRecDepth 20000 in
theorem ggX6_countHelpful_X1_moveLine : GoodIn wsX6_countHelpful wsX1_moveLine := goodIn_r _ [33, 19, 24, 25, 27, 26, 34, 35, 36, 8, 37, 38, 39, 40, 41, 42, 43, 44, 45, 87, 88, 89, 90, 91, 92, 93, 94, 95] (by decide +kernel) (by decide +kernel)
set_option maxRecDepth 20000 in
theorem gX6_countHelpful_X1_moveLine : GoodIn wsX6_countHelpful (wsV RX6 328 RX1 yX1_moveLine wsX1_moveLine) := goodIn_app (goodIn_of _ (by decide +kernel)) ggX6_countHelpful_X1_moveLine
set_option maxRecDepth 20000 in
theorem ggX6_countHelpful_X5_findPaths : GoodIn wsX6_countHelpful wsX5_findPaths := goodIn_r _ [50, 51, 52, 53, 54, 55, 56, 57, 58, 59, 60, 61, 8, 62, 19, 63, 64, 65, 66, 67, 68, 69, 24, 25, 87, 88, 89, 90, 91, 92, 93, 94, 95, 82, 83, 84, 85, 86] (by decide +kernel) (by decide +kernel)
set_option maxRecDepth 20000 in
theorem gX6_countHelpful_X5_findPaths : GoodIn wsX6_countHelpful (wsV RX6 181 RX5 yX5_findPaths wsX5_findPaths) := goodIn_app (goodIn_of _ (by decide +kernel)) ggX6_countHelpful_X5_findPaths
theorem dX6_countHelpful_0 : decode cX6_countHelpful 0 = .ok (.aload_n 0, 1) := by decide +kernel
theorem dX6_countHelpful_1 : decode cX6_countHelpful 1 = .ok (.getfield 12, 3) := by decide +kernel
theorem dX6_countHelpful_4 : decode cX6_countHelpful 4 = .ok (.iload_n 3, 1) := by decide +kernel
theorem dX6_countHelpful_5 : decode cX6_countHelpful 5 = .ok (.iload 4, 2) := by decide +kernel
theorem dX6_countHelpful_7 : decode cX6_countHelpful 7 = .ok (.invokevirtual 124, 3) := by decide +kernel
theorem dX6_countHelpful_10 : decode cX6_countHelpful 10 = .ok (.ifCond .ne 5, 3) := by decide +kernel
theorem dX6_countHelpful_13 : decode cX6_countHelpful 13 = .ok (.iconst 0, 1) := by decide +kernel
theorem dX6_countHelpful_14 : decode cX6_countHelpful 14 = .ok (.ireturn, 1) := by decide +kernel
theorem dX6_countHelpful_15 : decode cX6_countHelpful 15 = .ok (.iconst 0, 1) := by decide +kernel
theorem dX6_countHelpful_16 : decode cX6_countHelpful 16 = .ok (.istore 5, 2) := by decide +kernel
theorem dX6_countHelpful_18 : decode cX6_countHelpful 18 = .ok (.iconst (-1), 1) := by decide +kernel
theorem dX6_countHelpful_19 : decode cX6_countHelpful 19 = .ok (.istore 6, 2) := by decide +kernel
theorem dX6_countHelpful_21 : decode cX6_countHelpful 21 = .ok (.iload 6, 2) := by decide +kernel
theorem dX6_countHelpful_23 : decode cX6_countHelpful 23 = .ok (.iconst 1, 1) := by decide +kernel
theorem dX6_countHelpful_24 : decode cX6_countHelpful 24 = .ok (.if_icmp .gt 61, 3) := by decide +kernel
theorem dX6_countHelpful_27 : decode cX6_countHelpful 27 = .ok (.aload_n 0, 1) := by decide +kernel
theorem dX6_countHelpful_28 : decode cX6_countHelpful 28 = .ok (.getfield 19, 3) := by decide +kernel
theorem dX6_countHelpful_31 : decode cX6_countHelpful 31 = .ok (.aload_n 0, 1) := by decide +kernel
theorem dX6_countHelpful_32 : decode cX6_countHelpful 32 = .ok (.getfield 12, 3) := by decide +kernel
theorem dX6_countHelpful_35 : decode cX6_countHelpful 35 = .ok (.invokevirtual 64, 3) := by decide +kernel
theorem dX6_countHelpful_38 : decode cX6_countHelpful 38 = .ok (.aload_n 0, 1) := by decide +kernel
theorem dX6_countHelpful_39 : decode cX6_countHelpful 39 = .ok (.getfield 19, 3) := by decide +kernel
theorem dX6_countHelpful_42 : decode cX6_countHelpful 42 = .ok (.iload_n 3, 1) := by decide +kernel
theorem dX6_countHelpful_43 : decode cX6_countHelpful 43 = .ok (.iload 4, 2) := by decide +kernel
theorem dX6_countHelpful_45 : decode cX6_countHelpful 45 = .ok (.iload 6, 2) := by decide +kernel
theorem dX6_countHelpful_47 : decode cX6_countHelpful 47 = .ok (.invokevirtual 328, 3) := by decide +kernel
theorem dX6_countHelpful_50 : decode cX6_countHelpful 50 = .ok (.aload_n 0, 1) := by decide +kernel
theorem dX6_countHelpful_51 : decode cX6_countHelpful 51 = .ok (.getfield 39, 3) := by decide +kernel
theorem dX6_countHelpful_54 : decode cX6_countHelpful 54 = .ok (.aload_n 0, 1) := by decide +kernel
theorem dX6_countHelpful_55 : decode cX6_countHelpful 55 = .ok (.getfield 19, 3) := by decide +kernel
theorem dX6_countHelpful_58 : decode cX6_countHelpful 58 = .ok (.iload_n 1, 1) := by decide +kernel
theorem dX6_countHelpful_59 : decode cX6_countHelpful 59 = .ok (.invokevirtual 181, 3) := by decide +kernel
theorem dX6_countHelpful_62 : decode cX6_countHelpful 62 = .ok (.aload_n 0, 1) := by decide +kernel
theorem dX6_countHelpful_63 : decode cX6_countHelpful 63 = .ok (.getfield 39, 3) := by decide +kernel
theorem dX6_countHelpful_66 : decode cX6_countHelpful 66 = .ok (.getfield 185, 3) := by decide +kernel
theorem dX6_countHelpful_69 : decode cX6_countHelpful 69 = .ok (.iload_n 2, 1) := by decide +kernel
theorem dX6_countHelpful_70 : decode cX6_countHelpful 70 = .ok (.iaload, 1) := by decide +kernel
theorem dX6_countHelpful_71 : decode cX6_countHelpful 71 = .ok (.bipush 25, 2) := by decide +kernel
theorem dX6_countHelpful_73 : decode cX6_countHelpful 73 = .ok (.if_icmp .ge 6, 3) := by decide +kernel
theorem dX6_countHelpful_76 : decode cX6_countHelpful 76 = .ok (.iinc 5 1, 3) := by decide +kernel
theorem dX6_countHelpful_79 : decode cX6_countHelpful 79 = .ok (.iinc 6 2, 3) := by decide +kernel
theorem dX6_countHelpful_82 : decode cX6_countHelpful 82 = .ok (.goto (-61), 3) := by decide +kernel
theorem dX6_countHelpful_85 : decode cX6_countHelpful 85 = .ok (.iload 5, 2) := by decide +kernel
theorem dX6_countHelpful_87 : decode cX6_countHelpful 87 = .ok (.ireturn, 1) := by decide +kernel
set_option maxRecDepth 20000 in
theorem ggX6_findFailure_X4_readCommand : GoodIn wsX6_findFailure wsX4_readCommand := goodIn_r _ [9, 10, 11, 12, 13, 14, 15, 16, 17, 18, 8, 19, 20, 21, 22, 23, 24, 25, 26, 27, 28, 29, 30, 31, 32, 33, 34, 35, 36, 37, 38, 39, 40, 41, 42, 43, 44, 45, 46, 47, 48, 49, 50, 51, 52, 53, 54, 55, 56, 57, 58, 59, 60, 61, 62, 63, 64, 65, 66, 67, 68, 69, 70, 71, 72, 73, 74, 75, 76, 77, 78, 79, 80, 81, 82, 83, 247, 248, 249, 250, 251] (by decide +kernel) (by decide +kernel)
set_option maxRecDepth 20000 in
theorem gX6_findFailure_X4_readCommand : GoodIn wsX6_findFailure (wsV RX6 332 RX4 yX4_readCommand wsX4_readCommand) := goodIn_app (goodIn_of _ (by decide +kernel)) ggX6_findFailure_X4_readCommand
set_option maxRecDepth 20000 in
theorem ggX6_findFailure_X6_carryOut : GoodIn wsX6_findFailure wsX6_carryOut := goodIn_r _ [87, 88, 89, 90, 91, 92, 93, 94, 95, 96, 97, 98, 99, 100, 101, 102, 103, 104, 76, 105, 106, 107, 108, 109, 110, 111, 112, 113, 114, 115, 116, 117, 118, 119, 120, 121, 122, 123, 124, 125, 126, 127, 128, 129, 130, 131, 132, 133, 134, 135, 136, 137, 138, 139, 140, 141, 142, 143, 144, 145, 146, 147, 148, 149, 150, 151, 152, 153, 154, 155, 156, 157, 158, 159, 160, 161, 162, 163, 164, 165, 166, 167, 168, 169, 170, 171, 172, 173, 174, 75, 77, 175, 176, 177, 178, 179, 180, 181, 182, 183, 184, 185, 186, 187, 188, 189, 190, 191, 192, 193, 194, 195, 196, 197, 198, 199, 200, 201, 202, 203, 204, 205, 206, 207, 208, 209, 210, 211, 212, 213, 214, 215, 216, 217, 218, 219, 220, 221, 222, 223, 224, 225, 226, 227, 228, 229, 230, 231, 232, 233, 234, 235, 236, 237, 238, 239, 240, 241, 242, 243, 244, 245, 246, 252, 253, 254, 255, 256, 257, 258, 259, 260, 261, 262, 263, 264, 265] (by decide +kernel) (by decide +kernel)
set_option maxRecDepth 20000 in
theorem gX6_findFailure_X6_carryOut : GoodIn wsX6_findFailure (wsV RX6 342 RX6 yX6_carryOut wsX6_carryOut) := goodIn_app (goodIn_of _ (by decide +kernel)) ggX6_findFailure_X6_carryOut
theorem dX6_findFailure_0 : decode cX6_findFailure 0 = .ok (.iconst 0, 1) := by decide +kernel
theorem dX6_findFailure_1 : decode cX6_findFailure 1 = .ok (.istore_n 1, 1) := by decide +kernel
theorem dX6_findFailure_2 : decode cX6_findFailure 2 = .ok (.iconst 0, 1) := by decide +kernel
theorem dX6_findFailure_3 : decode cX6_findFailure 3 = .ok (.istore_n 2, 1) := by decide +kernel
theorem dX6_findFailure_4 : decode cX6_findFailure 4 = .ok (.iload_n 2, 1) := by decide +kernel
theorem dX6_findFailure_5 : decode cX6_findFailure 5 = .ok (.aload_n 0, 1) := by decide +kernel
theorem dX6_findFailure_6 : decode cX6_findFailure 6 = .ok (.getfield 46, 3) := by decide +kernel
theorem dX6_findFailure_9 : decode cX6_findFailure 9 = .ok (.getfield 268, 3) := by decide +kernel
theorem dX6_findFailure_12 : decode cX6_findFailure 12 = .ok (.if_icmp .ge 49, 3) := by decide +kernel
theorem dX6_findFailure_15 : decode cX6_findFailure 15 = .ok (.aload_n 0, 1) := by decide +kernel
theorem dX6_findFailure_16 : decode cX6_findFailure 16 = .ok (.getfield 46, 3) := by decide +kernel
theorem dX6_findFailure_19 : decode cX6_findFailure 19 = .ok (.iload_n 1, 1) := by decide +kernel
theorem dX6_findFailure_20 : decode cX6_findFailure 20 = .ok (.invokevirtual 332, 3) := by decide +kernel
theorem dX6_findFailure_23 : decode cX6_findFailure 23 = .ok (.istore_n 3, 1) := by decide +kernel
theorem dX6_findFailure_24 : decode cX6_findFailure 24 = .ok (.iload_n 3, 1) := by decide +kernel
theorem dX6_findFailure_25 : decode cX6_findFailure 25 = .ok (.ifCond .lt 24, 3) := by decide +kernel
theorem dX6_findFailure_28 : decode cX6_findFailure 28 = .ok (.aload_n 0, 1) := by decide +kernel
theorem dX6_findFailure_29 : decode cX6_findFailure 29 = .ok (.aload_n 0, 1) := by decide +kernel
theorem dX6_findFailure_30 : decode cX6_findFailure 30 = .ok (.getfield 46, 3) := by decide +kernel
theorem dX6_findFailure_33 : decode cX6_findFailure 33 = .ok (.getfield 335, 3) := by decide +kernel
theorem dX6_findFailure_36 : decode cX6_findFailure 36 = .ok (.aload_n 0, 1) := by decide +kernel
theorem dX6_findFailure_37 : decode cX6_findFailure 37 = .ok (.getfield 46, 3) := by decide +kernel
theorem dX6_findFailure_40 : decode cX6_findFailure 40 = .ok (.getfield 339, 3) := by decide +kernel
theorem dX6_findFailure_43 : decode cX6_findFailure 43 = .ok (.invokevirtual 342, 3) := by decide +kernel
theorem dX6_findFailure_46 : decode cX6_findFailure 46 = .ok (.ifCond .ge 5, 3) := by decide +kernel
theorem dX6_findFailure_49 : decode cX6_findFailure 49 = .ok (.iload_n 2, 1) := by decide +kernel
theorem dX6_findFailure_50 : decode cX6_findFailure 50 = .ok (.ireturn, 1) := by decide +kernel
theorem dX6_findFailure_51 : decode cX6_findFailure 51 = .ok (.iload_n 3, 1) := by decide +kernel
theorem dX6_findFailure_52 : decode cX6_findFailure 52 = .ok (.iconst 1, 1) := by decide +kernel
theorem dX6_findFailure_53 : decode cX6_findFailure 53 = .ok (.iadd, 1) := by decide +kernel
theorem dX6_findFailure_54 : decode cX6_findFailure 54 = .ok (.istore_n 1, 1) := by decide +kernel
theorem dX6_findFailure_55 : decode cX6_findFailure 55 = .ok (.iinc 2 1, 3) := by decide +kernel
theorem dX6_findFailure_58 : decode cX6_findFailure 58 = .ok (.goto (-54), 3) := by decide +kernel
theorem dX6_findFailure_61 : decode cX6_findFailure 61 = .ok (.iconst (-1), 1) := by decide +kernel
theorem dX6_findFailure_62 : decode cX6_findFailure 62 = .ok (.ireturn, 1) := by decide +kernel
set_option maxRecDepth 20000 in
theorem ggX6_carryOut_Jx29ce0_ordinal_8abf5 : GoodIn wsX6_carryOut wsJx29ce0_ordinal_8abf5 := goodIn_r _ [9, 10] (by decide +kernel) (by decide +kernel)
set_option maxRecDepth 20000 in
theorem gX6_carryOut_Jx29ce0_ordinal_8abf5_u351X2 : GoodIn wsX6_carryOut (va_wsU RX6 351 RX2 "java/lang/Enum" ⟨"BrambleShift$Command", "ordinal", "()I"⟩ yJx29ce0_ordinal_8abf5 wsJx29ce0_ordinal_8abf5) := goodIn_app (goodIn_of _ (by decide +kernel)) ggX6_carryOut_Jx29ce0_ordinal_8abf5
set_option maxRecDepth 20000 in
theorem ggX6_carryOut_X1_replaceOpenings : GoodIn wsX6_carryOut wsX1_replaceOpenings := goodIn_r _ [15, 16, 17, 18, 19, 163, 164, 165, 166, 167, 168, 169, 170, 171] (by decide +kernel) (by decide +kernel)
set_option maxRecDepth 20000 in
theorem gX6_carryOut_X1_replaceOpenings : GoodIn wsX6_carryOut (wsV RX6 68 RX1 yX1_replaceOpenings wsX1_replaceOpenings) := goodIn_app (goodIn_of _ (by decide +kernel)) ggX6_carryOut_X1_replaceOpenings
set_option maxRecDepth 20000 in
theorem ggX6_carryOut_X1_turnOpenings : GoodIn wsX6_carryOut wsX1_turnOpenings := goodIn_r _ [23, 16, 17, 18, 19, 24, 25, 26, 14, 27, 28, 163, 164, 165, 166, 167, 168, 169, 170, 171] (by decide +kernel) (by decide +kernel)
set_option maxRecDepth 20000 in
theorem gX6_carryOut_X1_turnOpenings : GoodIn wsX6_carryOut (wsV RX6 76 RX1 yX1_turnOpenings wsX1_turnOpenings) := goodIn_app (goodIn_of _ (by decide +kernel)) ggX6_carryOut_X1_turnOpenings
set_option maxRecDepth 20000 in
theorem ggX6_carryOut_X1_fixTile : GoodIn wsX6_carryOut wsX1_fixTile := goodIn_r _ [32, 28, 17, 18, 19, 24, 25, 26, 14, 27, 33, 34, 35, 36, 37, 38, 39, 163, 164, 165, 166, 167, 168, 169, 170, 171] (by decide +kernel) (by decide +kernel)
set_option maxRecDepth 20000 in
theorem gX6_carryOut_X1_fixTile : GoodIn wsX6_carryOut (wsV RX6 79 RX1 yX1_fixTile wsX1_fixTile) := goodIn_app (goodIn_of _ (by decide +kernel)) ggX6_carryOut_X1_fixTile
set_option maxRecDepth 20000 in
theorem ggX6_carryOut_X1_freeTile : GoodIn wsX6_carryOut wsX1_freeTile := goodIn_r _ [43, 28, 17, 18, 19, 24, 25, 26, 14, 27, 33, 34, 35, 36, 37, 38, 39, 163, 164, 165, 166, 167, 168, 169, 170, 171] (by decide +kernel) (by decide +kernel)
set_option maxRecDepth 20000 in
theorem gX6_carryOut_X1_freeTile : GoodIn wsX6_carryOut (wsV RX6 83 RX1 yX1_freeTile wsX1_freeTile) := goodIn_app (goodIn_of _ (by decide +kernel)) ggX6_carryOut_X1_freeTile
set_option maxRecDepth 20000 in
theorem ggX6_carryOut_X1_moveRow : GoodIn wsX6_carryOut wsX1_moveRow := goodIn_r _ [47, 17, 18, 19, 48, 49, 50, 14, 51, 52, 53, 54, 55, 56, 24, 25, 26, 27, 28, 57, 58, 59, 60, 16, 61, 62, 63, 64, 65, 66, 67, 68, 69, 70, 71, 72, 73, 74, 75, 76, 77, 78, 79, 80, 163, 164, 165, 166, 167, 168, 169, 170, 171] (by decide +kernel) (by decide +kernel)
set_option maxRecDepth 20000 in
theorem gX6_carryOut_X1_moveRow : GoodIn wsX6_carryOut (wsV RX6 86 RX1 yX1_moveRow wsX1_moveRow) := goodIn_app (goodIn_of _ (by decide +kernel)) ggX6_carryOut_X1_moveRow
set_option maxRecDepth 20000 in
theorem ggX6_carryOut_X1_moveColumn : GoodIn wsX6_carryOut wsX1_moveColumn := goodIn_r _ [84, 17, 18, 19, 48, 49, 50, 14, 51, 52, 53, 54, 55, 56, 24, 25, 26, 27, 28, 57, 58, 59, 60, 16, 61, 62, 63, 64, 65, 66, 67, 68, 69, 70, 71, 72, 73, 74, 75, 76, 77, 78, 79, 80, 163, 164, 165, 166, 167, 168, 169, 170, 171] (by decide +kernel) (by decide +kernel)
set_option maxRecDepth 20000 in
theorem gX6_carryOut_X1_moveColumn : GoodIn wsX6_carryOut (wsV RX6 89 RX1 yX1_moveColumn wsX1_moveColumn) := goodIn_app (goodIn_of _ (by decide +kernel)) ggX6_carryOut_X1_moveColumn
set_option maxRecDepth 20000 in
theorem ggX6_carryOut_X1_layKey : GoodIn wsX6_carryOut wsX1_layKey := goodIn_r _ [88, 62, 89, 18, 90, 17, 19, 91, 92, 93, 14, 94, 163, 164, 165, 166, 167, 168, 169, 170, 171] (by decide +kernel) (by decide +kernel)
set_option maxRecDepth 20000 in
theorem gX6_carryOut_X1_layKey : GoodIn wsX6_carryOut (wsV RX6 92 RX1 yX1_layKey wsX1_layKey) := goodIn_app (goodIn_of _ (by decide +kernel)) ggX6_carryOut_X1_layKey
set_option maxRecDepth 20000 in
theorem ggX6_carryOut_X1_hangLock : GoodIn wsX6_carryOut wsX1_hangLock := goodIn_r _ [98, 61, 17, 18, 19, 89, 90, 99, 100, 101, 14, 102, 163, 164, 165, 166, 167, 168, 169, 170, 171] (by decide +kernel) (by decide +kernel)
set_option maxRecDepth 20000 in
theorem gX6_carryOut_X1_hangLock : GoodIn wsX6_carryOut (wsV RX6 96 RX1 yX1_hangLock wsX1_hangLock) := goodIn_app (goodIn_of _ (by decide +kernel)) ggX6_carryOut_X1_hangLock
set_option maxRecDepth 20000 in
theorem ggX6_carryOut_X1_takeLock : GoodIn wsX6_carryOut wsX1_takeLock := goodIn_r _ [106, 61, 17, 18, 19, 107, 108, 163, 164, 165, 166, 167, 168, 169, 170, 171] (by decide +kernel) (by decide +kernel)
set_option maxRecDepth 20000 in
theorem gX6_carryOut_X1_takeLock : GoodIn wsX6_carryOut (wsV RX6 100 RX1 yX1_takeLock wsX1_takeLock) := goodIn_app (goodIn_of _ (by decide +kernel)) ggX6_carryOut_X1_takeLock
set_option maxRecDepth 20000 in
theorem ggX6_carryOut_X1_enterWalker : GoodIn wsX6_carryOut wsX1_enterWalker := goodIn_r _ [112, 63, 61, 17, 18, 19, 113, 114, 115, 14, 116, 64, 62, 163, 164, 165, 166, 167, 168, 169, 170, 171] (by decide +kernel) (by decide +kernel)
set_option maxRecDepth 20000 in
theorem gX6_carryOut_X1_enterWalker : GoodIn wsX6_carryOut (wsV RX6 103 RX1 yX1_enterWalker wsX1_enterWalker) := goodIn_app (goodIn_of _ (by decide +kernel)) ggX6_carryOut_X1_enterWalker
set_option maxRecDepth 20000 in
theorem ggX6_carryOut_X1_moveWalker : GoodIn wsX6_carryOut wsX1_moveWalker := goodIn_r _ [120, 64, 121, 122, 123, 124, 125, 14, 126, 63, 17, 18, 19, 127, 128, 129, 130, 131, 132, 133, 134, 135, 136, 137, 138, 139, 140, 141, 142, 143, 16, 144, 145, 146, 147, 148, 149, 150, 61, 62, 113, 114, 115, 116, 163, 164, 165, 166, 167, 168, 169, 170, 171, 172, 173, 174, 175, 176] (by decide +kernel) (by decide +kernel)
set_option maxRecDepth 20000 in
theorem gX6_carryOut_X1_moveWalker : GoodIn wsX6_carryOut (wsV RX6 106 RX1 yX1_moveWalker wsX1_moveWalker) := goodIn_app (goodIn_of _ (by decide +kernel)) ggX6_carryOut_X1_moveWalker
theorem dX6_carryOut_0 : decode cX6_carryOut 0 = .ok (.aload_n 2, 1) := by decide +kernel
theorem dX6_carryOut_1 : decode cX6_carryOut 1 = .ok (.iconst 0, 1) := by decide +kernel
theorem dX6_carryOut_2 : decode cX6_carryOut 2 = .ok (.iaload, 1) := by decide +kernel
theorem dX6_carryOut_3 : decode cX6_carryOut 3 = .ok (.istore_n 3, 1) := by decide +kernel
theorem dX6_carryOut_4 : decode cX6_carryOut 4 = .ok (.aload_n 2, 1) := by decide +kernel
theorem dX6_carryOut_5 : decode cX6_carryOut 5 = .ok (.iconst 1, 1) := by decide +kernel
theorem dX6_carryOut_6 : decode cX6_carryOut 6 = .ok (.iaload, 1) := by decide +kernel
theorem dX6_carryOut_7 : decode cX6_carryOut 7 = .ok (.istore 4, 2) := by decide +kernel
theorem dX6_carryOut_9 : decode cX6_carryOut 9 = .ok (.aload_n 2, 1) := by decide +kernel
theorem dX6_carryOut_10 : decode cX6_carryOut 10 = .ok (.iconst 2, 1) := by decide +kernel
theorem dX6_carryOut_11 : decode cX6_carryOut 11 = .ok (.iaload, 1) := by decide +kernel
theorem dX6_carryOut_12 : decode cX6_carryOut 12 = .ok (.istore 5, 2) := by decide +kernel
theorem dX6_carryOut_14 : decode cX6_carryOut 14 = .ok (.getstatic 346, 3) := by decide +kernel
theorem dX6_carryOut_17 : decode cX6_carryOut 17 = .ok (.aload_n 1, 1) := by decide +kernel
theorem dX6_carryOut_18 : decode cX6_carryOut 18 = .ok (.invokevirtual 351, 3) := by decide +kernel
theorem dX6_carryOut_21 : decode cX6_carryOut 21 = .ok (.iaload, 1) := by decide +kernel
theorem dX6_carryOut_22 : decode cX6_carryOut 22 = .ok (.tableswitch 180 1 10 #[54, 67, 80, 91, 102, 116, 130, 144, 158, 169], 54) := by decide +kernel
theorem dX6_carryOut_76 : decode cX6_carryOut 76 = .ok (.aload_n 0, 1) := by decide +kernel
theorem dX6_carryOut_77 : decode cX6_carryOut 77 = .ok (.getfield 12, 3) := by decide +kernel
theorem dX6_carryOut_80 : decode cX6_carryOut 80 = .ok (.iload_n 3, 1) := by decide +kernel
theorem dX6_carryOut_81 : decode cX6_carryOut 81 = .ok (.iload 4, 2) := by decide +kernel
theorem dX6_carryOut_83 : decode cX6_carryOut 83 = .ok (.iload 5, 2) := by decide +kernel
theorem dX6_carryOut_85 : decode cX6_carryOut 85 = .ok (.invokevirtual 68, 3) := by decide +kernel
theorem dX6_carryOut_88 : decode cX6_carryOut 88 = .ok (.ireturn, 1) := by decide +kernel
theorem dX6_carryOut_89 : decode cX6_carryOut 89 = .ok (.aload_n 0, 1) := by decide +kernel
theorem dX6_carryOut_90 : decode cX6_carryOut 90 = .ok (.getfield 12, 3) := by decide +kernel
theorem dX6_carryOut_93 : decode cX6_carryOut 93 = .ok (.iload_n 3, 1) := by decide +kernel
theorem dX6_carryOut_94 : decode cX6_carryOut 94 = .ok (.iload 4, 2) := by decide +kernel
theorem dX6_carryOut_96 : decode cX6_carryOut 96 = .ok (.iload 5, 2) := by decide +kernel
theorem dX6_carryOut_98 : decode cX6_carryOut 98 = .ok (.invokevirtual 76, 3) := by decide +kernel
theorem dX6_carryOut_101 : decode cX6_carryOut 101 = .ok (.ireturn, 1) := by decide +kernel
theorem dX6_carryOut_102 : decode cX6_carryOut 102 = .ok (.aload_n 0, 1) := by decide +kernel
theorem dX6_carryOut_103 : decode cX6_carryOut 103 = .ok (.getfield 12, 3) := by decide +kernel
theorem dX6_carryOut_106 : decode cX6_carryOut 106 = .ok (.iload_n 3, 1) := by decide +kernel
theorem dX6_carryOut_107 : decode cX6_carryOut 107 = .ok (.iload 4, 2) := by decide +kernel
theorem dX6_carryOut_109 : decode cX6_carryOut 109 = .ok (.invokevirtual 79, 3) := by decide +kernel
theorem dX6_carryOut_112 : decode cX6_carryOut 112 = .ok (.ireturn, 1) := by decide +kernel
theorem dX6_carryOut_113 : decode cX6_carryOut 113 = .ok (.aload_n 0, 1) := by decide +kernel
theorem dX6_carryOut_114 : decode cX6_carryOut 114 = .ok (.getfield 12, 3) := by decide +kernel
theorem dX6_carryOut_117 : decode cX6_carryOut 117 = .ok (.iload_n 3, 1) := by decide +kernel
theorem dX6_carryOut_118 : decode cX6_carryOut 118 = .ok (.iload 4, 2) := by decide +kernel
theorem dX6_carryOut_120 : decode cX6_carryOut 120 = .ok (.invokevirtual 83, 3) := by decide +kernel
theorem dX6_carryOut_123 : decode cX6_carryOut 123 = .ok (.ireturn, 1) := by decide +kernel
theorem dX6_carryOut_124 : decode cX6_carryOut 124 = .ok (.aload_n 0, 1) := by decide +kernel
theorem dX6_carryOut_125 : decode cX6_carryOut 125 = .ok (.getfield 12, 3) := by decide +kernel
theorem dX6_carryOut_128 : decode cX6_carryOut 128 = .ok (.iload_n 3, 1) := by decide +kernel
theorem dX6_carryOut_129 : decode cX6_carryOut 129 = .ok (.iload 4, 2) := by decide +kernel
theorem dX6_carryOut_131 : decode cX6_carryOut 131 = .ok (.iload 5, 2) := by decide +kernel
theorem dX6_carryOut_133 : decode cX6_carryOut 133 = .ok (.imul, 1) := by decide +kernel
theorem dX6_carryOut_134 : decode cX6_carryOut 134 = .ok (.invokevirtual 86, 3) := by decide +kernel
theorem dX6_carryOut_137 : decode cX6_carryOut 137 = .ok (.ireturn, 1) := by decide +kernel
theorem dX6_carryOut_138 : decode cX6_carryOut 138 = .ok (.aload_n 0, 1) := by decide +kernel
theorem dX6_carryOut_139 : decode cX6_carryOut 139 = .ok (.getfield 12, 3) := by decide +kernel
theorem dX6_carryOut_142 : decode cX6_carryOut 142 = .ok (.iload_n 3, 1) := by decide +kernel
theorem dX6_carryOut_143 : decode cX6_carryOut 143 = .ok (.iload 4, 2) := by decide +kernel
theorem dX6_carryOut_145 : decode cX6_carryOut 145 = .ok (.iload 5, 2) := by decide +kernel
theorem dX6_carryOut_147 : decode cX6_carryOut 147 = .ok (.imul, 1) := by decide +kernel
theorem dX6_carryOut_148 : decode cX6_carryOut 148 = .ok (.invokevirtual 89, 3) := by decide +kernel
theorem dX6_carryOut_151 : decode cX6_carryOut 151 = .ok (.ireturn, 1) := by decide +kernel
theorem dX6_carryOut_152 : decode cX6_carryOut 152 = .ok (.aload_n 0, 1) := by decide +kernel
theorem dX6_carryOut_153 : decode cX6_carryOut 153 = .ok (.getfield 12, 3) := by decide +kernel
theorem dX6_carryOut_156 : decode cX6_carryOut 156 = .ok (.iload_n 3, 1) := by decide +kernel
theorem dX6_carryOut_157 : decode cX6_carryOut 157 = .ok (.i2c, 1) := by decide +kernel
theorem dX6_carryOut_158 : decode cX6_carryOut 158 = .ok (.iload 4, 2) := by decide +kernel
theorem dX6_carryOut_160 : decode cX6_carryOut 160 = .ok (.iload 5, 2) := by decide +kernel
theorem dX6_carryOut_162 : decode cX6_carryOut 162 = .ok (.invokevirtual 92, 3) := by decide +kernel
theorem dX6_carryOut_165 : decode cX6_carryOut 165 = .ok (.ireturn, 1) := by decide +kernel
theorem dX6_carryOut_166 : decode cX6_carryOut 166 = .ok (.aload_n 0, 1) := by decide +kernel
theorem dX6_carryOut_167 : decode cX6_carryOut 167 = .ok (.getfield 12, 3) := by decide +kernel
theorem dX6_carryOut_170 : decode cX6_carryOut 170 = .ok (.iload_n 3, 1) := by decide +kernel
theorem dX6_carryOut_171 : decode cX6_carryOut 171 = .ok (.iload 4, 2) := by decide +kernel
theorem dX6_carryOut_173 : decode cX6_carryOut 173 = .ok (.iload 5, 2) := by decide +kernel
theorem dX6_carryOut_175 : decode cX6_carryOut 175 = .ok (.i2c, 1) := by decide +kernel
theorem dX6_carryOut_176 : decode cX6_carryOut 176 = .ok (.invokevirtual 96, 3) := by decide +kernel
theorem dX6_carryOut_179 : decode cX6_carryOut 179 = .ok (.ireturn, 1) := by decide +kernel
theorem dX6_carryOut_180 : decode cX6_carryOut 180 = .ok (.aload_n 0, 1) := by decide +kernel
theorem dX6_carryOut_181 : decode cX6_carryOut 181 = .ok (.getfield 12, 3) := by decide +kernel
theorem dX6_carryOut_184 : decode cX6_carryOut 184 = .ok (.iload_n 3, 1) := by decide +kernel
theorem dX6_carryOut_185 : decode cX6_carryOut 185 = .ok (.iload 4, 2) := by decide +kernel
theorem dX6_carryOut_187 : decode cX6_carryOut 187 = .ok (.invokevirtual 100, 3) := by decide +kernel
theorem dX6_carryOut_190 : decode cX6_carryOut 190 = .ok (.ireturn, 1) := by decide +kernel
theorem dX6_carryOut_191 : decode cX6_carryOut 191 = .ok (.aload_n 0, 1) := by decide +kernel
theorem dX6_carryOut_192 : decode cX6_carryOut 192 = .ok (.getfield 12, 3) := by decide +kernel
theorem dX6_carryOut_195 : decode cX6_carryOut 195 = .ok (.iload_n 3, 1) := by decide +kernel
theorem dX6_carryOut_196 : decode cX6_carryOut 196 = .ok (.iload 4, 2) := by decide +kernel
theorem dX6_carryOut_198 : decode cX6_carryOut 198 = .ok (.invokevirtual 103, 3) := by decide +kernel
theorem dX6_carryOut_201 : decode cX6_carryOut 201 = .ok (.ireturn, 1) := by decide +kernel
theorem dX6_carryOut_202 : decode cX6_carryOut 202 = .ok (.aload_n 0, 1) := by decide +kernel
theorem dX6_carryOut_203 : decode cX6_carryOut 203 = .ok (.getfield 12, 3) := by decide +kernel
theorem dX6_carryOut_206 : decode cX6_carryOut 206 = .ok (.aload_n 0, 1) := by decide +kernel
theorem dX6_carryOut_207 : decode cX6_carryOut 207 = .ok (.getfield 39, 3) := by decide +kernel
theorem dX6_carryOut_210 : decode cX6_carryOut 210 = .ok (.iload_n 3, 1) := by decide +kernel
theorem dX6_carryOut_211 : decode cX6_carryOut 211 = .ok (.iload 4, 2) := by decide +kernel
theorem dX6_carryOut_213 : decode cX6_carryOut 213 = .ok (.iload 5, 2) := by decide +kernel
theorem dX6_carryOut_215 : decode cX6_carryOut 215 = .ok (.invokevirtual 106, 3) := by decide +kernel
theorem dX6_carryOut_218 : decode cX6_carryOut 218 = .ok (.ireturn, 1) := by decide +kernel
set_option maxRecDepth 20000 in
theorem ggX6_writeTile_X6_write : GoodIn wsX6_writeTile wsX6_write := goodIn_r _ [9, 10, 11, 27, 28, 29, 30, 31, 32, 33, 34, 35, 36, 37, 38] (by decide +kernel) (by decide +kernel)
set_option maxRecDepth 20000 in
theorem gX6_writeTile_X6_write : GoodIn wsX6_writeTile (wsV RX6 275 RX6 yX6_write wsX6_write) := goodIn_app (goodIn_of _ (by decide +kernel)) ggX6_writeTile_X6_write
set_option maxRecDepth 20000 in
theorem ggX6_writeTile_X1_isFixed : GoodIn wsX6_writeTile wsX1_isFixed := goodIn_r _ [16, 17, 39, 40, 41, 42, 43, 44, 45, 46, 47] (by decide +kernel) (by decide +kernel)
set_option maxRecDepth 20000 in
theorem gX6_writeTile_X1_isFixed : GoodIn wsX6_writeTile (wsV RX6 117 RX1 yX1_isFixed wsX1_isFixed) := goodIn_app (goodIn_of _ (by decide +kernel)) ggX6_writeTile_X1_isFixed
set_option maxRecDepth 20000 in
theorem ggX6_writeTile_X6_keyName : GoodIn wsX6_writeTile wsX6_keyName := goodIn_r _ [20] (by decide +kernel) (by decide +kernel)
set_option maxRecDepth 20000 in
theorem gX6_writeTile_X6_keyName : GoodIn wsX6_writeTile (va_wsS RX6 138 yX6_keyName wsX6_keyName) := goodIn_app (goodIn_of _ (by decide +kernel)) ggX6_writeTile_X6_keyName
set_option maxRecDepth 20000 in
theorem ggX6_writeTile_X1_countWalkers : GoodIn wsX6_writeTile wsX1_countWalkers := goodIn_r _ [24, 25, 26, 39, 40, 41, 42, 43, 44, 45, 46, 47] (by decide +kernel) (by decide +kernel)
set_option maxRecDepth 20000 in
theorem gX6_writeTile_X1_countWalkers : GoodIn wsX6_writeTile (wsV RX6 356 RX1 yX1_countWalkers wsX1_countWalkers) := goodIn_app (goodIn_of _ (by decide +kernel)) ggX6_writeTile_X1_countWalkers
theorem dX6_writeTile_0 : decode cX6_writeTile 0 = .ok (.aload_n 0, 1) := by decide +kernel
theorem dX6_writeTile_1 : decode cX6_writeTile 1 = .ok (.getfield 12, 3) := by decide +kernel
theorem dX6_writeTile_4 : decode cX6_writeTile 4 = .ok (.getfield 110, 3) := by decide +kernel
theorem dX6_writeTile_7 : decode cX6_writeTile 7 = .ok (.iload_n 1, 1) := by decide +kernel
theorem dX6_writeTile_8 : decode cX6_writeTile 8 = .ok (.iaload, 1) := by decide +kernel
theorem dX6_writeTile_9 : decode cX6_writeTile 9 = .ok (.istore_n 2, 1) := by decide +kernel
theorem dX6_writeTile_10 : decode cX6_writeTile 10 = .ok (.aload_n 0, 1) := by decide +kernel
theorem dX6_writeTile_11 : decode cX6_writeTile 11 = .ok (.iload_n 2, 1) := by decide +kernel
theorem dX6_writeTile_12 : decode cX6_writeTile 12 = .ok (.bipush 10, 2) := by decide +kernel
theorem dX6_writeTile_14 : decode cX6_writeTile 14 = .ok (.if_icmp .ge 10, 3) := by decide +kernel
theorem dX6_writeTile_17 : decode cX6_writeTile 17 = .ok (.bipush 48, 2) := by decide +kernel
theorem dX6_writeTile_19 : decode cX6_writeTile 19 = .ok (.iload_n 2, 1) := by decide +kernel
theorem dX6_writeTile_20 : decode cX6_writeTile 20 = .ok (.iadd, 1) := by decide +kernel
theorem dX6_writeTile_21 : decode cX6_writeTile 21 = .ok (.goto 10, 3) := by decide +kernel
theorem dX6_writeTile_24 : decode cX6_writeTile 24 = .ok (.bipush 65, 2) := by decide +kernel
theorem dX6_writeTile_26 : decode cX6_writeTile 26 = .ok (.iload_n 2, 1) := by decide +kernel
theorem dX6_writeTile_27 : decode cX6_writeTile 27 = .ok (.iadd, 1) := by decide +kernel
theorem dX6_writeTile_28 : decode cX6_writeTile 28 = .ok (.bipush 10, 2) := by decide +kernel
theorem dX6_writeTile_30 : decode cX6_writeTile 30 = .ok (.isub, 1) := by decide +kernel
theorem dX6_writeTile_31 : decode cX6_writeTile 31 = .ok (.i2c, 1) := by decide +kernel
theorem dX6_writeTile_32 : decode cX6_writeTile 32 = .ok (.invokevirtual 275, 3) := by decide +kernel
theorem dX6_writeTile_35 : decode cX6_writeTile 35 = .ok (.aload_n 0, 1) := by decide +kernel
theorem dX6_writeTile_36 : decode cX6_writeTile 36 = .ok (.getfield 12, 3) := by decide +kernel
theorem dX6_writeTile_39 : decode cX6_writeTile 39 = .ok (.iload_n 1, 1) := by decide +kernel
theorem dX6_writeTile_40 : decode cX6_writeTile 40 = .ok (.invokevirtual 117, 3) := by decide +kernel
theorem dX6_writeTile_43 : decode cX6_writeTile 43 = .ok (.ifCond .eq 9, 3) := by decide +kernel
theorem dX6_writeTile_46 : decode cX6_writeTile 46 = .ok (.aload_n 0, 1) := by decide +kernel
theorem dX6_writeTile_47 : decode cX6_writeTile 47 = .ok (.bipush 42, 2) := by decide +kernel
theorem dX6_writeTile_49 : decode cX6_writeTile 49 = .ok (.invokevirtual 275, 3) := by decide +kernel
theorem dX6_writeTile_52 : decode cX6_writeTile 52 = .ok (.aload_n 0, 1) := by decide +kernel
theorem dX6_writeTile_53 : decode cX6_writeTile 53 = .ok (.getfield 12, 3) := by decide +kernel
theorem dX6_writeTile_56 : decode cX6_writeTile 56 = .ok (.getfield 128, 3) := by decide +kernel
theorem dX6_writeTile_59 : decode cX6_writeTile 59 = .ok (.iload_n 1, 1) := by decide +kernel
theorem dX6_writeTile_60 : decode cX6_writeTile 60 = .ok (.iaload, 1) := by decide +kernel
theorem dX6_writeTile_61 : decode cX6_writeTile 61 = .ok (.iconst (-1), 1) := by decide +kernel
theorem dX6_writeTile_62 : decode cX6_writeTile 62 = .ok (.if_icmp .eq 25, 3) := by decide +kernel
theorem dX6_writeTile_65 : decode cX6_writeTile 65 = .ok (.aload_n 0, 1) := by decide +kernel
theorem dX6_writeTile_66 : decode cX6_writeTile 66 = .ok (.bipush 35, 2) := by decide +kernel
theorem dX6_writeTile_68 : decode cX6_writeTile 68 = .ok (.invokevirtual 275, 3) := by decide +kernel
theorem dX6_writeTile_71 : decode cX6_writeTile 71 = .ok (.aload_n 0, 1) := by decide +kernel
theorem dX6_writeTile_72 : decode cX6_writeTile 72 = .ok (.aload_n 0, 1) := by decide +kernel
theorem dX6_writeTile_73 : decode cX6_writeTile 73 = .ok (.getfield 12, 3) := by decide +kernel
theorem dX6_writeTile_76 : decode cX6_writeTile 76 = .ok (.getfield 128, 3) := by decide +kernel
theorem dX6_writeTile_79 : decode cX6_writeTile 79 = .ok (.iload_n 1, 1) := by decide +kernel
theorem dX6_writeTile_80 : decode cX6_writeTile 80 = .ok (.iaload, 1) := by decide +kernel
theorem dX6_writeTile_81 : decode cX6_writeTile 81 = .ok (.invokestatic 138, 3) := by decide +kernel
theorem dX6_writeTile_84 : decode cX6_writeTile 84 = .ok (.invokevirtual 275, 3) := by decide +kernel
theorem dX6_writeTile_87 : decode cX6_writeTile 87 = .ok (.aload_n 0, 1) := by decide +kernel
theorem dX6_writeTile_88 : decode cX6_writeTile 88 = .ok (.getfield 12, 3) := by decide +kernel
theorem dX6_writeTile_91 : decode cX6_writeTile 91 = .ok (.iload_n 1, 1) := by decide +kernel
theorem dX6_writeTile_92 : decode cX6_writeTile 92 = .ok (.invokevirtual 356, 3) := by decide +kernel
theorem dX6_writeTile_95 : decode cX6_writeTile 95 = .ok (.ifCond .le 9, 3) := by decide +kernel
theorem dX6_writeTile_98 : decode cX6_writeTile 98 = .ok (.aload_n 0, 1) := by decide +kernel
theorem dX6_writeTile_99 : decode cX6_writeTile 99 = .ok (.bipush 64, 2) := by decide +kernel
theorem dX6_writeTile_101 : decode cX6_writeTile 101 = .ok (.invokevirtual 275, 3) := by decide +kernel
theorem dX6_writeTile_104 : decode cX6_writeTile 104 = .ok (.iconst 0, 1) := by decide +kernel
theorem dX6_writeTile_105 : decode cX6_writeTile 105 = .ok (.istore_n 3, 1) := by decide +kernel
theorem dX6_writeTile_106 : decode cX6_writeTile 106 = .ok (.iload_n 3, 1) := by decide +kernel
theorem dX6_writeTile_107 : decode cX6_writeTile 107 = .ok (.bipush 6, 2) := by decide +kernel
theorem dX6_writeTile_109 : decode cX6_writeTile 109 = .ok (.if_icmp .ge 30, 3) := by decide +kernel
theorem dX6_writeTile_112 : decode cX6_writeTile 112 = .ok (.aload_n 0, 1) := by decide +kernel
theorem dX6_writeTile_113 : decode cX6_writeTile 113 = .ok (.getfield 12, 3) := by decide +kernel
theorem dX6_writeTile_116 : decode cX6_writeTile 116 = .ok (.getfield 164, 3) := by decide +kernel
theorem dX6_writeTile_119 : decode cX6_writeTile 119 = .ok (.iload_n 3, 1) := by decide +kernel
theorem dX6_writeTile_120 : decode cX6_writeTile 120 = .ok (.iaload, 1) := by decide +kernel
theorem dX6_writeTile_121 : decode cX6_writeTile 121 = .ok (.iload_n 1, 1) := by decide +kernel
theorem dX6_writeTile_122 : decode cX6_writeTile 122 = .ok (.if_icmp .ne 11, 3) := by decide +kernel
theorem dX6_writeTile_125 : decode cX6_writeTile 125 = .ok (.aload_n 0, 1) := by decide +kernel
theorem dX6_writeTile_126 : decode cX6_writeTile 126 = .ok (.iload_n 3, 1) := by decide +kernel
theorem dX6_writeTile_127 : decode cX6_writeTile 127 = .ok (.invokestatic 138, 3) := by decide +kernel
theorem dX6_writeTile_130 : decode cX6_writeTile 130 = .ok (.invokevirtual 275, 3) := by decide +kernel
theorem dX6_writeTile_133 : decode cX6_writeTile 133 = .ok (.iinc 3 1, 3) := by decide +kernel
theorem dX6_writeTile_136 : decode cX6_writeTile 136 = .ok (.goto (-30), 3) := by decide +kernel
theorem dX6_writeTile_139 : decode cX6_writeTile 139 = .ok (.return_, 1) := by decide +kernel
theorem dX6_write_0 : decode cX6_write 0 = .ok (.aload_n 0, 1) := by decide +kernel
theorem dX6_write_1 : decode cX6_write 1 = .ok (.getfield 61, 3) := by decide +kernel
theorem dX6_write_4 : decode cX6_write 4 = .ok (.bipush 35, 2) := by decide +kernel
theorem dX6_write_6 : decode cX6_write 6 = .ok (.if_icmp .ge 23, 3) := by decide +kernel
theorem dX6_write_9 : decode cX6_write 9 = .ok (.aload_n 0, 1) := by decide +kernel
theorem dX6_write_10 : decode cX6_write 10 = .ok (.getfield 57, 3) := by decide +kernel
theorem dX6_write_13 : decode cX6_write 13 = .ok (.aload_n 0, 1) := by decide +kernel
theorem dX6_write_14 : decode cX6_write 14 = .ok (.getfield 61, 3) := by decide +kernel
theorem dX6_write_17 : decode cX6_write 17 = .ok (.iload_n 1, 1) := by decide +kernel
theorem dX6_write_18 : decode cX6_write 18 = .ok (.castore, 1) := by decide +kernel
theorem dX6_write_19 : decode cX6_write 19 = .ok (.aload_n 0, 1) := by decide +kernel
theorem dX6_write_20 : decode cX6_write 20 = .ok (.dup, 1) := by decide +kernel
theorem dX6_write_21 : decode cX6_write 21 = .ok (.getfield 61, 3) := by decide +kernel
theorem dX6_write_24 : decode cX6_write 24 = .ok (.iconst 1, 1) := by decide +kernel
theorem dX6_write_25 : decode cX6_write 25 = .ok (.iadd, 1) := by decide +kernel
theorem dX6_write_26 : decode cX6_write 26 = .ok (.putfield 61, 3) := by decide +kernel
theorem dX6_write_29 : decode cX6_write 29 = .ok (.return_, 1) := by decide +kernel
set_option maxRecDepth 20000 in
theorem ggX7_init_X7_tileAt : GoodIn wsX7_init wsX7_tileAt := goodIn_r _ [20] (by decide +kernel) (by decide +kernel)
set_option maxRecDepth 20000 in
theorem gX7_init_X7_tileAt : GoodIn wsX7_init (va_wsS RX7 47 yX7_tileAt wsX7_tileAt) := goodIn_app (goodIn_of _ (by decide +kernel)) ggX7_init_X7_tileAt
theorem dX7_init_0 : decode cX7_init 0 = .ok (.aload_n 0, 1) := by decide +kernel
theorem dX7_init_1 : decode cX7_init 1 = .ok (.invokespecial 3, 3) := by decide +kernel
theorem dX7_init_4 : decode cX7_init 4 = .ok (.aload_n 0, 1) := by decide +kernel
theorem dX7_init_5 : decode cX7_init 5 = .ok (.bipush 87, 2) := by decide +kernel
theorem dX7_init_7 : decode cX7_init 7 = .ok (.newarray .int, 2) := by decide +kernel
theorem dX7_init_9 : decode cX7_init 9 = .ok (.putfield 9, 3) := by decide +kernel
theorem dX7_init_12 : decode cX7_init 12 = .ok (.aload_n 0, 1) := by decide +kernel
theorem dX7_init_13 : decode cX7_init 13 = .ok (.bipush 87, 2) := by decide +kernel
theorem dX7_init_15 : decode cX7_init 15 = .ok (.newarray .int, 2) := by decide +kernel
theorem dX7_init_17 : decode cX7_init 17 = .ok (.putfield 13, 3) := by decide +kernel
theorem dX7_init_20 : decode cX7_init 20 = .ok (.aload_n 0, 1) := by decide +kernel
theorem dX7_init_21 : decode cX7_init 21 = .ok (.bipush 87, 2) := by decide +kernel
theorem dX7_init_23 : decode cX7_init 23 = .ok (.newarray .int, 2) := by decide +kernel
theorem dX7_init_25 : decode cX7_init 25 = .ok (.putfield 16, 3) := by decide +kernel
theorem dX7_init_28 : decode cX7_init 28 = .ok (.aload_n 0, 1) := by decide +kernel
theorem dX7_init_29 : decode cX7_init 29 = .ok (.bipush 87, 2) := by decide +kernel
theorem dX7_init_31 : decode cX7_init 31 = .ok (.newarray .int, 2) := by decide +kernel
theorem dX7_init_33 : decode cX7_init 33 = .ok (.putfield 19, 3) := by decide +kernel
theorem dX7_init_36 : decode cX7_init 36 = .ok (.aload_n 0, 1) := by decide +kernel
theorem dX7_init_37 : decode cX7_init 37 = .ok (.sipush 696, 3) := by decide +kernel
theorem dX7_init_40 : decode cX7_init 40 = .ok (.newarray .int, 2) := by decide +kernel
theorem dX7_init_42 : decode cX7_init 42 = .ok (.putfield 22, 3) := by decide +kernel
theorem dX7_init_45 : decode cX7_init 45 = .ok (.aload_n 0, 1) := by decide +kernel
theorem dX7_init_46 : decode cX7_init 46 = .ok (.iconst (-1), 1) := by decide +kernel
theorem dX7_init_47 : decode cX7_init 47 = .ok (.putfield 25, 3) := by decide +kernel
theorem dX7_init_50 : decode cX7_init 50 = .ok (.aload_n 0, 1) := by decide +kernel
theorem dX7_init_51 : decode cX7_init 51 = .ok (.iconst (-1), 1) := by decide +kernel
theorem dX7_init_52 : decode cX7_init 52 = .ok (.putfield 29, 3) := by decide +kernel
theorem dX7_init_55 : decode cX7_init 55 = .ok (.aload_n 0, 1) := by decide +kernel
theorem dX7_init_56 : decode cX7_init 56 = .ok (.bipush 15, 2) := by decide +kernel
theorem dX7_init_58 : decode cX7_init 58 = .ok (.newarray .int, 2) := by decide +kernel
theorem dX7_init_60 : decode cX7_init 60 = .ok (.putfield 32, 3) := by decide +kernel
theorem dX7_init_63 : decode cX7_init 63 = .ok (.aload_n 0, 1) := by decide +kernel
theorem dX7_init_64 : decode cX7_init 64 = .ok (.bipush 25, 2) := by decide +kernel
theorem dX7_init_66 : decode cX7_init 66 = .ok (.newarray .int, 2) := by decide +kernel
theorem dX7_init_68 : decode cX7_init 68 = .ok (.putfield 35, 3) := by decide +kernel
theorem dX7_init_71 : decode cX7_init 71 = .ok (.aload_n 0, 1) := by decide +kernel
theorem dX7_init_72 : decode cX7_init 72 = .ok (.bipush 60, 2) := by decide +kernel
theorem dX7_init_74 : decode cX7_init 74 = .ok (.newarray .int, 2) := by decide +kernel
theorem dX7_init_76 : decode cX7_init 76 = .ok (.putfield 38, 3) := by decide +kernel
theorem dX7_init_79 : decode cX7_init 79 = .ok (.aload_n 0, 1) := by decide +kernel
theorem dX7_init_80 : decode cX7_init 80 = .ok (.bipush 80, 2) := by decide +kernel
theorem dX7_init_82 : decode cX7_init 82 = .ok (.newarray .int, 2) := by decide +kernel
theorem dX7_init_84 : decode cX7_init 84 = .ok (.putfield 41, 3) := by decide +kernel
theorem dX7_init_87 : decode cX7_init 87 = .ok (.aload_n 0, 1) := by decide +kernel
theorem dX7_init_88 : decode cX7_init 88 = .ok (.bipush 120, 2) := by decide +kernel
theorem dX7_init_90 : decode cX7_init 90 = .ok (.newarray .int, 2) := by decide +kernel
theorem dX7_init_92 : decode cX7_init 92 = .ok (.putfield 44, 3) := by decide +kernel
theorem dX7_init_95 : decode cX7_init 95 = .ok (.iconst 0, 1) := by decide +kernel
theorem dX7_init_96 : decode cX7_init 96 = .ok (.istore_n 1, 1) := by decide +kernel
theorem dX7_init_97 : decode cX7_init 97 = .ok (.iload_n 1, 1) := by decide +kernel
theorem dX7_init_98 : decode cX7_init 98 = .ok (.bipush 6, 2) := by decide +kernel
theorem dX7_init_100 : decode cX7_init 100 = .ok (.if_icmp .ge 18, 3) := by decide +kernel
theorem dX7_init_103 : decode cX7_init 103 = .ok (.aload_n 0, 1) := by decide +kernel
theorem dX7_init_104 : decode cX7_init 104 = .ok (.getfield 9, 3) := by decide +kernel
theorem dX7_init_107 : decode cX7_init 107 = .ok (.iconst 3, 1) := by decide +kernel
theorem dX7_init_108 : decode cX7_init 108 = .ok (.iload_n 1, 1) := by decide +kernel
theorem dX7_init_109 : decode cX7_init 109 = .ok (.iadd, 1) := by decide +kernel
theorem dX7_init_110 : decode cX7_init 110 = .ok (.iconst (-1), 1) := by decide +kernel
theorem dX7_init_111 : decode cX7_init 111 = .ok (.iastore, 1) := by decide +kernel
theorem dX7_init_112 : decode cX7_init 112 = .ok (.iinc 1 1, 3) := by decide +kernel
theorem dX7_init_115 : decode cX7_init 115 = .ok (.goto (-18), 3) := by decide +kernel
theorem dX7_init_118 : decode cX7_init 118 = .ok (.iconst 0, 1) := by decide +kernel
theorem dX7_init_119 : decode cX7_init 119 = .ok (.istore_n 1, 1) := by decide +kernel
theorem dX7_init_120 : decode cX7_init 120 = .ok (.iload_n 1, 1) := by decide +kernel
theorem dX7_init_121 : decode cX7_init 121 = .ok (.bipush 25, 2) := by decide +kernel
theorem dX7_init_123 : decode cX7_init 123 = .ok (.if_icmp .ge 34, 3) := by decide +kernel
theorem dX7_init_126 : decode cX7_init 126 = .ok (.aload_n 0, 1) := by decide +kernel
theorem dX7_init_127 : decode cX7_init 127 = .ok (.getfield 9, 3) := by decide +kernel
theorem dX7_init_130 : decode cX7_init 130 = .ok (.iload_n 1, 1) := by decide +kernel
theorem dX7_init_131 : decode cX7_init 131 = .ok (.invokestatic 47, 3) := by decide +kernel
theorem dX7_init_134 : decode cX7_init 134 = .ok (.iconst 0, 1) := by decide +kernel
theorem dX7_init_135 : decode cX7_init 135 = .ok (.iadd, 1) := by decide +kernel
theorem dX7_init_136 : decode cX7_init 136 = .ok (.bipush 15, 2) := by decide +kernel
theorem dX7_init_138 : decode cX7_init 138 = .ok (.iastore, 1) := by decide +kernel
theorem dX7_init_139 : decode cX7_init 139 = .ok (.aload_n 0, 1) := by decide +kernel
theorem dX7_init_140 : decode cX7_init 140 = .ok (.getfield 9, 3) := by decide +kernel
theorem dX7_init_143 : decode cX7_init 143 = .ok (.iload_n 1, 1) := by decide +kernel
theorem dX7_init_144 : decode cX7_init 144 = .ok (.invokestatic 47, 3) := by decide +kernel
theorem dX7_init_147 : decode cX7_init 147 = .ok (.iconst 2, 1) := by decide +kernel
theorem dX7_init_148 : decode cX7_init 148 = .ok (.iadd, 1) := by decide +kernel
theorem dX7_init_149 : decode cX7_init 149 = .ok (.iconst (-1), 1) := by decide +kernel
theorem dX7_init_150 : decode cX7_init 150 = .ok (.iastore, 1) := by decide +kernel
theorem dX7_init_151 : decode cX7_init 151 = .ok (.iinc 1 1, 3) := by decide +kernel
theorem dX7_init_154 : decode cX7_init 154 = .ok (.goto (-34), 3) := by decide +kernel
theorem dX7_init_157 : decode cX7_init 157 = .ok (.return_, 1) := by decide +kernel
theorem dX7_thrown_0 : decode cX7_thrown 0 = .ok (.aload_n 0, 1) := by decide +kernel
theorem dX7_thrown_1 : decode cX7_thrown 1 = .ok (.getfield 51, 3) := by decide +kernel
theorem dX7_thrown_4 : decode cX7_thrown 4 = .ok (.ireturn, 1) := by decide +kernel
theorem dX7_isIn_0 : decode cX7_isIn 0 = .ok (.iload_n 0, 1) := by decide +kernel
theorem dX7_isIn_1 : decode cX7_isIn 1 = .ok (.iload_n 1, 1) := by decide +kernel
theorem dX7_isIn_2 : decode cX7_isIn 2 = .ok (.if_icmp .lt 12, 3) := by decide +kernel
theorem dX7_isIn_5 : decode cX7_isIn 5 = .ok (.iload_n 0, 1) := by decide +kernel
theorem dX7_isIn_6 : decode cX7_isIn 6 = .ok (.iload_n 2, 1) := by decide +kernel
theorem dX7_isIn_7 : decode cX7_isIn 7 = .ok (.if_icmp .gt 7, 3) := by decide +kernel
theorem dX7_isIn_10 : decode cX7_isIn 10 = .ok (.iconst 1, 1) := by decide +kernel
theorem dX7_isIn_11 : decode cX7_isIn 11 = .ok (.goto 4, 3) := by decide +kernel
theorem dX7_isIn_14 : decode cX7_isIn 14 = .ok (.iconst 0, 1) := by decide +kernel
theorem dX7_isIn_15 : decode cX7_isIn 15 = .ok (.ireturn, 1) := by decide +kernel
theorem dX7_copies_0 : decode cX7_copies 0 = .ok (.iconst 0, 1) := by decide +kernel
theorem dX7_copies_1 : decode cX7_copies 1 = .ok (.istore 4, 2) := by decide +kernel
theorem dX7_copies_3 : decode cX7_copies 3 = .ok (.iload 4, 2) := by decide +kernel
theorem dX7_copies_5 : decode cX7_copies 5 = .ok (.bipush 87, 2) := by decide +kernel
theorem dX7_copies_7 : decode cX7_copies 7 = .ok (.if_icmp .ge 21, 3) := by decide +kernel
theorem dX7_copies_10 : decode cX7_copies 10 = .ok (.aload_n 2, 1) := by decide +kernel
theorem dX7_copies_11 : decode cX7_copies 11 = .ok (.iload_n 3, 1) := by decide +kernel
theorem dX7_copies_12 : decode cX7_copies 12 = .ok (.iload 4, 2) := by decide +kernel
theorem dX7_copies_14 : decode cX7_copies 14 = .ok (.iadd, 1) := by decide +kernel
theorem dX7_copies_15 : decode cX7_copies 15 = .ok (.aload_n 0, 1) := by decide +kernel
theorem dX7_copies_16 : decode cX7_copies 16 = .ok (.iload_n 1, 1) := by decide +kernel
theorem dX7_copies_17 : decode cX7_copies 17 = .ok (.iload 4, 2) := by decide +kernel
theorem dX7_copies_19 : decode cX7_copies 19 = .ok (.iadd, 1) := by decide +kernel
theorem dX7_copies_20 : decode cX7_copies 20 = .ok (.iaload, 1) := by decide +kernel
theorem dX7_copies_21 : decode cX7_copies 21 = .ok (.iastore, 1) := by decide +kernel
theorem dX7_copies_22 : decode cX7_copies 22 = .ok (.iinc 4 1, 3) := by decide +kernel
theorem dX7_copies_25 : decode cX7_copies 25 = .ok (.goto (-22), 3) := by decide +kernel
theorem dX7_copies_28 : decode cX7_copies 28 = .ok (.return_, 1) := by decide +kernel
theorem dX7_holds_0 : decode cX7_holds 0 = .ok (.aload_n 0, 1) := by decide +kernel
theorem dX7_holds_1 : decode cX7_holds 1 = .ok (.iload_n 1, 1) := by decide +kernel
theorem dX7_holds_2 : decode cX7_holds 2 = .ok (.ifCond .ne 7, 3) := by decide +kernel
theorem dX7_holds_5 : decode cX7_holds 5 = .ok (.iconst 1, 1) := by decide +kernel
theorem dX7_holds_6 : decode cX7_holds 6 = .ok (.goto 20, 3) := by decide +kernel
theorem dX7_holds_9 : decode cX7_holds 9 = .ok (.iload_n 2, 1) := by decide +kernel
theorem dX7_holds_10 : decode cX7_holds 10 = .ok (.ifCond .ne 7, 3) := by decide +kernel
theorem dX7_holds_13 : decode cX7_holds 13 = .ok (.iconst 2, 1) := by decide +kernel
theorem dX7_holds_14 : decode cX7_holds 14 = .ok (.goto 12, 3) := by decide +kernel
theorem dX7_holds_17 : decode cX7_holds 17 = .ok (.iload_n 3, 1) := by decide +kernel
theorem dX7_holds_18 : decode cX7_holds 18 = .ok (.ifCond .ne 7, 3) := by decide +kernel
theorem dX7_holds_21 : decode cX7_holds 21 = .ok (.iconst 3, 1) := by decide +kernel
theorem dX7_holds_22 : decode cX7_holds 22 = .ok (.goto 4, 3) := by decide +kernel
theorem dX7_holds_25 : decode cX7_holds 25 = .ok (.iconst 0, 1) := by decide +kernel
theorem dX7_holds_26 : decode cX7_holds 26 = .ok (.putfield 51, 3) := by decide +kernel
theorem dX7_holds_29 : decode cX7_holds 29 = .ok (.aload_n 0, 1) := by decide +kernel
theorem dX7_holds_30 : decode cX7_holds 30 = .ok (.getfield 51, 3) := by decide +kernel
theorem dX7_holds_33 : decode cX7_holds 33 = .ok (.ifCond .ne 7, 3) := by decide +kernel
theorem dX7_holds_36 : decode cX7_holds 36 = .ok (.iconst 1, 1) := by decide +kernel
theorem dX7_holds_37 : decode cX7_holds 37 = .ok (.goto 4, 3) := by decide +kernel
theorem dX7_holds_40 : decode cX7_holds 40 = .ok (.iconst 0, 1) := by decide +kernel
theorem dX7_holds_41 : decode cX7_holds 41 = .ok (.ireturn, 1) := by decide +kernel
set_option maxRecDepth 20000 in
theorem ggX7_goes_X7_holds : GoodIn wsX7_goes wsX7_holds := goodIn_r _ [5, 6, 7, 8, 9, 10, 11, 12, 13, 14, 15, 16, 17, 18, 19, 20, 21, 22, 23, 24, 25, 26, 27] (by decide +kernel) (by decide +kernel)
set_option maxRecDepth 20000 in
theorem gX7_goes_X7_holds : GoodIn wsX7_goes (wsV RX7 54 RX7 yX7_holds wsX7_holds) := goodIn_app (goodIn_of _ (by decide +kernel)) ggX7_goes_X7_holds
theorem dX7_goes_0 : decode cX7_goes 0 = .ok (.aload_n 0, 1) := by decide +kernel
theorem dX7_goes_1 : decode cX7_goes 1 = .ok (.iload_n 1, 1) := by decide +kernel
theorem dX7_goes_2 : decode cX7_goes 2 = .ok (.iconst 1, 1) := by decide +kernel
theorem dX7_goes_3 : decode cX7_goes 3 = .ok (.iconst 1, 1) := by decide +kernel
theorem dX7_goes_4 : decode cX7_goes 4 = .ok (.invokevirtual 54, 3) := by decide +kernel
theorem dX7_goes_7 : decode cX7_goes 7 = .ok (.ireturn, 1) := by decide +kernel
set_option maxRecDepth 20000 in
theorem ggX7_begins_X7_copies : GoodIn wsX7_begins wsX7_copies := goodIn_r _ [6] (by decide +kernel) (by decide +kernel)
set_option maxRecDepth 20000 in
theorem gX7_begins_X7_copies : GoodIn wsX7_begins (va_wsS RX7 58 yX7_copies wsX7_copies) := goodIn_app (goodIn_of _ (by decide +kernel)) ggX7_begins_X7_copies
theorem dX7_begins_0 : decode cX7_begins 0 = .ok (.aload_n 0, 1) := by decide +kernel
theorem dX7_begins_1 : decode cX7_begins 1 = .ok (.getfield 9, 3) := by decide +kernel
theorem dX7_begins_4 : decode cX7_begins 4 = .ok (.iconst 0, 1) := by decide +kernel
theorem dX7_begins_5 : decode cX7_begins 5 = .ok (.aload_n 0, 1) := by decide +kernel
theorem dX7_begins_6 : decode cX7_begins 6 = .ok (.getfield 13, 3) := by decide +kernel
theorem dX7_begins_9 : decode cX7_begins 9 = .ok (.iconst 0, 1) := by decide +kernel
theorem dX7_begins_10 : decode cX7_begins 10 = .ok (.invokestatic 58, 3) := by decide +kernel
theorem dX7_begins_13 : decode cX7_begins 13 = .ok (.return_, 1) := by decide +kernel
set_option maxRecDepth 20000 in
theorem ggX7_remembers_X7_copies : GoodIn wsX7_remembers wsX7_copies := goodIn_r _ [7] (by decide +kernel) (by decide +kernel)
set_option maxRecDepth 20000 in
theorem gX7_remembers_X7_copies : GoodIn wsX7_remembers (va_wsS RX7 58 yX7_copies wsX7_copies) := goodIn_app (goodIn_of _ (by decide +kernel)) ggX7_remembers_X7_copies
theorem dX7_remembers_0 : decode cX7_remembers 0 = .ok (.aload_n 0, 1) := by decide +kernel
theorem dX7_remembers_1 : decode cX7_remembers 1 = .ok (.getfield 62, 3) := by decide +kernel
theorem dX7_remembers_4 : decode cX7_remembers 4 = .ok (.bipush 8, 2) := by decide +kernel
theorem dX7_remembers_6 : decode cX7_remembers 6 = .ok (.if_icmp .ne 43, 3) := by decide +kernel
theorem dX7_remembers_9 : decode cX7_remembers 9 = .ok (.iconst 0, 1) := by decide +kernel
theorem dX7_remembers_10 : decode cX7_remembers 10 = .ok (.istore_n 1, 1) := by decide +kernel
theorem dX7_remembers_11 : decode cX7_remembers 11 = .ok (.iload_n 1, 1) := by decide +kernel
theorem dX7_remembers_12 : decode cX7_remembers 12 = .ok (.sipush 609, 3) := by decide +kernel
theorem dX7_remembers_15 : decode cX7_remembers 15 = .ok (.if_icmp .ge 24, 3) := by decide +kernel
theorem dX7_remembers_18 : decode cX7_remembers 18 = .ok (.aload_n 0, 1) := by decide +kernel
theorem dX7_remembers_19 : decode cX7_remembers 19 = .ok (.getfield 22, 3) := by decide +kernel
theorem dX7_remembers_22 : decode cX7_remembers 22 = .ok (.iload_n 1, 1) := by decide +kernel
theorem dX7_remembers_23 : decode cX7_remembers 23 = .ok (.aload_n 0, 1) := by decide +kernel
theorem dX7_remembers_24 : decode cX7_remembers 24 = .ok (.getfield 22, 3) := by decide +kernel
theorem dX7_remembers_27 : decode cX7_remembers 27 = .ok (.iload_n 1, 1) := by decide +kernel
theorem dX7_remembers_28 : decode cX7_remembers 28 = .ok (.bipush 87, 2) := by decide +kernel
theorem dX7_remembers_30 : decode cX7_remembers 30 = .ok (.iadd, 1) := by decide +kernel
theorem dX7_remembers_31 : decode cX7_remembers 31 = .ok (.iaload, 1) := by decide +kernel
theorem dX7_remembers_32 : decode cX7_remembers 32 = .ok (.iastore, 1) := by decide +kernel
theorem dX7_remembers_33 : decode cX7_remembers 33 = .ok (.iinc 1 1, 3) := by decide +kernel
theorem dX7_remembers_36 : decode cX7_remembers 36 = .ok (.goto (-25), 3) := by decide +kernel
theorem dX7_remembers_39 : decode cX7_remembers 39 = .ok (.aload_n 0, 1) := by decide +kernel
theorem dX7_remembers_40 : decode cX7_remembers 40 = .ok (.dup, 1) := by decide +kernel
theorem dX7_remembers_41 : decode cX7_remembers 41 = .ok (.getfield 62, 3) := by decide +kernel
theorem dX7_remembers_44 : decode cX7_remembers 44 = .ok (.iconst 1, 1) := by decide +kernel
theorem dX7_remembers_45 : decode cX7_remembers 45 = .ok (.isub, 1) := by decide +kernel
theorem dX7_remembers_46 : decode cX7_remembers 46 = .ok (.putfield 62, 3) := by decide +kernel
theorem dX7_remembers_49 : decode cX7_remembers 49 = .ok (.aload_n 0, 1) := by decide +kernel
theorem dX7_remembers_50 : decode cX7_remembers 50 = .ok (.getfield 13, 3) := by decide +kernel
theorem dX7_remembers_53 : decode cX7_remembers 53 = .ok (.iconst 0, 1) := by decide +kernel
theorem dX7_remembers_54 : decode cX7_remembers 54 = .ok (.aload_n 0, 1) := by decide +kernel
theorem dX7_remembers_55 : decode cX7_remembers 55 = .ok (.getfield 22, 3) := by decide +kernel
theorem dX7_remembers_58 : decode cX7_remembers 58 = .ok (.aload_n 0, 1) := by decide +kernel
theorem dX7_remembers_59 : decode cX7_remembers 59 = .ok (.getfield 62, 3) := by decide +kernel
theorem dX7_remembers_62 : decode cX7_remembers 62 = .ok (.bipush 87, 2) := by decide +kernel
theorem dX7_remembers_64 : decode cX7_remembers 64 = .ok (.imul, 1) := by decide +kernel
theorem dX7_remembers_65 : decode cX7_remembers 65 = .ok (.invokestatic 58, 3) := by decide +kernel
theorem dX7_remembers_68 : decode cX7_remembers 68 = .ok (.aload_n 0, 1) := by decide +kernel
theorem dX7_remembers_69 : decode cX7_remembers 69 = .ok (.dup, 1) := by decide +kernel
theorem dX7_remembers_70 : decode cX7_remembers 70 = .ok (.getfield 62, 3) := by decide +kernel
theorem dX7_remembers_73 : decode cX7_remembers 73 = .ok (.iconst 1, 1) := by decide +kernel
theorem dX7_remembers_74 : decode cX7_remembers 74 = .ok (.iadd, 1) := by decide +kernel
theorem dX7_remembers_75 : decode cX7_remembers 75 = .ok (.putfield 62, 3) := by decide +kernel
theorem dX7_remembers_78 : decode cX7_remembers 78 = .ok (.return_, 1) := by decide +kernel
set_option maxRecDepth 20000 in
theorem ggX7_ends_X7_copies : GoodIn wsX7_ends wsX7_copies := goodIn_r _ [7] (by decide +kernel) (by decide +kernel)
set_option maxRecDepth 20000 in
theorem gX7_ends_X7_copies : GoodIn wsX7_ends (va_wsS RX7 58 yX7_copies wsX7_copies) := goodIn_app (goodIn_of _ (by decide +kernel)) ggX7_ends_X7_copies
set_option maxRecDepth 20000 in
theorem ggX7_ends_X7_remembers : GoodIn wsX7_ends wsX7_remembers := goodIn_r _ [11, 12, 13, 2, 4, 5, 6, 7, 14, 15, 16, 17, 18, 19, 20, 21, 22, 23, 24, 25, 26, 27, 28, 29, 30, 31, 32, 33, 34] (by decide +kernel) (by decide +kernel)
set_option maxRecDepth 20000 in
theorem gX7_ends_X7_remembers : GoodIn wsX7_ends (wsV RX7 65 RX7 yX7_remembers wsX7_remembers) := goodIn_app (goodIn_of _ (by decide +kernel)) ggX7_ends_X7_remembers
theorem dX7_ends_0 : decode cX7_ends 0 = .ok (.aload_n 0, 1) := by decide +kernel
theorem dX7_ends_1 : decode cX7_ends 1 = .ok (.getfield 51, 3) := by decide +kernel
theorem dX7_ends_4 : decode cX7_ends 4 = .ok (.ifCond .eq 18, 3) := by decide +kernel
theorem dX7_ends_7 : decode cX7_ends 7 = .ok (.aload_n 0, 1) := by decide +kernel
theorem dX7_ends_8 : decode cX7_ends 8 = .ok (.getfield 13, 3) := by decide +kernel
theorem dX7_ends_11 : decode cX7_ends 11 = .ok (.iconst 0, 1) := by decide +kernel
theorem dX7_ends_12 : decode cX7_ends 12 = .ok (.aload_n 0, 1) := by decide +kernel
theorem dX7_ends_13 : decode cX7_ends 13 = .ok (.getfield 9, 3) := by decide +kernel
theorem dX7_ends_16 : decode cX7_ends 16 = .ok (.iconst 0, 1) := by decide +kernel
theorem dX7_ends_17 : decode cX7_ends 17 = .ok (.invokestatic 58, 3) := by decide +kernel
theorem dX7_ends_20 : decode cX7_ends 20 = .ok (.iconst 0, 1) := by decide +kernel
theorem dX7_ends_21 : decode cX7_ends 21 = .ok (.ireturn, 1) := by decide +kernel
theorem dX7_ends_22 : decode cX7_ends 22 = .ok (.aload_n 0, 1) := by decide +kernel
theorem dX7_ends_23 : decode cX7_ends 23 = .ok (.invokevirtual 65, 3) := by decide +kernel
theorem dX7_ends_26 : decode cX7_ends 26 = .ok (.iload_n 1, 1) := by decide +kernel
theorem dX7_ends_27 : decode cX7_ends 27 = .ok (.ireturn, 1) := by decide +kernel
set_option maxRecDepth 20000 in
theorem ggX7_undo_X7_goes : GoodIn wsX7_undo wsX7_goes := goodIn_r _ [8, 9, 10, 11, 7, 12, 13, 17, 18, 19, 20, 21, 22, 23, 24, 25, 26, 27, 28, 29, 30, 31, 32, 33, 34, 35, 36, 37] (by decide +kernel) (by decide +kernel)
set_option maxRecDepth 20000 in
theorem gX7_undo_X7_goes : GoodIn wsX7_undo (wsV RX7 68 RX7 yX7_goes wsX7_goes) := goodIn_app (goodIn_of _ (by decide +kernel)) ggX7_undo_X7_goes
set_option maxRecDepth 20000 in
theorem ggX7_undo_X7_copies : GoodIn wsX7_undo wsX7_copies := goodIn_r _ [16] (by decide +kernel) (by decide +kernel)
set_option maxRecDepth 20000 in
theorem gX7_undo_X7_copies : GoodIn wsX7_undo (va_wsS RX7 58 yX7_copies wsX7_copies) := goodIn_app (goodIn_of _ (by decide +kernel)) ggX7_undo_X7_copies
theorem dX7_undo_0 : decode cX7_undo 0 = .ok (.aload_n 0, 1) := by decide +kernel
theorem dX7_undo_1 : decode cX7_undo 1 = .ok (.aload_n 0, 1) := by decide +kernel
theorem dX7_undo_2 : decode cX7_undo 2 = .ok (.getfield 62, 3) := by decide +kernel
theorem dX7_undo_5 : decode cX7_undo 5 = .ok (.ifCond .le 7, 3) := by decide +kernel
theorem dX7_undo_8 : decode cX7_undo 8 = .ok (.iconst 1, 1) := by decide +kernel
theorem dX7_undo_9 : decode cX7_undo 9 = .ok (.goto 4, 3) := by decide +kernel
theorem dX7_undo_12 : decode cX7_undo 12 = .ok (.iconst 0, 1) := by decide +kernel
theorem dX7_undo_13 : decode cX7_undo 13 = .ok (.invokevirtual 68, 3) := by decide +kernel
theorem dX7_undo_16 : decode cX7_undo 16 = .ok (.ifCond .ne 5, 3) := by decide +kernel
theorem dX7_undo_19 : decode cX7_undo 19 = .ok (.iconst 0, 1) := by decide +kernel
theorem dX7_undo_20 : decode cX7_undo 20 = .ok (.ireturn, 1) := by decide +kernel
theorem dX7_undo_21 : decode cX7_undo 21 = .ok (.aload_n 0, 1) := by decide +kernel
theorem dX7_undo_22 : decode cX7_undo 22 = .ok (.dup, 1) := by decide +kernel
theorem dX7_undo_23 : decode cX7_undo 23 = .ok (.getfield 62, 3) := by decide +kernel
theorem dX7_undo_26 : decode cX7_undo 26 = .ok (.iconst 1, 1) := by decide +kernel
theorem dX7_undo_27 : decode cX7_undo 27 = .ok (.isub, 1) := by decide +kernel
theorem dX7_undo_28 : decode cX7_undo 28 = .ok (.putfield 62, 3) := by decide +kernel
theorem dX7_undo_31 : decode cX7_undo 31 = .ok (.aload_n 0, 1) := by decide +kernel
theorem dX7_undo_32 : decode cX7_undo 32 = .ok (.getfield 22, 3) := by decide +kernel
theorem dX7_undo_35 : decode cX7_undo 35 = .ok (.aload_n 0, 1) := by decide +kernel
theorem dX7_undo_36 : decode cX7_undo 36 = .ok (.getfield 62, 3) := by decide +kernel
theorem dX7_undo_39 : decode cX7_undo 39 = .ok (.bipush 87, 2) := by decide +kernel
theorem dX7_undo_41 : decode cX7_undo 41 = .ok (.imul, 1) := by decide +kernel
theorem dX7_undo_42 : decode cX7_undo 42 = .ok (.aload_n 0, 1) := by decide +kernel
theorem dX7_undo_43 : decode cX7_undo 43 = .ok (.getfield 9, 3) := by decide +kernel
theorem dX7_undo_46 : decode cX7_undo 46 = .ok (.iconst 0, 1) := by decide +kernel
theorem dX7_undo_47 : decode cX7_undo 47 = .ok (.invokestatic 58, 3) := by decide +kernel
theorem dX7_undo_50 : decode cX7_undo 50 = .ok (.aload_n 0, 1) := by decide +kernel
theorem dX7_undo_51 : decode cX7_undo 51 = .ok (.getfield 62, 3) := by decide +kernel
theorem dX7_undo_54 : decode cX7_undo 54 = .ok (.ireturn, 1) := by decide +kernel
set_option maxRecDepth 20000 in
theorem ggX7_save_X7_copies : GoodIn wsX7_save wsX7_copies := goodIn_r _ [8] (by decide +kernel) (by decide +kernel)
set_option maxRecDepth 20000 in
theorem gX7_save_X7_copies : GoodIn wsX7_save (va_wsS RX7 58 yX7_copies wsX7_copies) := goodIn_app (goodIn_of _ (by decide +kernel)) ggX7_save_X7_copies
theorem dX7_save_0 : decode cX7_save 0 = .ok (.aload_n 0, 1) := by decide +kernel
theorem dX7_save_1 : decode cX7_save 1 = .ok (.iconst 0, 1) := by decide +kernel
theorem dX7_save_2 : decode cX7_save 2 = .ok (.putfield 51, 3) := by decide +kernel
theorem dX7_save_5 : decode cX7_save 5 = .ok (.aload_n 0, 1) := by decide +kernel
theorem dX7_save_6 : decode cX7_save 6 = .ok (.getfield 9, 3) := by decide +kernel
theorem dX7_save_9 : decode cX7_save 9 = .ok (.iconst 0, 1) := by decide +kernel
theorem dX7_save_10 : decode cX7_save 10 = .ok (.aload_n 0, 1) := by decide +kernel
theorem dX7_save_11 : decode cX7_save 11 = .ok (.getfield 19, 3) := by decide +kernel
theorem dX7_save_14 : decode cX7_save 14 = .ok (.iconst 0, 1) := by decide +kernel
theorem dX7_save_15 : decode cX7_save 15 = .ok (.invokestatic 58, 3) := by decide +kernel
theorem dX7_save_18 : decode cX7_save 18 = .ok (.aload_n 0, 1) := by decide +kernel
theorem dX7_save_19 : decode cX7_save 19 = .ok (.iconst 1, 1) := by decide +kernel
theorem dX7_save_20 : decode cX7_save 20 = .ok (.putfield 72, 3) := by decide +kernel
theorem dX7_save_23 : decode cX7_save 23 = .ok (.return_, 1) := by decide +kernel
set_option maxRecDepth 20000 in
theorem ggX7_restore_X7_goes : GoodIn wsX7_restore wsX7_goes := goodIn_r _ [9, 10, 11, 12, 8, 13, 14, 18, 19, 20, 21, 22, 23, 24, 25, 26, 27, 28, 29, 30, 31, 32, 33, 34, 35, 36, 37, 38] (by decide +kernel) (by decide +kernel)
set_option maxRecDepth 20000 in
theorem gX7_restore_X7_goes : GoodIn wsX7_restore (wsV RX7 68 RX7 yX7_goes wsX7_goes) := goodIn_app (goodIn_of _ (by decide +kernel)) ggX7_restore_X7_goes
set_option maxRecDepth 20000 in
theorem ggX7_restore_X7_copies : GoodIn wsX7_restore wsX7_copies := goodIn_r _ [17] (by decide +kernel) (by decide +kernel)
set_option maxRecDepth 20000 in
theorem gX7_restore_X7_copies : GoodIn wsX7_restore (va_wsS RX7 58 yX7_copies wsX7_copies) := goodIn_app (goodIn_of _ (by decide +kernel)) ggX7_restore_X7_copies
theorem dX7_restore_0 : decode cX7_restore 0 = .ok (.aload_n 0, 1) := by decide +kernel
theorem dX7_restore_1 : decode cX7_restore 1 = .ok (.aload_n 0, 1) := by decide +kernel
theorem dX7_restore_2 : decode cX7_restore 2 = .ok (.getfield 72, 3) := by decide +kernel
theorem dX7_restore_5 : decode cX7_restore 5 = .ok (.invokevirtual 68, 3) := by decide +kernel
theorem dX7_restore_8 : decode cX7_restore 8 = .ok (.ifCond .eq 21, 3) := by decide +kernel
theorem dX7_restore_11 : decode cX7_restore 11 = .ok (.aload_n 0, 1) := by decide +kernel
theorem dX7_restore_12 : decode cX7_restore 12 = .ok (.getfield 19, 3) := by decide +kernel
theorem dX7_restore_15 : decode cX7_restore 15 = .ok (.iconst 0, 1) := by decide +kernel
theorem dX7_restore_16 : decode cX7_restore 16 = .ok (.aload_n 0, 1) := by decide +kernel
theorem dX7_restore_17 : decode cX7_restore 17 = .ok (.getfield 9, 3) := by decide +kernel
theorem dX7_restore_20 : decode cX7_restore 20 = .ok (.iconst 0, 1) := by decide +kernel
theorem dX7_restore_21 : decode cX7_restore 21 = .ok (.invokestatic 58, 3) := by decide +kernel
theorem dX7_restore_24 : decode cX7_restore 24 = .ok (.aload_n 0, 1) := by decide +kernel
theorem dX7_restore_25 : decode cX7_restore 25 = .ok (.iconst 0, 1) := by decide +kernel
theorem dX7_restore_26 : decode cX7_restore 26 = .ok (.putfield 62, 3) := by decide +kernel
theorem dX7_restore_29 : decode cX7_restore 29 = .ok (.return_, 1) := by decide +kernel
set_option maxRecDepth 20000 in
theorem ggX7_isLine_X7_isIn : GoodIn wsX7_isLine wsX7_isIn := goodIn_r _ [4] (by decide +kernel) (by decide +kernel)
set_option maxRecDepth 20000 in
theorem gX7_isLine_X7_isIn : GoodIn wsX7_isLine (va_wsS RX7 76 yX7_isIn wsX7_isIn) := goodIn_app (goodIn_of _ (by decide +kernel)) ggX7_isLine_X7_isIn
theorem dX7_isLine_0 : decode cX7_isLine 0 = .ok (.iload_n 0, 1) := by decide +kernel
theorem dX7_isLine_1 : decode cX7_isLine 1 = .ok (.iconst 0, 1) := by decide +kernel
theorem dX7_isLine_2 : decode cX7_isLine 2 = .ok (.iconst 4, 1) := by decide +kernel
theorem dX7_isLine_3 : decode cX7_isLine 3 = .ok (.invokestatic 76, 3) := by decide +kernel
theorem dX7_isLine_6 : decode cX7_isLine 6 = .ok (.ireturn, 1) := by decide +kernel
set_option maxRecDepth 20000 in
theorem ggX7_isCell_X7_isLine : GoodIn wsX7_isCell wsX7_isLine := goodIn_r _ [4, 5, 6, 3, 7] (by decide +kernel) (by decide +kernel)
set_option maxRecDepth 20000 in
theorem gX7_isCell_X7_isLine : GoodIn wsX7_isCell (va_wsS RX7 80 yX7_isLine wsX7_isLine) := goodIn_app (goodIn_of _ (by decide +kernel)) ggX7_isCell_X7_isLine
theorem dX7_isCell_0 : decode cX7_isCell 0 = .ok (.iload_n 0, 1) := by decide +kernel
theorem dX7_isCell_1 : decode cX7_isCell 1 = .ok (.invokestatic 80, 3) := by decide +kernel
theorem dX7_isCell_4 : decode cX7_isCell 4 = .ok (.ifCond .eq 14, 3) := by decide +kernel
theorem dX7_isCell_7 : decode cX7_isCell 7 = .ok (.iload_n 1, 1) := by decide +kernel
theorem dX7_isCell_8 : decode cX7_isCell 8 = .ok (.invokestatic 80, 3) := by decide +kernel
theorem dX7_isCell_11 : decode cX7_isCell 11 = .ok (.ifCond .eq 7, 3) := by decide +kernel
theorem dX7_isCell_14 : decode cX7_isCell 14 = .ok (.iconst 1, 1) := by decide +kernel
theorem dX7_isCell_15 : decode cX7_isCell 15 = .ok (.goto 4, 3) := by decide +kernel
theorem dX7_isCell_18 : decode cX7_isCell 18 = .ok (.iconst 0, 1) := by decide +kernel
theorem dX7_isCell_19 : decode cX7_isCell 19 = .ok (.ireturn, 1) := by decide +kernel
set_option maxRecDepth 20000 in
theorem ggX7_cellAt_X7_isCell : GoodIn wsX7_cellAt wsX7_isCell := goodIn_r _ [4, 5, 6, 3, 7, 8, 9, 10] (by decide +kernel) (by decide +kernel)
set_option maxRecDepth 20000 in
theorem gX7_cellAt_X7_isCell : GoodIn wsX7_cellAt (va_wsS RX7 84 yX7_isCell wsX7_isCell) := goodIn_app (goodIn_of _ (by decide +kernel)) ggX7_cellAt_X7_isCell
theorem dX7_cellAt_0 : decode cX7_cellAt 0 = .ok (.iload_n 0, 1) := by decide +kernel
theorem dX7_cellAt_1 : decode cX7_cellAt 1 = .ok (.iload_n 1, 1) := by decide +kernel
theorem dX7_cellAt_2 : decode cX7_cellAt 2 = .ok (.invokestatic 84, 3) := by decide +kernel
theorem dX7_cellAt_5 : decode cX7_cellAt 5 = .ok (.ifCond .eq 11, 3) := by decide +kernel
theorem dX7_cellAt_8 : decode cX7_cellAt 8 = .ok (.iconst 5, 1) := by decide +kernel
theorem dX7_cellAt_9 : decode cX7_cellAt 9 = .ok (.iload_n 0, 1) := by decide +kernel
theorem dX7_cellAt_10 : decode cX7_cellAt 10 = .ok (.imul, 1) := by decide +kernel
theorem dX7_cellAt_11 : decode cX7_cellAt 11 = .ok (.iload_n 1, 1) := by decide +kernel
theorem dX7_cellAt_12 : decode cX7_cellAt 12 = .ok (.iadd, 1) := by decide +kernel
theorem dX7_cellAt_13 : decode cX7_cellAt 13 = .ok (.goto 4, 3) := by decide +kernel
theorem dX7_cellAt_16 : decode cX7_cellAt 16 = .ok (.iconst 0, 1) := by decide +kernel
theorem dX7_cellAt_17 : decode cX7_cellAt 17 = .ok (.ireturn, 1) := by decide +kernel
theorem dX7_tileAt_0 : decode cX7_tileAt 0 = .ok (.bipush 12, 2) := by decide +kernel
theorem dX7_tileAt_2 : decode cX7_tileAt 2 = .ok (.iconst 3, 1) := by decide +kernel
theorem dX7_tileAt_3 : decode cX7_tileAt 3 = .ok (.iload_n 0, 1) := by decide +kernel
theorem dX7_tileAt_4 : decode cX7_tileAt 4 = .ok (.imul, 1) := by decide +kernel
theorem dX7_tileAt_5 : decode cX7_tileAt 5 = .ok (.iadd, 1) := by decide +kernel
theorem dX7_tileAt_6 : decode cX7_tileAt 6 = .ok (.ireturn, 1) := by decide +kernel
set_option maxRecDepth 20000 in
theorem ggX7_of_X7_tileAt : GoodIn wsX7_of wsX7_tileAt := goodIn_r _ [5] (by decide +kernel) (by decide +kernel)
set_option maxRecDepth 20000 in
theorem gX7_of_X7_tileAt : GoodIn wsX7_of (va_wsS RX7 47 yX7_tileAt wsX7_tileAt) := goodIn_app (goodIn_of _ (by decide +kernel)) ggX7_of_X7_tileAt
theorem dX7_of_0 : decode cX7_of 0 = .ok (.aload_n 0, 1) := by decide +kernel
theorem dX7_of_1 : decode cX7_of 1 = .ok (.getfield 9, 3) := by decide +kernel
theorem dX7_of_4 : decode cX7_of 4 = .ok (.iload_n 1, 1) := by decide +kernel
theorem dX7_of_5 : decode cX7_of 5 = .ok (.invokestatic 47, 3) := by decide +kernel
theorem dX7_of_8 : decode cX7_of 8 = .ok (.iload_n 2, 1) := by decide +kernel
theorem dX7_of_9 : decode cX7_of 9 = .ok (.iadd, 1) := by decide +kernel
theorem dX7_of_10 : decode cX7_of 10 = .ok (.iaload, 1) := by decide +kernel
theorem dX7_of_11 : decode cX7_of 11 = .ok (.ireturn, 1) := by decide +kernel
set_option maxRecDepth 20000 in
theorem ggX7_isKey_X7_isIn : GoodIn wsX7_isKey wsX7_isIn := goodIn_r _ [4] (by decide +kernel) (by decide +kernel)
set_option maxRecDepth 20000 in
theorem gX7_isKey_X7_isIn : GoodIn wsX7_isKey (va_wsS RX7 76 yX7_isIn wsX7_isIn) := goodIn_app (goodIn_of _ (by decide +kernel)) ggX7_isKey_X7_isIn
theorem dX7_isKey_0 : decode cX7_isKey 0 = .ok (.iload_n 0, 1) := by decide +kernel
theorem dX7_isKey_1 : decode cX7_isKey 1 = .ok (.bipush 97, 2) := by decide +kernel
theorem dX7_isKey_3 : decode cX7_isKey 3 = .ok (.bipush 102, 2) := by decide +kernel
theorem dX7_isKey_5 : decode cX7_isKey 5 = .ok (.invokestatic 76, 3) := by decide +kernel
theorem dX7_isKey_8 : decode cX7_isKey 8 = .ok (.ireturn, 1) := by decide +kernel
set_option maxRecDepth 20000 in
theorem ggX7_placeOf_X7_isKey : GoodIn wsX7_placeOf wsX7_isKey := goodIn_r _ [5, 6, 7, 4, 8] (by decide +kernel) (by decide +kernel)
set_option maxRecDepth 20000 in
theorem gX7_placeOf_X7_isKey : GoodIn wsX7_placeOf (va_wsS RX7 88 yX7_isKey wsX7_isKey) := goodIn_app (goodIn_of _ (by decide +kernel)) ggX7_placeOf_X7_isKey
theorem dX7_placeOf_0 : decode cX7_placeOf 0 = .ok (.iload_n 1, 1) := by decide +kernel
theorem dX7_placeOf_1 : decode cX7_placeOf 1 = .ok (.invokestatic 88, 3) := by decide +kernel
theorem dX7_placeOf_4 : decode cX7_placeOf 4 = .ok (.ifCond .eq 17, 3) := by decide +kernel
theorem dX7_placeOf_7 : decode cX7_placeOf 7 = .ok (.aload_n 0, 1) := by decide +kernel
theorem dX7_placeOf_8 : decode cX7_placeOf 8 = .ok (.getfield 9, 3) := by decide +kernel
theorem dX7_placeOf_11 : decode cX7_placeOf 11 = .ok (.iconst 3, 1) := by decide +kernel
theorem dX7_placeOf_12 : decode cX7_placeOf 12 = .ok (.iload_n 1, 1) := by decide +kernel
theorem dX7_placeOf_13 : decode cX7_placeOf 13 = .ok (.iadd, 1) := by decide +kernel
theorem dX7_placeOf_14 : decode cX7_placeOf 14 = .ok (.bipush 97, 2) := by decide +kernel
theorem dX7_placeOf_16 : decode cX7_placeOf 16 = .ok (.isub, 1) := by decide +kernel
theorem dX7_placeOf_17 : decode cX7_placeOf 17 = .ok (.iaload, 1) := by decide +kernel
theorem dX7_placeOf_18 : decode cX7_placeOf 18 = .ok (.goto 4, 3) := by decide +kernel
theorem dX7_placeOf_21 : decode cX7_placeOf 21 = .ok (.iconst (-1), 1) := by decide +kernel
theorem dX7_placeOf_22 : decode cX7_placeOf 22 = .ok (.ireturn, 1) := by decide +kernel
theorem dX7_keysOn_0 : decode cX7_keysOn 0 = .ok (.iconst 0, 1) := by decide +kernel
theorem dX7_keysOn_1 : decode cX7_keysOn 1 = .ok (.istore_n 2, 1) := by decide +kernel
theorem dX7_keysOn_2 : decode cX7_keysOn 2 = .ok (.iconst 0, 1) := by decide +kernel
theorem dX7_keysOn_3 : decode cX7_keysOn 3 = .ok (.istore_n 3, 1) := by decide +kernel
theorem dX7_keysOn_4 : decode cX7_keysOn 4 = .ok (.iload_n 3, 1) := by decide +kernel
theorem dX7_keysOn_5 : decode cX7_keysOn 5 = .ok (.bipush 6, 2) := by decide +kernel
theorem dX7_keysOn_7 : decode cX7_keysOn 7 = .ok (.if_icmp .ge 29, 3) := by decide +kernel
theorem dX7_keysOn_10 : decode cX7_keysOn 10 = .ok (.iload_n 2, 1) := by decide +kernel
theorem dX7_keysOn_11 : decode cX7_keysOn 11 = .ok (.aload_n 0, 1) := by decide +kernel
theorem dX7_keysOn_12 : decode cX7_keysOn 12 = .ok (.getfield 9, 3) := by decide +kernel
theorem dX7_keysOn_15 : decode cX7_keysOn 15 = .ok (.iconst 3, 1) := by decide +kernel
theorem dX7_keysOn_16 : decode cX7_keysOn 16 = .ok (.iload_n 3, 1) := by decide +kernel
theorem dX7_keysOn_17 : decode cX7_keysOn 17 = .ok (.iadd, 1) := by decide +kernel
theorem dX7_keysOn_18 : decode cX7_keysOn 18 = .ok (.iaload, 1) := by decide +kernel
theorem dX7_keysOn_19 : decode cX7_keysOn 19 = .ok (.iload_n 1, 1) := by decide +kernel
theorem dX7_keysOn_20 : decode cX7_keysOn 20 = .ok (.if_icmp .ne 7, 3) := by decide +kernel
theorem dX7_keysOn_23 : decode cX7_keysOn 23 = .ok (.iconst 1, 1) := by decide +kernel
theorem dX7_keysOn_24 : decode cX7_keysOn 24 = .ok (.goto 4, 3) := by decide +kernel
theorem dX7_keysOn_27 : decode cX7_keysOn 27 = .ok (.iconst 0, 1) := by decide +kernel
theorem dX7_keysOn_28 : decode cX7_keysOn 28 = .ok (.iadd, 1) := by decide +kernel
theorem dX7_keysOn_29 : decode cX7_keysOn 29 = .ok (.istore_n 2, 1) := by decide +kernel
theorem dX7_keysOn_30 : decode cX7_keysOn 30 = .ok (.iinc 3 1, 3) := by decide +kernel
theorem dX7_keysOn_33 : decode cX7_keysOn 33 = .ok (.goto (-29), 3) := by decide +kernel
theorem dX7_keysOn_36 : decode cX7_keysOn 36 = .ok (.iload_n 2, 1) := by decide +kernel
theorem dX7_keysOn_37 : decode cX7_keysOn 37 = .ok (.ireturn, 1) := by decide +kernel
set_option maxRecDepth 20000 in
theorem ggX7_isWalker_X7_isIn : GoodIn wsX7_isWalker wsX7_isIn := goodIn_r _ [5] (by decide +kernel) (by decide +kernel)
set_option maxRecDepth 20000 in
theorem gX7_isWalker_X7_isIn : GoodIn wsX7_isWalker (va_wsS RX7 76 yX7_isIn wsX7_isIn) := goodIn_app (goodIn_of _ (by decide +kernel)) ggX7_isWalker_X7_isIn
theorem dX7_isWalker_0 : decode cX7_isWalker 0 = .ok (.iload_n 1, 1) := by decide +kernel
theorem dX7_isWalker_1 : decode cX7_isWalker 1 = .ok (.iconst 0, 1) := by decide +kernel
theorem dX7_isWalker_2 : decode cX7_isWalker 2 = .ok (.aload_n 0, 1) := by decide +kernel
theorem dX7_isWalker_3 : decode cX7_isWalker 3 = .ok (.getfield 9, 3) := by decide +kernel
theorem dX7_isWalker_6 : decode cX7_isWalker 6 = .ok (.iconst 0, 1) := by decide +kernel
theorem dX7_isWalker_7 : decode cX7_isWalker 7 = .ok (.iaload, 1) := by decide +kernel
theorem dX7_isWalker_8 : decode cX7_isWalker 8 = .ok (.iconst 1, 1) := by decide +kernel
theorem dX7_isWalker_9 : decode cX7_isWalker 9 = .ok (.isub, 1) := by decide +kernel
theorem dX7_isWalker_10 : decode cX7_isWalker 10 = .ok (.invokestatic 76, 3) := by decide +kernel
theorem dX7_isWalker_13 : decode cX7_isWalker 13 = .ok (.ireturn, 1) := by decide +kernel
set_option maxRecDepth 20000 in
theorem ggX7_standing_X7_isWalker : GoodIn wsX7_standing wsX7_isWalker := goodIn_r _ [6, 1, 7, 8, 5, 9, 10, 11, 12, 13, 14, 15, 16, 17, 18, 19, 20, 21, 22, 23, 24, 25, 26, 27, 28, 29, 30] (by decide +kernel) (by decide +kernel)
set_option maxRecDepth 20000 in
theorem gX7_standing_X7_isWalker : GoodIn wsX7_standing (wsV RX7 91 RX7 yX7_isWalker wsX7_isWalker) := goodIn_app (goodIn_of _ (by decide +kernel)) ggX7_standing_X7_isWalker
theorem dX7_standing_0 : decode cX7_standing 0 = .ok (.aload_n 0, 1) := by decide +kernel
theorem dX7_standing_1 : decode cX7_standing 1 = .ok (.getfield 9, 3) := by decide +kernel
theorem dX7_standing_4 : decode cX7_standing 4 = .ok (.bipush 9, 2) := by decide +kernel
theorem dX7_standing_6 : decode cX7_standing 6 = .ok (.aload_n 0, 1) := by decide +kernel
theorem dX7_standing_7 : decode cX7_standing 7 = .ok (.iload_n 1, 1) := by decide +kernel
theorem dX7_standing_8 : decode cX7_standing 8 = .ok (.invokevirtual 91, 3) := by decide +kernel
theorem dX7_standing_11 : decode cX7_standing 11 = .ok (.ifCond .eq 7, 3) := by decide +kernel
theorem dX7_standing_14 : decode cX7_standing 14 = .ok (.iload_n 1, 1) := by decide +kernel
theorem dX7_standing_15 : decode cX7_standing 15 = .ok (.goto 4, 3) := by decide +kernel
theorem dX7_standing_18 : decode cX7_standing 18 = .ok (.iconst 0, 1) := by decide +kernel
theorem dX7_standing_19 : decode cX7_standing 19 = .ok (.iadd, 1) := by decide +kernel
theorem dX7_standing_20 : decode cX7_standing 20 = .ok (.iaload, 1) := by decide +kernel
theorem dX7_standing_21 : decode cX7_standing 21 = .ok (.ireturn, 1) := by decide +kernel
set_option maxRecDepth 20000 in
theorem ggX7_tilesWith_X7_of : GoodIn wsX7_tilesWith wsX7_of := goodIn_r _ [5, 6, 7, 8, 4, 9, 10, 11, 12, 13, 14, 15, 16, 17, 18, 19, 20, 21, 22, 23, 24, 25, 26, 27, 28, 29, 30] (by decide +kernel) (by decide +kernel)
set_option maxRecDepth 20000 in
theorem gX7_tilesWith_X7_of : GoodIn wsX7_tilesWith (wsV RX7 94 RX7 yX7_of wsX7_of) := goodIn_app (goodIn_of _ (by decide +kernel)) ggX7_tilesWith_X7_of
theorem dX7_tilesWith_0 : decode cX7_tilesWith 0 = .ok (.iconst 0, 1) := by decide +kernel
theorem dX7_tilesWith_1 : decode cX7_tilesWith 1 = .ok (.istore_n 3, 1) := by decide +kernel
theorem dX7_tilesWith_2 : decode cX7_tilesWith 2 = .ok (.iconst 0, 1) := by decide +kernel
theorem dX7_tilesWith_3 : decode cX7_tilesWith 3 = .ok (.istore 4, 2) := by decide +kernel
theorem dX7_tilesWith_5 : decode cX7_tilesWith 5 = .ok (.iload 4, 2) := by decide +kernel
theorem dX7_tilesWith_7 : decode cX7_tilesWith 7 = .ok (.bipush 25, 2) := by decide +kernel
theorem dX7_tilesWith_9 : decode cX7_tilesWith 9 = .ok (.if_icmp .ge 28, 3) := by decide +kernel
theorem dX7_tilesWith_12 : decode cX7_tilesWith 12 = .ok (.iload_n 3, 1) := by decide +kernel
theorem dX7_tilesWith_13 : decode cX7_tilesWith 13 = .ok (.aload_n 0, 1) := by decide +kernel
theorem dX7_tilesWith_14 : decode cX7_tilesWith 14 = .ok (.iload 4, 2) := by decide +kernel
theorem dX7_tilesWith_16 : decode cX7_tilesWith 16 = .ok (.iload_n 1, 1) := by decide +kernel
theorem dX7_tilesWith_17 : decode cX7_tilesWith 17 = .ok (.invokevirtual 94, 3) := by decide +kernel
theorem dX7_tilesWith_20 : decode cX7_tilesWith 20 = .ok (.iload_n 2, 1) := by decide +kernel
theorem dX7_tilesWith_21 : decode cX7_tilesWith 21 = .ok (.if_icmp .lt 7, 3) := by decide +kernel
theorem dX7_tilesWith_24 : decode cX7_tilesWith 24 = .ok (.iconst 1, 1) := by decide +kernel
theorem dX7_tilesWith_25 : decode cX7_tilesWith 25 = .ok (.goto 4, 3) := by decide +kernel
theorem dX7_tilesWith_28 : decode cX7_tilesWith 28 = .ok (.iconst 0, 1) := by decide +kernel
theorem dX7_tilesWith_29 : decode cX7_tilesWith 29 = .ok (.iadd, 1) := by decide +kernel
theorem dX7_tilesWith_30 : decode cX7_tilesWith 30 = .ok (.istore_n 3, 1) := by decide +kernel
theorem dX7_tilesWith_31 : decode cX7_tilesWith 31 = .ok (.iinc 4 1, 3) := by decide +kernel
theorem dX7_tilesWith_34 : decode cX7_tilesWith 34 = .ok (.goto (-29), 3) := by decide +kernel
theorem dX7_tilesWith_37 : decode cX7_tilesWith 37 = .ok (.iload_n 3, 1) := by decide +kernel
theorem dX7_tilesWith_38 : decode cX7_tilesWith 38 = .ok (.ireturn, 1) := by decide +kernel
set_option maxRecDepth 20000 in
theorem ggX7_beside_X7_isCell : GoodIn wsX7_beside wsX7_isCell := goodIn_r _ [4, 5, 6, 3, 7, 8, 9, 10] (by decide +kernel) (by decide +kernel)
set_option maxRecDepth 20000 in
theorem gX7_beside_X7_isCell : GoodIn wsX7_beside (va_wsS RX7 84 yX7_isCell wsX7_isCell) := goodIn_app (goodIn_of _ (by decide +kernel)) ggX7_beside_X7_isCell
theorem dX7_beside_0 : decode cX7_beside 0 = .ok (.iload_n 0, 1) := by decide +kernel
theorem dX7_beside_1 : decode cX7_beside 1 = .ok (.iconst 5, 1) := by decide +kernel
theorem dX7_beside_2 : decode cX7_beside 2 = .ok (.idiv, 1) := by decide +kernel
theorem dX7_beside_3 : decode cX7_beside 3 = .ok (.iload_n 1, 1) := by decide +kernel
theorem dX7_beside_4 : decode cX7_beside 4 = .ok (.ifCond .ne 7, 3) := by decide +kernel
theorem dX7_beside_7 : decode cX7_beside 7 = .ok (.iconst (-1), 1) := by decide +kernel
theorem dX7_beside_8 : decode cX7_beside 8 = .ok (.goto 13, 3) := by decide +kernel
theorem dX7_beside_11 : decode cX7_beside 11 = .ok (.iload_n 1, 1) := by decide +kernel
theorem dX7_beside_12 : decode cX7_beside 12 = .ok (.iconst 2, 1) := by decide +kernel
theorem dX7_beside_13 : decode cX7_beside 13 = .ok (.if_icmp .ne 7, 3) := by decide +kernel
theorem dX7_beside_16 : decode cX7_beside 16 = .ok (.iconst 1, 1) := by decide +kernel
theorem dX7_beside_17 : decode cX7_beside 17 = .ok (.goto 4, 3) := by decide +kernel
theorem dX7_beside_20 : decode cX7_beside 20 = .ok (.iconst 0, 1) := by decide +kernel
theorem dX7_beside_21 : decode cX7_beside 21 = .ok (.iadd, 1) := by decide +kernel
theorem dX7_beside_22 : decode cX7_beside 22 = .ok (.istore_n 2, 1) := by decide +kernel
theorem dX7_beside_23 : decode cX7_beside 23 = .ok (.iload_n 0, 1) := by decide +kernel
theorem dX7_beside_24 : decode cX7_beside 24 = .ok (.iconst 5, 1) := by decide +kernel
theorem dX7_beside_25 : decode cX7_beside 25 = .ok (.irem, 1) := by decide +kernel
theorem dX7_beside_26 : decode cX7_beside 26 = .ok (.iload_n 1, 1) := by decide +kernel
theorem dX7_beside_27 : decode cX7_beside 27 = .ok (.iconst 1, 1) := by decide +kernel
theorem dX7_beside_28 : decode cX7_beside 28 = .ok (.if_icmp .ne 7, 3) := by decide +kernel
theorem dX7_beside_31 : decode cX7_beside 31 = .ok (.iconst 1, 1) := by decide +kernel
theorem dX7_beside_32 : decode cX7_beside 32 = .ok (.goto 13, 3) := by decide +kernel
theorem dX7_beside_35 : decode cX7_beside 35 = .ok (.iload_n 1, 1) := by decide +kernel
theorem dX7_beside_36 : decode cX7_beside 36 = .ok (.iconst 3, 1) := by decide +kernel
theorem dX7_beside_37 : decode cX7_beside 37 = .ok (.if_icmp .ne 7, 3) := by decide +kernel
theorem dX7_beside_40 : decode cX7_beside 40 = .ok (.iconst (-1), 1) := by decide +kernel
theorem dX7_beside_41 : decode cX7_beside 41 = .ok (.goto 4, 3) := by decide +kernel
theorem dX7_beside_44 : decode cX7_beside 44 = .ok (.iconst 0, 1) := by decide +kernel
theorem dX7_beside_45 : decode cX7_beside 45 = .ok (.iadd, 1) := by decide +kernel
theorem dX7_beside_46 : decode cX7_beside 46 = .ok (.istore_n 3, 1) := by decide +kernel
theorem dX7_beside_47 : decode cX7_beside 47 = .ok (.iload_n 2, 1) := by decide +kernel
theorem dX7_beside_48 : decode cX7_beside 48 = .ok (.iload_n 3, 1) := by decide +kernel
theorem dX7_beside_49 : decode cX7_beside 49 = .ok (.invokestatic 84, 3) := by decide +kernel
theorem dX7_beside_52 : decode cX7_beside 52 = .ok (.ifCond .eq 11, 3) := by decide +kernel
theorem dX7_beside_55 : decode cX7_beside 55 = .ok (.iconst 5, 1) := by decide +kernel
theorem dX7_beside_56 : decode cX7_beside 56 = .ok (.iload_n 2, 1) := by decide +kernel
theorem dX7_beside_57 : decode cX7_beside 57 = .ok (.imul, 1) := by decide +kernel
theorem dX7_beside_58 : decode cX7_beside 58 = .ok (.iload_n 3, 1) := by decide +kernel
theorem dX7_beside_59 : decode cX7_beside 59 = .ok (.iadd, 1) := by decide +kernel
theorem dX7_beside_60 : decode cX7_beside 60 = .ok (.goto 4, 3) := by decide +kernel
theorem dX7_beside_63 : decode cX7_beside 63 = .ok (.iconst (-1), 1) := by decide +kernel
theorem dX7_beside_64 : decode cX7_beside 64 = .ok (.ireturn, 1) := by decide +kernel
set_option maxRecDepth 20000 in
theorem ggX7_isJoined_X7_beside : GoodIn wsX7_isJoined wsX7_beside := goodIn_r _ [4, 5, 6, 3, 7, 8, 9, 10, 11, 12, 13] (by decide +kernel) (by decide +kernel)
set_option maxRecDepth 20000 in
theorem gX7_isJoined_X7_beside : GoodIn wsX7_isJoined (va_wsS RX7 98 yX7_beside wsX7_beside) := goodIn_app (goodIn_of _ (by decide +kernel)) ggX7_isJoined_X7_beside
set_option maxRecDepth 20000 in
theorem ggX7_isJoined_X7_of : GoodIn wsX7_isJoined wsX7_of := goodIn_r _ [17, 18, 19, 20, 3, 21, 22, 23, 24, 25, 26, 27, 28, 29, 30, 31, 32, 33, 34, 35, 36, 37, 38, 39, 40, 41, 42] (by decide +kernel) (by decide +kernel)
set_option maxRecDepth 20000 in
theorem gX7_isJoined_X7_of : GoodIn wsX7_isJoined (wsV RX7 94 RX7 yX7_of wsX7_of) := goodIn_app (goodIn_of _ (by decide +kernel)) ggX7_isJoined_X7_of
theorem dX7_isJoined_0 : decode cX7_isJoined 0 = .ok (.iload_n 1, 1) := by decide +kernel
theorem dX7_isJoined_1 : decode cX7_isJoined 1 = .ok (.iload_n 2, 1) := by decide +kernel
theorem dX7_isJoined_2 : decode cX7_isJoined 2 = .ok (.invokestatic 98, 3) := by decide +kernel
theorem dX7_isJoined_5 : decode cX7_isJoined 5 = .ok (.istore_n 3, 1) := by decide +kernel
theorem dX7_isJoined_6 : decode cX7_isJoined 6 = .ok (.aload_n 0, 1) := by decide +kernel
theorem dX7_isJoined_7 : decode cX7_isJoined 7 = .ok (.iload_n 1, 1) := by decide +kernel
theorem dX7_isJoined_8 : decode cX7_isJoined 8 = .ok (.iconst 0, 1) := by decide +kernel
theorem dX7_isJoined_9 : decode cX7_isJoined 9 = .ok (.invokevirtual 94, 3) := by decide +kernel
theorem dX7_isJoined_12 : decode cX7_isJoined 12 = .ok (.iload_n 2, 1) := by decide +kernel
theorem dX7_isJoined_13 : decode cX7_isJoined 13 = .ok (.ishr, 1) := by decide +kernel
theorem dX7_isJoined_14 : decode cX7_isJoined 14 = .ok (.iconst 1, 1) := by decide +kernel
theorem dX7_isJoined_15 : decode cX7_isJoined 15 = .ok (.iand, 1) := by decide +kernel
theorem dX7_isJoined_16 : decode cX7_isJoined 16 = .ok (.iconst 1, 1) := by decide +kernel
theorem dX7_isJoined_17 : decode cX7_isJoined 17 = .ok (.if_icmp .ne 7, 3) := by decide +kernel
theorem dX7_isJoined_20 : decode cX7_isJoined 20 = .ok (.iconst 1, 1) := by decide +kernel
theorem dX7_isJoined_21 : decode cX7_isJoined 21 = .ok (.goto 4, 3) := by decide +kernel
theorem dX7_isJoined_24 : decode cX7_isJoined 24 = .ok (.iconst 0, 1) := by decide +kernel
theorem dX7_isJoined_25 : decode cX7_isJoined 25 = .ok (.istore 4, 2) := by decide +kernel
theorem dX7_isJoined_27 : decode cX7_isJoined 27 = .ok (.iload_n 3, 1) := by decide +kernel
theorem dX7_isJoined_28 : decode cX7_isJoined 28 = .ok (.iconst (-1), 1) := by decide +kernel
theorem dX7_isJoined_29 : decode cX7_isJoined 29 = .ok (.if_icmp .eq 30, 3) := by decide +kernel
theorem dX7_isJoined_32 : decode cX7_isJoined 32 = .ok (.iload 4, 2) := by decide +kernel
theorem dX7_isJoined_34 : decode cX7_isJoined 34 = .ok (.ifCond .eq 25, 3) := by decide +kernel
theorem dX7_isJoined_37 : decode cX7_isJoined 37 = .ok (.aload_n 0, 1) := by decide +kernel
theorem dX7_isJoined_38 : decode cX7_isJoined 38 = .ok (.iload_n 3, 1) := by decide +kernel
theorem dX7_isJoined_39 : decode cX7_isJoined 39 = .ok (.iconst 0, 1) := by decide +kernel
theorem dX7_isJoined_40 : decode cX7_isJoined 40 = .ok (.invokevirtual 94, 3) := by decide +kernel
theorem dX7_isJoined_43 : decode cX7_isJoined 43 = .ok (.iload_n 2, 1) := by decide +kernel
theorem dX7_isJoined_44 : decode cX7_isJoined 44 = .ok (.iconst 2, 1) := by decide +kernel
theorem dX7_isJoined_45 : decode cX7_isJoined 45 = .ok (.iadd, 1) := by decide +kernel
theorem dX7_isJoined_46 : decode cX7_isJoined 46 = .ok (.iconst 4, 1) := by decide +kernel
theorem dX7_isJoined_47 : decode cX7_isJoined 47 = .ok (.irem, 1) := by decide +kernel
theorem dX7_isJoined_48 : decode cX7_isJoined 48 = .ok (.ishr, 1) := by decide +kernel
theorem dX7_isJoined_49 : decode cX7_isJoined 49 = .ok (.iconst 1, 1) := by decide +kernel
theorem dX7_isJoined_50 : decode cX7_isJoined 50 = .ok (.iand, 1) := by decide +kernel
theorem dX7_isJoined_51 : decode cX7_isJoined 51 = .ok (.iconst 1, 1) := by decide +kernel
theorem dX7_isJoined_52 : decode cX7_isJoined 52 = .ok (.if_icmp .ne 7, 3) := by decide +kernel
theorem dX7_isJoined_55 : decode cX7_isJoined 55 = .ok (.iconst 1, 1) := by decide +kernel
theorem dX7_isJoined_56 : decode cX7_isJoined 56 = .ok (.goto 4, 3) := by decide +kernel
theorem dX7_isJoined_59 : decode cX7_isJoined 59 = .ok (.iconst 0, 1) := by decide +kernel
theorem dX7_isJoined_60 : decode cX7_isJoined 60 = .ok (.ireturn, 1) := by decide +kernel
set_option maxRecDepth 20000 in
theorem ggX7_sets_X7_cellAt : GoodIn wsX7_sets wsX7_cellAt := goodIn_r _ [5, 6, 7, 4, 8, 9, 10, 11, 12, 13, 14] (by decide +kernel) (by decide +kernel)
set_option maxRecDepth 20000 in
theorem gX7_sets_X7_cellAt : GoodIn wsX7_sets (va_wsS RX7 101 yX7_cellAt wsX7_cellAt) := goodIn_app (goodIn_of _ (by decide +kernel)) ggX7_sets_X7_cellAt
set_option maxRecDepth 20000 in
theorem ggX7_sets_X7_of : GoodIn wsX7_sets wsX7_of := goodIn_r _ [18, 1, 19, 20, 4, 21, 27, 28, 29, 30, 31, 32, 33, 34, 35, 36, 37, 38, 39, 40, 41, 42, 43, 44, 45, 46, 47] (by decide +kernel) (by decide +kernel)
set_option maxRecDepth 20000 in
theorem gX7_sets_X7_of : GoodIn wsX7_sets (wsV RX7 94 RX7 yX7_of wsX7_of) := goodIn_app (goodIn_of _ (by decide +kernel)) ggX7_sets_X7_of
set_option maxRecDepth 20000 in
theorem ggX7_sets_X7_isCell : GoodIn wsX7_sets wsX7_isCell := goodIn_r _ [8, 9, 10, 4, 11, 12, 13, 14] (by decide +kernel) (by decide +kernel)
set_option maxRecDepth 20000 in
theorem gX7_sets_X7_isCell : GoodIn wsX7_sets (va_wsS RX7 84 yX7_isCell wsX7_isCell) := goodIn_app (goodIn_of _ (by decide +kernel)) ggX7_sets_X7_isCell
set_option maxRecDepth 20000 in
theorem ggX7_sets_X7_isIn : GoodIn wsX7_sets wsX7_isIn := goodIn_r _ [14] (by decide +kernel) (by decide +kernel)
set_option maxRecDepth 20000 in
theorem gX7_sets_X7_isIn : GoodIn wsX7_sets (va_wsS RX7 76 yX7_isIn wsX7_isIn) := goodIn_app (goodIn_of _ (by decide +kernel)) ggX7_sets_X7_isIn
set_option maxRecDepth 20000 in
theorem ggX7_sets_X7_holds : GoodIn wsX7_sets wsX7_holds := goodIn_r _ [25, 26, 27, 28, 29, 30, 31, 32, 33, 34, 35, 36, 37, 38, 39, 40, 41, 42, 43, 44, 45, 46, 47] (by decide +kernel) (by decide +kernel)
set_option maxRecDepth 20000 in
theorem gX7_sets_X7_holds : GoodIn wsX7_sets (wsV RX7 54 RX7 yX7_holds wsX7_holds) := goodIn_app (goodIn_of _ (by decide +kernel)) ggX7_sets_X7_holds
set_option maxRecDepth 20000 in
theorem ggX7_sets_X7_tileAt : GoodIn wsX7_sets wsX7_tileAt := goodIn_r _ [21] (by decide +kernel) (by decide +kernel)
set_option maxRecDepth 20000 in
theorem gX7_sets_X7_tileAt : GoodIn wsX7_sets (va_wsS RX7 47 yX7_tileAt wsX7_tileAt) := goodIn_app (goodIn_of _ (by decide +kernel)) ggX7_sets_X7_tileAt
theorem dX7_sets_0 : decode cX7_sets 0 = .ok (.iload_n 1, 1) := by decide +kernel
theorem dX7_sets_1 : decode cX7_sets 1 = .ok (.iload_n 2, 1) := by decide +kernel
theorem dX7_sets_2 : decode cX7_sets 2 = .ok (.invokestatic 101, 3) := by decide +kernel
theorem dX7_sets_5 : decode cX7_sets 5 = .ok (.istore 4, 2) := by decide +kernel
theorem dX7_sets_7 : decode cX7_sets 7 = .ok (.aload_n 0, 1) := by decide +kernel
theorem dX7_sets_8 : decode cX7_sets 8 = .ok (.iload 4, 2) := by decide +kernel
theorem dX7_sets_10 : decode cX7_sets 10 = .ok (.iconst 0, 1) := by decide +kernel
theorem dX7_sets_11 : decode cX7_sets 11 = .ok (.invokevirtual 94, 3) := by decide +kernel
theorem dX7_sets_14 : decode cX7_sets 14 = .ok (.istore 5, 2) := by decide +kernel
theorem dX7_sets_16 : decode cX7_sets 16 = .ok (.aload_n 0, 1) := by decide +kernel
theorem dX7_sets_17 : decode cX7_sets 17 = .ok (.iload_n 1, 1) := by decide +kernel
theorem dX7_sets_18 : decode cX7_sets 18 = .ok (.iload_n 2, 1) := by decide +kernel
theorem dX7_sets_19 : decode cX7_sets 19 = .ok (.invokestatic 84, 3) := by decide +kernel
theorem dX7_sets_22 : decode cX7_sets 22 = .ok (.iload_n 3, 1) := by decide +kernel
theorem dX7_sets_23 : decode cX7_sets 23 = .ok (.iconst 0, 1) := by decide +kernel
theorem dX7_sets_24 : decode cX7_sets 24 = .ok (.bipush 15, 2) := by decide +kernel
theorem dX7_sets_26 : decode cX7_sets 26 = .ok (.invokestatic 76, 3) := by decide +kernel
theorem dX7_sets_29 : decode cX7_sets 29 = .ok (.iconst 1, 1) := by decide +kernel
theorem dX7_sets_30 : decode cX7_sets 30 = .ok (.invokevirtual 54, 3) := by decide +kernel
theorem dX7_sets_33 : decode cX7_sets 33 = .ok (.ifCond .eq 16, 3) := by decide +kernel
theorem dX7_sets_36 : decode cX7_sets 36 = .ok (.aload_n 0, 1) := by decide +kernel
theorem dX7_sets_37 : decode cX7_sets 37 = .ok (.getfield 9, 3) := by decide +kernel
theorem dX7_sets_40 : decode cX7_sets 40 = .ok (.iload 4, 2) := by decide +kernel
theorem dX7_sets_42 : decode cX7_sets 42 = .ok (.invokestatic 47, 3) := by decide +kernel
theorem dX7_sets_45 : decode cX7_sets 45 = .ok (.iconst 0, 1) := by decide +kernel
theorem dX7_sets_46 : decode cX7_sets 46 = .ok (.iadd, 1) := by decide +kernel
theorem dX7_sets_47 : decode cX7_sets 47 = .ok (.iload_n 3, 1) := by decide +kernel
theorem dX7_sets_48 : decode cX7_sets 48 = .ok (.iastore, 1) := by decide +kernel
theorem dX7_sets_49 : decode cX7_sets 49 = .ok (.iload 5, 2) := by decide +kernel
theorem dX7_sets_51 : decode cX7_sets 51 = .ok (.ireturn, 1) := by decide +kernel
set_option maxRecDepth 20000 in
theorem ggX7_setTile_X7_begins : GoodIn wsX7_setTile wsX7_begins := goodIn_r _ [5, 6, 7, 8, 9, 4, 10, 49, 50, 51, 52, 53, 54, 55, 56, 57, 58, 59, 60, 61, 62, 63, 64, 65, 66, 67, 68, 69] (by decide +kernel) (by decide +kernel)
set_option maxRecDepth 20000 in
theorem gX7_setTile_X7_begins : GoodIn wsX7_setTile (wsV RX7 104 RX7 yX7_begins wsX7_begins) := goodIn_app (goodIn_of _ (by decide +kernel)) ggX7_setTile_X7_begins
set_option maxRecDepth 20000 in
theorem ggX7_setTile_X7_sets : GoodIn wsX7_setTile wsX7_sets := goodIn_r _ [14, 6, 15, 16, 4, 17, 18, 19, 20, 21, 22, 23, 24, 25, 26, 27, 28, 29, 30, 31, 32, 33, 34, 35, 36, 37, 38, 49, 50, 51, 52, 53, 54, 55, 56, 57, 58, 59, 60, 61, 62, 63, 64, 65, 66, 67, 68, 69] (by decide +kernel) (by decide +kernel)
set_option maxRecDepth 20000 in
theorem gX7_setTile_X7_sets : GoodIn wsX7_setTile (wsV RX7 107 RX7 yX7_sets wsX7_sets) := goodIn_app (goodIn_of _ (by decide +kernel)) ggX7_setTile_X7_sets
set_option maxRecDepth 20000 in
theorem ggX7_setTile_X7_ends : GoodIn wsX7_setTile wsX7_ends := goodIn_r _ [42, 38, 7, 6, 8, 9, 4, 10, 43, 44, 45, 46, 47, 48, 49, 50, 51, 52, 53, 54, 55, 56, 57, 58, 59, 60, 61, 62, 63, 64, 65, 66, 67, 68, 69] (by decide +kernel) (by decide +kernel)
set_option maxRecDepth 20000 in
theorem gX7_setTile_X7_ends : GoodIn wsX7_setTile (wsV RX7 111 RX7 yX7_ends wsX7_ends) := goodIn_app (goodIn_of _ (by decide +kernel)) ggX7_setTile_X7_ends
theorem dX7_setTile_0 : decode cX7_setTile 0 = .ok (.aload_n 0, 1) := by decide +kernel
theorem dX7_setTile_1 : decode cX7_setTile 1 = .ok (.invokevirtual 104, 3) := by decide +kernel
theorem dX7_setTile_4 : decode cX7_setTile 4 = .ok (.aload_n 0, 1) := by decide +kernel
theorem dX7_setTile_5 : decode cX7_setTile 5 = .ok (.aload_n 0, 1) := by decide +kernel
theorem dX7_setTile_6 : decode cX7_setTile 6 = .ok (.iload_n 1, 1) := by decide +kernel
theorem dX7_setTile_7 : decode cX7_setTile 7 = .ok (.iload_n 2, 1) := by decide +kernel
theorem dX7_setTile_8 : decode cX7_setTile 8 = .ok (.iload_n 3, 1) := by decide +kernel
theorem dX7_setTile_9 : decode cX7_setTile 9 = .ok (.invokevirtual 107, 3) := by decide +kernel
theorem dX7_setTile_12 : decode cX7_setTile 12 = .ok (.invokevirtual 111, 3) := by decide +kernel
theorem dX7_setTile_15 : decode cX7_setTile 15 = .ok (.ireturn, 1) := by decide +kernel
set_option maxRecDepth 20000 in
theorem ggX7_turns_X7_cellAt : GoodIn wsX7_turns wsX7_cellAt := goodIn_r _ [5, 6, 7, 4, 8, 9, 10, 11, 12, 13, 14] (by decide +kernel) (by decide +kernel)
set_option maxRecDepth 20000 in
theorem gX7_turns_X7_cellAt : GoodIn wsX7_turns (va_wsS RX7 101 yX7_cellAt wsX7_cellAt) := goodIn_app (goodIn_of _ (by decide +kernel)) ggX7_turns_X7_cellAt
set_option maxRecDepth 20000 in
theorem ggX7_turns_X7_isCell : GoodIn wsX7_turns wsX7_isCell := goodIn_r _ [8, 9, 10, 4, 11, 12, 13, 14] (by decide +kernel) (by decide +kernel)
set_option maxRecDepth 20000 in
theorem gX7_turns_X7_isCell : GoodIn wsX7_turns (va_wsS RX7 84 yX7_isCell wsX7_isCell) := goodIn_app (goodIn_of _ (by decide +kernel)) ggX7_turns_X7_isCell
set_option maxRecDepth 20000 in
theorem ggX7_turns_X7_isIn : GoodIn wsX7_turns wsX7_isIn := goodIn_r _ [14] (by decide +kernel) (by decide +kernel)
set_option maxRecDepth 20000 in
theorem gX7_turns_X7_isIn : GoodIn wsX7_turns (va_wsS RX7 76 yX7_isIn wsX7_isIn) := goodIn_app (goodIn_of _ (by decide +kernel)) ggX7_turns_X7_isIn
set_option maxRecDepth 20000 in
theorem ggX7_turns_X7_of : GoodIn wsX7_turns wsX7_of := goodIn_r _ [18, 1, 19, 20, 4, 21, 27, 28, 29, 30, 31, 32, 33, 34, 35, 36, 37, 38, 39, 40, 41, 42, 43, 44, 45, 46, 47] (by decide +kernel) (by decide +kernel)
set_option maxRecDepth 20000 in
theorem gX7_turns_X7_of : GoodIn wsX7_turns (wsV RX7 94 RX7 yX7_of wsX7_of) := goodIn_app (goodIn_of _ (by decide +kernel)) ggX7_turns_X7_of
set_option maxRecDepth 20000 in
theorem ggX7_turns_X7_holds : GoodIn wsX7_turns wsX7_holds := goodIn_r _ [25, 26, 27, 28, 29, 30, 31, 32, 33, 34, 35, 36, 37, 38, 39, 40, 41, 42, 43, 44, 45, 46, 47] (by decide +kernel) (by decide +kernel)
set_option maxRecDepth 20000 in
theorem gX7_turns_X7_holds : GoodIn wsX7_turns (wsV RX7 54 RX7 yX7_holds wsX7_holds) := goodIn_app (goodIn_of _ (by decide +kernel)) ggX7_turns_X7_holds
set_option maxRecDepth 20000 in
theorem ggX7_turns_X7_tileAt : GoodIn wsX7_turns wsX7_tileAt := goodIn_r _ [21] (by decide +kernel) (by decide +kernel)
set_option maxRecDepth 20000 in
theorem gX7_turns_X7_tileAt : GoodIn wsX7_turns (va_wsS RX7 47 yX7_tileAt wsX7_tileAt) := goodIn_app (goodIn_of _ (by decide +kernel)) ggX7_turns_X7_tileAt
theorem dX7_turns_0 : decode cX7_turns 0 = .ok (.iload_n 1, 1) := by decide +kernel
theorem dX7_turns_1 : decode cX7_turns 1 = .ok (.iload_n 2, 1) := by decide +kernel
theorem dX7_turns_2 : decode cX7_turns 2 = .ok (.invokestatic 101, 3) := by decide +kernel
theorem dX7_turns_5 : decode cX7_turns 5 = .ok (.istore 4, 2) := by decide +kernel
theorem dX7_turns_7 : decode cX7_turns 7 = .ok (.aload_n 0, 1) := by decide +kernel
theorem dX7_turns_8 : decode cX7_turns 8 = .ok (.iload_n 1, 1) := by decide +kernel
theorem dX7_turns_9 : decode cX7_turns 9 = .ok (.iload_n 2, 1) := by decide +kernel
theorem dX7_turns_10 : decode cX7_turns 10 = .ok (.invokestatic 84, 3) := by decide +kernel
theorem dX7_turns_13 : decode cX7_turns 13 = .ok (.iload_n 3, 1) := by decide +kernel
theorem dX7_turns_14 : decode cX7_turns 14 = .ok (.iconst 1, 1) := by decide +kernel
theorem dX7_turns_15 : decode cX7_turns 15 = .ok (.iconst 3, 1) := by decide +kernel
theorem dX7_turns_16 : decode cX7_turns 16 = .ok (.invokestatic 76, 3) := by decide +kernel
theorem dX7_turns_19 : decode cX7_turns 19 = .ok (.aload_n 0, 1) := by decide +kernel
theorem dX7_turns_20 : decode cX7_turns 20 = .ok (.iload 4, 2) := by decide +kernel
theorem dX7_turns_22 : decode cX7_turns 22 = .ok (.iconst 1, 1) := by decide +kernel
theorem dX7_turns_23 : decode cX7_turns 23 = .ok (.invokevirtual 94, 3) := by decide +kernel
theorem dX7_turns_26 : decode cX7_turns 26 = .ok (.ifCond .ne 7, 3) := by decide +kernel
theorem dX7_turns_29 : decode cX7_turns 29 = .ok (.iconst 1, 1) := by decide +kernel
theorem dX7_turns_30 : decode cX7_turns 30 = .ok (.goto 4, 3) := by decide +kernel
theorem dX7_turns_33 : decode cX7_turns 33 = .ok (.iconst 0, 1) := by decide +kernel
theorem dX7_turns_34 : decode cX7_turns 34 = .ok (.invokevirtual 54, 3) := by decide +kernel
theorem dX7_turns_37 : decode cX7_turns 37 = .ok (.ifCond .ne 5, 3) := by decide +kernel
theorem dX7_turns_40 : decode cX7_turns 40 = .ok (.iconst 0, 1) := by decide +kernel
theorem dX7_turns_41 : decode cX7_turns 41 = .ok (.ireturn, 1) := by decide +kernel
theorem dX7_turns_42 : decode cX7_turns 42 = .ok (.aload_n 0, 1) := by decide +kernel
theorem dX7_turns_43 : decode cX7_turns 43 = .ok (.iload 4, 2) := by decide +kernel
theorem dX7_turns_45 : decode cX7_turns 45 = .ok (.iconst 0, 1) := by decide +kernel
theorem dX7_turns_46 : decode cX7_turns 46 = .ok (.invokevirtual 94, 3) := by decide +kernel
theorem dX7_turns_49 : decode cX7_turns 49 = .ok (.istore 5, 2) := by decide +kernel
theorem dX7_turns_51 : decode cX7_turns 51 = .ok (.iload 5, 2) := by decide +kernel
theorem dX7_turns_53 : decode cX7_turns 53 = .ok (.iload_n 3, 1) := by decide +kernel
theorem dX7_turns_54 : decode cX7_turns 54 = .ok (.ishl, 1) := by decide +kernel
theorem dX7_turns_55 : decode cX7_turns 55 = .ok (.iload 5, 2) := by decide +kernel
theorem dX7_turns_57 : decode cX7_turns 57 = .ok (.iconst 4, 1) := by decide +kernel
theorem dX7_turns_58 : decode cX7_turns 58 = .ok (.iload_n 3, 1) := by decide +kernel
theorem dX7_turns_59 : decode cX7_turns 59 = .ok (.isub, 1) := by decide +kernel
theorem dX7_turns_60 : decode cX7_turns 60 = .ok (.ishr, 1) := by decide +kernel
theorem dX7_turns_61 : decode cX7_turns 61 = .ok (.ior, 1) := by decide +kernel
theorem dX7_turns_62 : decode cX7_turns 62 = .ok (.bipush 15, 2) := by decide +kernel
theorem dX7_turns_64 : decode cX7_turns 64 = .ok (.iand, 1) := by decide +kernel
theorem dX7_turns_65 : decode cX7_turns 65 = .ok (.istore 6, 2) := by decide +kernel
theorem dX7_turns_67 : decode cX7_turns 67 = .ok (.aload_n 0, 1) := by decide +kernel
theorem dX7_turns_68 : decode cX7_turns 68 = .ok (.getfield 9, 3) := by decide +kernel
theorem dX7_turns_71 : decode cX7_turns 71 = .ok (.iload 4, 2) := by decide +kernel
theorem dX7_turns_73 : decode cX7_turns 73 = .ok (.invokestatic 47, 3) := by decide +kernel
theorem dX7_turns_76 : decode cX7_turns 76 = .ok (.iconst 0, 1) := by decide +kernel
theorem dX7_turns_77 : decode cX7_turns 77 = .ok (.iadd, 1) := by decide +kernel
theorem dX7_turns_78 : decode cX7_turns 78 = .ok (.iload 6, 2) := by decide +kernel
theorem dX7_turns_80 : decode cX7_turns 80 = .ok (.iastore, 1) := by decide +kernel
theorem dX7_turns_81 : decode cX7_turns 81 = .ok (.iload 6, 2) := by decide +kernel
theorem dX7_turns_83 : decode cX7_turns 83 = .ok (.ireturn, 1) := by decide +kernel
set_option maxRecDepth 20000 in
theorem ggX7_turnTile_X7_begins : GoodIn wsX7_turnTile wsX7_begins := goodIn_r _ [5, 6, 7, 8, 9, 4, 10, 49, 50, 51, 52, 53, 54, 55, 56, 57, 58, 59, 60, 61, 62, 63, 64, 65, 66, 67, 68, 69] (by decide +kernel) (by decide +kernel)
set_option maxRecDepth 20000 in
theorem gX7_turnTile_X7_begins : GoodIn wsX7_turnTile (wsV RX7 104 RX7 yX7_begins wsX7_begins) := goodIn_app (goodIn_of _ (by decide +kernel)) ggX7_turnTile_X7_begins
set_option maxRecDepth 20000 in
theorem ggX7_turnTile_X7_turns : GoodIn wsX7_turnTile wsX7_turns := goodIn_r _ [14, 6, 15, 16, 4, 17, 18, 19, 20, 21, 22, 23, 24, 25, 26, 27, 28, 29, 30, 31, 32, 33, 34, 35, 36, 37, 38, 49, 50, 51, 52, 53, 54, 55, 56, 57, 58, 59, 60, 61, 62, 63, 64, 65, 66, 67, 68, 69] (by decide +kernel) (by decide +kernel)
set_option maxRecDepth 20000 in
theorem gX7_turnTile_X7_turns : GoodIn wsX7_turnTile (wsV RX7 114 RX7 yX7_turns wsX7_turns) := goodIn_app (goodIn_of _ (by decide +kernel)) ggX7_turnTile_X7_turns
set_option maxRecDepth 20000 in
theorem ggX7_turnTile_X7_ends : GoodIn wsX7_turnTile wsX7_ends := goodIn_r _ [42, 38, 7, 6, 8, 9, 4, 10, 43, 44, 45, 46, 47, 48, 49, 50, 51, 52, 53, 54, 55, 56, 57, 58, 59, 60, 61, 62, 63, 64, 65, 66, 67, 68, 69] (by decide +kernel) (by decide +kernel)
set_option maxRecDepth 20000 in
theorem gX7_turnTile_X7_ends : GoodIn wsX7_turnTile (wsV RX7 111 RX7 yX7_ends wsX7_ends) := goodIn_app (goodIn_of _ (by decide +kernel)) ggX7_turnTile_X7_ends
theorem dX7_turnTile_0 : decode cX7_turnTile 0 = .ok (.aload_n 0, 1) := by decide +kernel
theorem dX7_turnTile_1 : decode cX7_turnTile 1 = .ok (.invokevirtual 104, 3) := by decide +kernel
theorem dX7_turnTile_4 : decode cX7_turnTile 4 = .ok (.aload_n 0, 1) := by decide +kernel
theorem dX7_turnTile_5 : decode cX7_turnTile 5 = .ok (.aload_n 0, 1) := by decide +kernel
theorem dX7_turnTile_6 : decode cX7_turnTile 6 = .ok (.iload_n 1, 1) := by decide +kernel
theorem dX7_turnTile_7 : decode cX7_turnTile 7 = .ok (.iload_n 2, 1) := by decide +kernel
theorem dX7_turnTile_8 : decode cX7_turnTile 8 = .ok (.iload_n 3, 1) := by decide +kernel
theorem dX7_turnTile_9 : decode cX7_turnTile 9 = .ok (.invokevirtual 114, 3) := by decide +kernel
theorem dX7_turnTile_12 : decode cX7_turnTile 12 = .ok (.invokevirtual 111, 3) := by decide +kernel
theorem dX7_turnTile_15 : decode cX7_turnTile 15 = .ok (.ireturn, 1) := by decide +kernel
set_option maxRecDepth 20000 in
theorem ggX7_pins_X7_cellAt : GoodIn wsX7_pins wsX7_cellAt := goodIn_r _ [5, 6, 7, 4, 8, 9, 10, 11, 12, 13, 14] (by decide +kernel) (by decide +kernel)
set_option maxRecDepth 20000 in
theorem gX7_pins_X7_cellAt : GoodIn wsX7_pins (va_wsS RX7 101 yX7_cellAt wsX7_cellAt) := goodIn_app (goodIn_of _ (by decide +kernel)) ggX7_pins_X7_cellAt
set_option maxRecDepth 20000 in
theorem ggX7_pins_X7_isCell : GoodIn wsX7_pins wsX7_isCell := goodIn_r _ [8, 9, 10, 4, 11, 12, 13, 14] (by decide +kernel) (by decide +kernel)
set_option maxRecDepth 20000 in
theorem gX7_pins_X7_isCell : GoodIn wsX7_pins (va_wsS RX7 84 yX7_isCell wsX7_isCell) := goodIn_app (goodIn_of _ (by decide +kernel)) ggX7_pins_X7_isCell
set_option maxRecDepth 20000 in
theorem ggX7_pins_X7_of : GoodIn wsX7_pins wsX7_of := goodIn_r _ [18, 1, 19, 20, 4, 21, 31, 32, 33, 34, 35, 36, 37, 38, 39, 40, 41, 42, 43, 44, 45, 46, 47, 48, 49, 50, 51] (by decide +kernel) (by decide +kernel)
set_option maxRecDepth 20000 in
theorem gX7_pins_X7_of : GoodIn wsX7_pins (wsV RX7 94 RX7 yX7_of wsX7_of) := goodIn_app (goodIn_of _ (by decide +kernel)) ggX7_pins_X7_of
set_option maxRecDepth 20000 in
theorem ggX7_pins_X7_holds : GoodIn wsX7_pins wsX7_holds := goodIn_r _ [25, 26, 31, 32, 33, 34, 35, 36, 37, 38, 39, 40, 41, 42, 43, 44, 45, 46, 47, 48, 49, 50, 51] (by decide +kernel) (by decide +kernel)
set_option maxRecDepth 20000 in
theorem gX7_pins_X7_holds : GoodIn wsX7_pins (wsV RX7 54 RX7 yX7_holds wsX7_holds) := goodIn_app (goodIn_of _ (by decide +kernel)) ggX7_pins_X7_holds
set_option maxRecDepth 20000 in
theorem ggX7_pins_X7_tileAt : GoodIn wsX7_pins wsX7_tileAt := goodIn_r _ [21] (by decide +kernel) (by decide +kernel)
set_option maxRecDepth 20000 in
theorem gX7_pins_X7_tileAt : GoodIn wsX7_pins (va_wsS RX7 47 yX7_tileAt wsX7_tileAt) := goodIn_app (goodIn_of _ (by decide +kernel)) ggX7_pins_X7_tileAt
set_option maxRecDepth 20000 in
theorem ggX7_pins_X7_tilesWith : GoodIn wsX7_pins wsX7_tilesWith := goodIn_r _ [30, 15, 16, 17, 4, 18, 1, 19, 20, 21, 31, 32, 33, 34, 35, 36, 37, 38, 39, 40, 41, 42, 43, 44, 45, 46, 47, 48, 49, 50, 51] (by decide +kernel) (by decide +kernel)
set_option maxRecDepth 20000 in
theorem gX7_pins_X7_tilesWith : GoodIn wsX7_pins (wsV RX7 117 RX7 yX7_tilesWith wsX7_tilesWith) := goodIn_app (goodIn_of _ (by decide +kernel)) ggX7_pins_X7_tilesWith
theorem dX7_pins_0 : decode cX7_pins 0 = .ok (.iload_n 1, 1) := by decide +kernel
theorem dX7_pins_1 : decode cX7_pins 1 = .ok (.iload_n 2, 1) := by decide +kernel
theorem dX7_pins_2 : decode cX7_pins 2 = .ok (.invokestatic 101, 3) := by decide +kernel
theorem dX7_pins_5 : decode cX7_pins 5 = .ok (.istore 4, 2) := by decide +kernel
theorem dX7_pins_7 : decode cX7_pins 7 = .ok (.aload_n 0, 1) := by decide +kernel
theorem dX7_pins_8 : decode cX7_pins 8 = .ok (.iload_n 1, 1) := by decide +kernel
theorem dX7_pins_9 : decode cX7_pins 9 = .ok (.iload_n 2, 1) := by decide +kernel
theorem dX7_pins_10 : decode cX7_pins 10 = .ok (.invokestatic 84, 3) := by decide +kernel
theorem dX7_pins_13 : decode cX7_pins 13 = .ok (.aload_n 0, 1) := by decide +kernel
theorem dX7_pins_14 : decode cX7_pins 14 = .ok (.iload 4, 2) := by decide +kernel
theorem dX7_pins_16 : decode cX7_pins 16 = .ok (.iconst 1, 1) := by decide +kernel
theorem dX7_pins_17 : decode cX7_pins 17 = .ok (.invokevirtual 94, 3) := by decide +kernel
theorem dX7_pins_20 : decode cX7_pins 20 = .ok (.iload_n 3, 1) := by decide +kernel
theorem dX7_pins_21 : decode cX7_pins 21 = .ok (.if_icmp .eq 7, 3) := by decide +kernel
theorem dX7_pins_24 : decode cX7_pins 24 = .ok (.iconst 1, 1) := by decide +kernel
theorem dX7_pins_25 : decode cX7_pins 25 = .ok (.goto 4, 3) := by decide +kernel
theorem dX7_pins_28 : decode cX7_pins 28 = .ok (.iconst 0, 1) := by decide +kernel
theorem dX7_pins_29 : decode cX7_pins 29 = .ok (.iconst 1, 1) := by decide +kernel
theorem dX7_pins_30 : decode cX7_pins 30 = .ok (.invokevirtual 54, 3) := by decide +kernel
theorem dX7_pins_33 : decode cX7_pins 33 = .ok (.ifCond .ne 5, 3) := by decide +kernel
theorem dX7_pins_36 : decode cX7_pins 36 = .ok (.iconst 0, 1) := by decide +kernel
theorem dX7_pins_37 : decode cX7_pins 37 = .ok (.ireturn, 1) := by decide +kernel
theorem dX7_pins_38 : decode cX7_pins 38 = .ok (.aload_n 0, 1) := by decide +kernel
theorem dX7_pins_39 : decode cX7_pins 39 = .ok (.getfield 9, 3) := by decide +kernel
theorem dX7_pins_42 : decode cX7_pins 42 = .ok (.iload 4, 2) := by decide +kernel
theorem dX7_pins_44 : decode cX7_pins 44 = .ok (.invokestatic 47, 3) := by decide +kernel
theorem dX7_pins_47 : decode cX7_pins 47 = .ok (.iconst 1, 1) := by decide +kernel
theorem dX7_pins_48 : decode cX7_pins 48 = .ok (.iadd, 1) := by decide +kernel
theorem dX7_pins_49 : decode cX7_pins 49 = .ok (.iload_n 3, 1) := by decide +kernel
theorem dX7_pins_50 : decode cX7_pins 50 = .ok (.iastore, 1) := by decide +kernel
theorem dX7_pins_51 : decode cX7_pins 51 = .ok (.aload_n 0, 1) := by decide +kernel
theorem dX7_pins_52 : decode cX7_pins 52 = .ok (.iconst 1, 1) := by decide +kernel
theorem dX7_pins_53 : decode cX7_pins 53 = .ok (.iconst 1, 1) := by decide +kernel
theorem dX7_pins_54 : decode cX7_pins 54 = .ok (.invokevirtual 117, 3) := by decide +kernel
theorem dX7_pins_57 : decode cX7_pins 57 = .ok (.ireturn, 1) := by decide +kernel
set_option maxRecDepth 20000 in
theorem ggX7_pin_X7_begins : GoodIn wsX7_pin wsX7_begins := goodIn_r _ [5, 6, 7, 8, 9, 4, 10, 53, 54, 55, 56, 57, 58, 59, 60, 61, 62, 63, 64, 65, 66, 67, 68, 69, 70, 71, 72, 73] (by decide +kernel) (by decide +kernel)
set_option maxRecDepth 20000 in
theorem gX7_pin_X7_begins : GoodIn wsX7_pin (wsV RX7 104 RX7 yX7_begins wsX7_begins) := goodIn_app (goodIn_of _ (by decide +kernel)) ggX7_pin_X7_begins
set_option maxRecDepth 20000 in
theorem ggX7_pin_X7_pins : GoodIn wsX7_pin wsX7_pins := goodIn_r _ [14, 6, 15, 16, 4, 17, 18, 19, 20, 21, 22, 23, 24, 25, 26, 27, 28, 29, 30, 31, 32, 33, 34, 35, 36, 37, 38, 39, 40, 41, 42, 53, 54, 55, 56, 57, 58, 59, 60, 61, 62, 63, 64, 65, 66, 67, 68, 69, 70, 71, 72, 73] (by decide +kernel) (by decide +kernel)
set_option maxRecDepth 20000 in
theorem gX7_pin_X7_pins : GoodIn wsX7_pin (wsV RX7 120 RX7 yX7_pins wsX7_pins) := goodIn_app (goodIn_of _ (by decide +kernel)) ggX7_pin_X7_pins
set_option maxRecDepth 20000 in
theorem ggX7_pin_X7_ends : GoodIn wsX7_pin wsX7_ends := goodIn_r _ [46, 38, 7, 6, 8, 9, 4, 10, 47, 48, 49, 50, 51, 52, 53, 54, 55, 56, 57, 58, 59, 60, 61, 62, 63, 64, 65, 66, 67, 68, 69, 70, 71, 72, 73] (by decide +kernel) (by decide +kernel)
set_option maxRecDepth 20000 in
theorem gX7_pin_X7_ends : GoodIn wsX7_pin (wsV RX7 111 RX7 yX7_ends wsX7_ends) := goodIn_app (goodIn_of _ (by decide +kernel)) ggX7_pin_X7_ends
theorem dX7_pin_0 : decode cX7_pin 0 = .ok (.aload_n 0, 1) := by decide +kernel
theorem dX7_pin_1 : decode cX7_pin 1 = .ok (.invokevirtual 104, 3) := by decide +kernel
theorem dX7_pin_4 : decode cX7_pin 4 = .ok (.aload_n 0, 1) := by decide +kernel
theorem dX7_pin_5 : decode cX7_pin 5 = .ok (.aload_n 0, 1) := by decide +kernel
theorem dX7_pin_6 : decode cX7_pin 6 = .ok (.iload_n 1, 1) := by decide +kernel
theorem dX7_pin_7 : decode cX7_pin 7 = .ok (.iload_n 2, 1) := by decide +kernel
theorem dX7_pin_8 : decode cX7_pin 8 = .ok (.iconst 1, 1) := by decide +kernel
theorem dX7_pin_9 : decode cX7_pin 9 = .ok (.invokevirtual 120, 3) := by decide +kernel
theorem dX7_pin_12 : decode cX7_pin 12 = .ok (.invokevirtual 111, 3) := by decide +kernel
theorem dX7_pin_15 : decode cX7_pin 15 = .ok (.ireturn, 1) := by decide +kernel
set_option maxRecDepth 20000 in
theorem ggX7_unpin_X7_begins : GoodIn wsX7_unpin wsX7_begins := goodIn_r _ [5, 6, 7, 8, 9, 4, 10, 53, 54, 55, 56, 57, 58, 59, 60, 61, 62, 63, 64, 65, 66, 67, 68, 69, 70, 71, 72, 73] (by decide +kernel) (by decide +kernel)
set_option maxRecDepth 20000 in
theorem gX7_unpin_X7_begins : GoodIn wsX7_unpin (wsV RX7 104 RX7 yX7_begins wsX7_begins) := goodIn_app (goodIn_of _ (by decide +kernel)) ggX7_unpin_X7_begins
set_option maxRecDepth 20000 in
theorem ggX7_unpin_X7_pins : GoodIn wsX7_unpin wsX7_pins := goodIn_r _ [14, 6, 15, 16, 4, 17, 18, 19, 20, 21, 22, 23, 24, 25, 26, 27, 28, 29, 30, 31, 32, 33, 34, 35, 36, 37, 38, 39, 40, 41, 42, 53, 54, 55, 56, 57, 58, 59, 60, 61, 62, 63, 64, 65, 66, 67, 68, 69, 70, 71, 72, 73] (by decide +kernel) (by decide +kernel)
set_option maxRecDepth 20000 in
theorem gX7_unpin_X7_pins : GoodIn wsX7_unpin (wsV RX7 120 RX7 yX7_pins wsX7_pins) := goodIn_app (goodIn_of _ (by decide +kernel)) ggX7_unpin_X7_pins
set_option maxRecDepth 20000 in
theorem ggX7_unpin_X7_ends : GoodIn wsX7_unpin wsX7_ends := goodIn_r _ [46, 38, 7, 6, 8, 9, 4, 10, 47, 48, 49, 50, 51, 52, 53, 54, 55, 56, 57, 58, 59, 60, 61, 62, 63, 64, 65, 66, 67, 68, 69, 70, 71, 72, 73] (by decide +kernel) (by decide +kernel)
set_option maxRecDepth 20000 in
theorem gX7_unpin_X7_ends : GoodIn wsX7_unpin (wsV RX7 111 RX7 yX7_ends wsX7_ends) := goodIn_app (goodIn_of _ (by decide +kernel)) ggX7_unpin_X7_ends
theorem dX7_unpin_0 : decode cX7_unpin 0 = .ok (.aload_n 0, 1) := by decide +kernel
theorem dX7_unpin_1 : decode cX7_unpin 1 = .ok (.invokevirtual 104, 3) := by decide +kernel
theorem dX7_unpin_4 : decode cX7_unpin 4 = .ok (.aload_n 0, 1) := by decide +kernel
theorem dX7_unpin_5 : decode cX7_unpin 5 = .ok (.aload_n 0, 1) := by decide +kernel
theorem dX7_unpin_6 : decode cX7_unpin 6 = .ok (.iload_n 1, 1) := by decide +kernel
theorem dX7_unpin_7 : decode cX7_unpin 7 = .ok (.iload_n 2, 1) := by decide +kernel
theorem dX7_unpin_8 : decode cX7_unpin 8 = .ok (.iconst 0, 1) := by decide +kernel
theorem dX7_unpin_9 : decode cX7_unpin 9 = .ok (.invokevirtual 120, 3) := by decide +kernel
theorem dX7_unpin_12 : decode cX7_unpin 12 = .ok (.invokevirtual 111, 3) := by decide +kernel
theorem dX7_unpin_15 : decode cX7_unpin 15 = .ok (.ireturn, 1) := by decide +kernel
theorem dX7_cellOf_0 : decode cX7_cellOf 0 = .ok (.iload_n 0, 1) := by decide +kernel
theorem dX7_cellOf_1 : decode cX7_cellOf 1 = .ok (.ifCond .eq 11, 3) := by decide +kernel
theorem dX7_cellOf_4 : decode cX7_cellOf 4 = .ok (.iconst 5, 1) := by decide +kernel
theorem dX7_cellOf_5 : decode cX7_cellOf 5 = .ok (.iload_n 1, 1) := by decide +kernel
theorem dX7_cellOf_6 : decode cX7_cellOf 6 = .ok (.imul, 1) := by decide +kernel
theorem dX7_cellOf_7 : decode cX7_cellOf 7 = .ok (.iload_n 2, 1) := by decide +kernel
theorem dX7_cellOf_8 : decode cX7_cellOf 8 = .ok (.iadd, 1) := by decide +kernel
theorem dX7_cellOf_9 : decode cX7_cellOf 9 = .ok (.goto 8, 3) := by decide +kernel
theorem dX7_cellOf_12 : decode cX7_cellOf 12 = .ok (.iconst 5, 1) := by decide +kernel
theorem dX7_cellOf_13 : decode cX7_cellOf 13 = .ok (.iload_n 2, 1) := by decide +kernel
theorem dX7_cellOf_14 : decode cX7_cellOf 14 = .ok (.imul, 1) := by decide +kernel
theorem dX7_cellOf_15 : decode cX7_cellOf 15 = .ok (.iload_n 1, 1) := by decide +kernel
theorem dX7_cellOf_16 : decode cX7_cellOf 16 = .ok (.iadd, 1) := by decide +kernel
theorem dX7_cellOf_17 : decode cX7_cellOf 17 = .ok (.ireturn, 1) := by decide +kernel
set_option maxRecDepth 20000 in
theorem ggX7_isFree_X7_isLine : GoodIn wsX7_isFree wsX7_isLine := goodIn_r _ [4, 5, 6, 3, 7] (by decide +kernel) (by decide +kernel)
set_option maxRecDepth 20000 in
theorem gX7_isFree_X7_isLine : GoodIn wsX7_isFree (va_wsS RX7 80 yX7_isLine wsX7_isLine) := goodIn_app (goodIn_of _ (by decide +kernel)) ggX7_isFree_X7_isLine
set_option maxRecDepth 20000 in
theorem ggX7_isFree_X7_cellOf : GoodIn wsX7_isFree wsX7_cellOf := goodIn_r _ [10] (by decide +kernel) (by decide +kernel)
set_option maxRecDepth 20000 in
theorem gX7_isFree_X7_cellOf : GoodIn wsX7_isFree (va_wsS RX7 123 yX7_cellOf wsX7_cellOf) := goodIn_app (goodIn_of _ (by decide +kernel)) ggX7_isFree_X7_cellOf
set_option maxRecDepth 20000 in
theorem ggX7_isFree_X7_of : GoodIn wsX7_isFree wsX7_of := goodIn_r _ [14, 15, 16, 17, 3, 18, 19, 20, 21, 22, 23, 24, 25, 26, 27, 28, 29, 30, 31, 32, 33, 34, 35, 36, 37, 38, 39] (by decide +kernel) (by decide +kernel)
set_option maxRecDepth 20000 in
theorem gX7_isFree_X7_of : GoodIn wsX7_isFree (wsV RX7 94 RX7 yX7_of wsX7_of) := goodIn_app (goodIn_of _ (by decide +kernel)) ggX7_isFree_X7_of
theorem dX7_isFree_0 : decode cX7_isFree 0 = .ok (.iconst 1, 1) := by decide +kernel
theorem dX7_isFree_1 : decode cX7_isFree 1 = .ok (.istore_n 3, 1) := by decide +kernel
theorem dX7_isFree_2 : decode cX7_isFree 2 = .ok (.iconst 0, 1) := by decide +kernel
theorem dX7_isFree_3 : decode cX7_isFree 3 = .ok (.istore 4, 2) := by decide +kernel
theorem dX7_isFree_5 : decode cX7_isFree 5 = .ok (.iload 4, 2) := by decide +kernel
theorem dX7_isFree_7 : decode cX7_isFree 7 = .ok (.iconst 5, 1) := by decide +kernel
theorem dX7_isFree_8 : decode cX7_isFree 8 = .ok (.if_icmp .ge 41, 3) := by decide +kernel
theorem dX7_isFree_11 : decode cX7_isFree 11 = .ok (.iload_n 2, 1) := by decide +kernel
theorem dX7_isFree_12 : decode cX7_isFree 12 = .ok (.invokestatic 80, 3) := by decide +kernel
theorem dX7_isFree_15 : decode cX7_isFree 15 = .ok (.ifCond .eq 34, 3) := by decide +kernel
theorem dX7_isFree_18 : decode cX7_isFree 18 = .ok (.iload_n 3, 1) := by decide +kernel
theorem dX7_isFree_19 : decode cX7_isFree 19 = .ok (.ifCond .eq 22, 3) := by decide +kernel
theorem dX7_isFree_22 : decode cX7_isFree 22 = .ok (.aload_n 0, 1) := by decide +kernel
theorem dX7_isFree_23 : decode cX7_isFree 23 = .ok (.iload_n 1, 1) := by decide +kernel
theorem dX7_isFree_24 : decode cX7_isFree 24 = .ok (.iload_n 2, 1) := by decide +kernel
theorem dX7_isFree_25 : decode cX7_isFree 25 = .ok (.iload 4, 2) := by decide +kernel
theorem dX7_isFree_27 : decode cX7_isFree 27 = .ok (.invokestatic 123, 3) := by decide +kernel
theorem dX7_isFree_30 : decode cX7_isFree 30 = .ok (.iconst 1, 1) := by decide +kernel
theorem dX7_isFree_31 : decode cX7_isFree 31 = .ok (.invokevirtual 94, 3) := by decide +kernel
theorem dX7_isFree_34 : decode cX7_isFree 34 = .ok (.ifCond .ne 7, 3) := by decide +kernel
theorem dX7_isFree_37 : decode cX7_isFree 37 = .ok (.iconst 1, 1) := by decide +kernel
theorem dX7_isFree_38 : decode cX7_isFree 38 = .ok (.goto 4, 3) := by decide +kernel
theorem dX7_isFree_41 : decode cX7_isFree 41 = .ok (.iconst 0, 1) := by decide +kernel
theorem dX7_isFree_42 : decode cX7_isFree 42 = .ok (.istore_n 3, 1) := by decide +kernel
theorem dX7_isFree_43 : decode cX7_isFree 43 = .ok (.iinc 4 1, 3) := by decide +kernel
theorem dX7_isFree_46 : decode cX7_isFree 46 = .ok (.goto (-41), 3) := by decide +kernel
theorem dX7_isFree_49 : decode cX7_isFree 49 = .ok (.iload_n 3, 1) := by decide +kernel
theorem dX7_isFree_50 : decode cX7_isFree 50 = .ok (.ireturn, 1) := by decide +kernel
set_option maxRecDepth 20000 in
theorem ggX7_goesTo_X7_cellOf : GoodIn wsX7_goesTo wsX7_cellOf := goodIn_r _ [4] (by decide +kernel) (by decide +kernel)
set_option maxRecDepth 20000 in
theorem gX7_goesTo_X7_cellOf : GoodIn wsX7_goesTo (va_wsS RX7 123 yX7_cellOf wsX7_cellOf) := goodIn_app (goodIn_of _ (by decide +kernel)) ggX7_goesTo_X7_cellOf
theorem dX7_goesTo_0 : decode cX7_goesTo 0 = .ok (.iload_n 1, 1) := by decide +kernel
theorem dX7_goesTo_1 : decode cX7_goesTo 1 = .ok (.ifCond .eq 9, 3) := by decide +kernel
theorem dX7_goesTo_4 : decode cX7_goesTo 4 = .ok (.iload_n 0, 1) := by decide +kernel
theorem dX7_goesTo_5 : decode cX7_goesTo 5 = .ok (.iconst 5, 1) := by decide +kernel
theorem dX7_goesTo_6 : decode cX7_goesTo 6 = .ok (.idiv, 1) := by decide +kernel
theorem dX7_goesTo_7 : decode cX7_goesTo 7 = .ok (.goto 6, 3) := by decide +kernel
theorem dX7_goesTo_10 : decode cX7_goesTo 10 = .ok (.iload_n 0, 1) := by decide +kernel
theorem dX7_goesTo_11 : decode cX7_goesTo 11 = .ok (.iconst 5, 1) := by decide +kernel
theorem dX7_goesTo_12 : decode cX7_goesTo 12 = .ok (.irem, 1) := by decide +kernel
theorem dX7_goesTo_13 : decode cX7_goesTo 13 = .ok (.istore 4, 2) := by decide +kernel
theorem dX7_goesTo_15 : decode cX7_goesTo 15 = .ok (.iload_n 1, 1) := by decide +kernel
theorem dX7_goesTo_16 : decode cX7_goesTo 16 = .ok (.ifCond .eq 9, 3) := by decide +kernel
theorem dX7_goesTo_19 : decode cX7_goesTo 19 = .ok (.iload_n 0, 1) := by decide +kernel
theorem dX7_goesTo_20 : decode cX7_goesTo 20 = .ok (.iconst 5, 1) := by decide +kernel
theorem dX7_goesTo_21 : decode cX7_goesTo 21 = .ok (.irem, 1) := by decide +kernel
theorem dX7_goesTo_22 : decode cX7_goesTo 22 = .ok (.goto 6, 3) := by decide +kernel
theorem dX7_goesTo_25 : decode cX7_goesTo 25 = .ok (.iload_n 0, 1) := by decide +kernel
theorem dX7_goesTo_26 : decode cX7_goesTo 26 = .ok (.iconst 5, 1) := by decide +kernel
theorem dX7_goesTo_27 : decode cX7_goesTo 27 = .ok (.idiv, 1) := by decide +kernel
theorem dX7_goesTo_28 : decode cX7_goesTo 28 = .ok (.istore 5, 2) := by decide +kernel
theorem dX7_goesTo_30 : decode cX7_goesTo 30 = .ok (.iload 4, 2) := by decide +kernel
theorem dX7_goesTo_32 : decode cX7_goesTo 32 = .ok (.iload_n 2, 1) := by decide +kernel
theorem dX7_goesTo_33 : decode cX7_goesTo 33 = .ok (.if_icmp .ne 19, 3) := by decide +kernel
theorem dX7_goesTo_36 : decode cX7_goesTo 36 = .ok (.iload_n 1, 1) := by decide +kernel
theorem dX7_goesTo_37 : decode cX7_goesTo 37 = .ok (.iload_n 2, 1) := by decide +kernel
theorem dX7_goesTo_38 : decode cX7_goesTo 38 = .ok (.iload 5, 2) := by decide +kernel
theorem dX7_goesTo_40 : decode cX7_goesTo 40 = .ok (.iload_n 3, 1) := by decide +kernel
theorem dX7_goesTo_41 : decode cX7_goesTo 41 = .ok (.iadd, 1) := by decide +kernel
theorem dX7_goesTo_42 : decode cX7_goesTo 42 = .ok (.iconst 5, 1) := by decide +kernel
theorem dX7_goesTo_43 : decode cX7_goesTo 43 = .ok (.iadd, 1) := by decide +kernel
theorem dX7_goesTo_44 : decode cX7_goesTo 44 = .ok (.iconst 5, 1) := by decide +kernel
theorem dX7_goesTo_45 : decode cX7_goesTo 45 = .ok (.irem, 1) := by decide +kernel
theorem dX7_goesTo_46 : decode cX7_goesTo 46 = .ok (.invokestatic 123, 3) := by decide +kernel
theorem dX7_goesTo_49 : decode cX7_goesTo 49 = .ok (.goto 4, 3) := by decide +kernel
theorem dX7_goesTo_52 : decode cX7_goesTo 52 = .ok (.iload_n 0, 1) := by decide +kernel
theorem dX7_goesTo_53 : decode cX7_goesTo 53 = .ok (.ireturn, 1) := by decide +kernel
set_option maxRecDepth 20000 in
theorem ggX7_slides_X7_cellOf : GoodIn wsX7_slides wsX7_cellOf := goodIn_r _ [6] (by decide +kernel) (by decide +kernel)
set_option maxRecDepth 20000 in
theorem gX7_slides_X7_cellOf : GoodIn wsX7_slides (va_wsS RX7 123 yX7_cellOf wsX7_cellOf) := goodIn_app (goodIn_of _ (by decide +kernel)) ggX7_slides_X7_cellOf
set_option maxRecDepth 20000 in
theorem ggX7_slides_X7_of : GoodIn wsX7_slides wsX7_of := goodIn_r _ [10, 2, 11, 12, 5, 13, 20, 21, 22, 23, 24, 25, 26, 27, 28, 29, 30, 31, 32, 33, 34, 35, 36, 37, 38, 39, 40] (by decide +kernel) (by decide +kernel)
set_option maxRecDepth 20000 in
theorem gX7_slides_X7_of : GoodIn wsX7_slides (wsV RX7 94 RX7 yX7_of wsX7_of) := goodIn_app (goodIn_of _ (by decide +kernel)) ggX7_slides_X7_of
set_option maxRecDepth 20000 in
theorem ggX7_slides_X7_tileAt : GoodIn wsX7_slides wsX7_tileAt := goodIn_r _ [13] (by decide +kernel) (by decide +kernel)
set_option maxRecDepth 20000 in
theorem gX7_slides_X7_tileAt : GoodIn wsX7_slides (va_wsS RX7 47 yX7_tileAt wsX7_tileAt) := goodIn_app (goodIn_of _ (by decide +kernel)) ggX7_slides_X7_tileAt
set_option maxRecDepth 20000 in
theorem ggX7_slides_X7_isIn : GoodIn wsX7_slides wsX7_isIn := goodIn_r _ [16] (by decide +kernel) (by decide +kernel)
set_option maxRecDepth 20000 in
theorem gX7_slides_X7_isIn : GoodIn wsX7_slides (va_wsS RX7 76 yX7_isIn wsX7_isIn) := goodIn_app (goodIn_of _ (by decide +kernel)) ggX7_slides_X7_isIn
set_option maxRecDepth 20000 in
theorem ggX7_slides_X7_goesTo : GoodIn wsX7_slides wsX7_goesTo := goodIn_r _ [19, 3, 4, 5, 6] (by decide +kernel) (by decide +kernel)
set_option maxRecDepth 20000 in
theorem gX7_slides_X7_goesTo : GoodIn wsX7_slides (va_wsS RX7 127 yX7_goesTo wsX7_goesTo) := goodIn_app (goodIn_of _ (by decide +kernel)) ggX7_slides_X7_goesTo
theorem dX7_slides_0 : decode cX7_slides 0 = .ok (.iconst 0, 1) := by decide +kernel
theorem dX7_slides_1 : decode cX7_slides 1 = .ok (.istore 4, 2) := by decide +kernel
theorem dX7_slides_3 : decode cX7_slides 3 = .ok (.iload 4, 2) := by decide +kernel
theorem dX7_slides_5 : decode cX7_slides 5 = .ok (.iconst 5, 1) := by decide +kernel
theorem dX7_slides_6 : decode cX7_slides 6 = .ok (.if_icmp .ge 59, 3) := by decide +kernel
theorem dX7_slides_9 : decode cX7_slides 9 = .ok (.iload 4, 2) := by decide +kernel
theorem dX7_slides_11 : decode cX7_slides 11 = .ok (.iload_n 3, 1) := by decide +kernel
theorem dX7_slides_12 : decode cX7_slides 12 = .ok (.iadd, 1) := by decide +kernel
theorem dX7_slides_13 : decode cX7_slides 13 = .ok (.iconst 5, 1) := by decide +kernel
theorem dX7_slides_14 : decode cX7_slides 14 = .ok (.iadd, 1) := by decide +kernel
theorem dX7_slides_15 : decode cX7_slides 15 = .ok (.iconst 5, 1) := by decide +kernel
theorem dX7_slides_16 : decode cX7_slides 16 = .ok (.irem, 1) := by decide +kernel
theorem dX7_slides_17 : decode cX7_slides 17 = .ok (.istore 5, 2) := by decide +kernel
theorem dX7_slides_19 : decode cX7_slides 19 = .ok (.iconst 0, 1) := by decide +kernel
theorem dX7_slides_20 : decode cX7_slides 20 = .ok (.istore 6, 2) := by decide +kernel
theorem dX7_slides_22 : decode cX7_slides 22 = .ok (.iload 6, 2) := by decide +kernel
theorem dX7_slides_24 : decode cX7_slides 24 = .ok (.iconst 3, 1) := by decide +kernel
theorem dX7_slides_25 : decode cX7_slides 25 = .ok (.if_icmp .ge 34, 3) := by decide +kernel
theorem dX7_slides_28 : decode cX7_slides 28 = .ok (.aload_n 0, 1) := by decide +kernel
theorem dX7_slides_29 : decode cX7_slides 29 = .ok (.getfield 32, 3) := by decide +kernel
theorem dX7_slides_32 : decode cX7_slides 32 = .ok (.iconst 3, 1) := by decide +kernel
theorem dX7_slides_33 : decode cX7_slides 33 = .ok (.iload 5, 2) := by decide +kernel
theorem dX7_slides_35 : decode cX7_slides 35 = .ok (.imul, 1) := by decide +kernel
theorem dX7_slides_36 : decode cX7_slides 36 = .ok (.iload 6, 2) := by decide +kernel
theorem dX7_slides_38 : decode cX7_slides 38 = .ok (.iadd, 1) := by decide +kernel
theorem dX7_slides_39 : decode cX7_slides 39 = .ok (.aload_n 0, 1) := by decide +kernel
theorem dX7_slides_40 : decode cX7_slides 40 = .ok (.iload_n 1, 1) := by decide +kernel
theorem dX7_slides_41 : decode cX7_slides 41 = .ok (.iload_n 2, 1) := by decide +kernel
theorem dX7_slides_42 : decode cX7_slides 42 = .ok (.iload 4, 2) := by decide +kernel
theorem dX7_slides_44 : decode cX7_slides 44 = .ok (.invokestatic 123, 3) := by decide +kernel
theorem dX7_slides_47 : decode cX7_slides 47 = .ok (.iload 6, 2) := by decide +kernel
theorem dX7_slides_49 : decode cX7_slides 49 = .ok (.invokevirtual 94, 3) := by decide +kernel
theorem dX7_slides_52 : decode cX7_slides 52 = .ok (.iastore, 1) := by decide +kernel
theorem dX7_slides_53 : decode cX7_slides 53 = .ok (.iinc 6 1, 3) := by decide +kernel
theorem dX7_slides_56 : decode cX7_slides 56 = .ok (.goto (-34), 3) := by decide +kernel
theorem dX7_slides_59 : decode cX7_slides 59 = .ok (.iinc 4 1, 3) := by decide +kernel
theorem dX7_slides_62 : decode cX7_slides 62 = .ok (.goto (-59), 3) := by decide +kernel
theorem dX7_slides_65 : decode cX7_slides 65 = .ok (.iconst 0, 1) := by decide +kernel
theorem dX7_slides_66 : decode cX7_slides 66 = .ok (.istore 4, 2) := by decide +kernel
theorem dX7_slides_68 : decode cX7_slides 68 = .ok (.iload 4, 2) := by decide +kernel
theorem dX7_slides_70 : decode cX7_slides 70 = .ok (.iconst 5, 1) := by decide +kernel
theorem dX7_slides_71 : decode cX7_slides 71 = .ok (.if_icmp .ge 54, 3) := by decide +kernel
theorem dX7_slides_74 : decode cX7_slides 74 = .ok (.iconst 0, 1) := by decide +kernel
theorem dX7_slides_75 : decode cX7_slides 75 = .ok (.istore 5, 2) := by decide +kernel
theorem dX7_slides_77 : decode cX7_slides 77 = .ok (.iload 5, 2) := by decide +kernel
theorem dX7_slides_79 : decode cX7_slides 79 = .ok (.iconst 3, 1) := by decide +kernel
theorem dX7_slides_80 : decode cX7_slides 80 = .ok (.if_icmp .ge 39, 3) := by decide +kernel
theorem dX7_slides_83 : decode cX7_slides 83 = .ok (.aload_n 0, 1) := by decide +kernel
theorem dX7_slides_84 : decode cX7_slides 84 = .ok (.getfield 9, 3) := by decide +kernel
theorem dX7_slides_87 : decode cX7_slides 87 = .ok (.iload_n 1, 1) := by decide +kernel
theorem dX7_slides_88 : decode cX7_slides 88 = .ok (.iload_n 2, 1) := by decide +kernel
theorem dX7_slides_89 : decode cX7_slides 89 = .ok (.iload 4, 2) := by decide +kernel
theorem dX7_slides_91 : decode cX7_slides 91 = .ok (.invokestatic 123, 3) := by decide +kernel
theorem dX7_slides_94 : decode cX7_slides 94 = .ok (.invokestatic 47, 3) := by decide +kernel
theorem dX7_slides_97 : decode cX7_slides 97 = .ok (.iload 5, 2) := by decide +kernel
theorem dX7_slides_99 : decode cX7_slides 99 = .ok (.iadd, 1) := by decide +kernel
theorem dX7_slides_100 : decode cX7_slides 100 = .ok (.aload_n 0, 1) := by decide +kernel
theorem dX7_slides_101 : decode cX7_slides 101 = .ok (.getfield 32, 3) := by decide +kernel
theorem dX7_slides_104 : decode cX7_slides 104 = .ok (.iconst 3, 1) := by decide +kernel
theorem dX7_slides_105 : decode cX7_slides 105 = .ok (.iload 4, 2) := by decide +kernel
theorem dX7_slides_107 : decode cX7_slides 107 = .ok (.imul, 1) := by decide +kernel
theorem dX7_slides_108 : decode cX7_slides 108 = .ok (.iload 5, 2) := by decide +kernel
theorem dX7_slides_110 : decode cX7_slides 110 = .ok (.iadd, 1) := by decide +kernel
theorem dX7_slides_111 : decode cX7_slides 111 = .ok (.iaload, 1) := by decide +kernel
theorem dX7_slides_112 : decode cX7_slides 112 = .ok (.iastore, 1) := by decide +kernel
theorem dX7_slides_113 : decode cX7_slides 113 = .ok (.iinc 5 1, 3) := by decide +kernel
theorem dX7_slides_116 : decode cX7_slides 116 = .ok (.goto (-39), 3) := by decide +kernel
theorem dX7_slides_119 : decode cX7_slides 119 = .ok (.iinc 4 1, 3) := by decide +kernel
theorem dX7_slides_122 : decode cX7_slides 122 = .ok (.goto (-54), 3) := by decide +kernel
theorem dX7_slides_125 : decode cX7_slides 125 = .ok (.iconst 0, 1) := by decide +kernel
theorem dX7_slides_126 : decode cX7_slides 126 = .ok (.istore 4, 2) := by decide +kernel
theorem dX7_slides_128 : decode cX7_slides 128 = .ok (.iload 4, 2) := by decide +kernel
theorem dX7_slides_130 : decode cX7_slides 130 = .ok (.bipush 6, 2) := by decide +kernel
theorem dX7_slides_132 : decode cX7_slides 132 = .ok (.if_icmp .ge 53, 3) := by decide +kernel
theorem dX7_slides_135 : decode cX7_slides 135 = .ok (.aload_n 0, 1) := by decide +kernel
theorem dX7_slides_136 : decode cX7_slides 136 = .ok (.getfield 9, 3) := by decide +kernel
theorem dX7_slides_139 : decode cX7_slides 139 = .ok (.iconst 3, 1) := by decide +kernel
theorem dX7_slides_140 : decode cX7_slides 140 = .ok (.iload 4, 2) := by decide +kernel
theorem dX7_slides_142 : decode cX7_slides 142 = .ok (.iadd, 1) := by decide +kernel
theorem dX7_slides_143 : decode cX7_slides 143 = .ok (.iaload, 1) := by decide +kernel
theorem dX7_slides_144 : decode cX7_slides 144 = .ok (.istore 5, 2) := by decide +kernel
theorem dX7_slides_146 : decode cX7_slides 146 = .ok (.aload_n 0, 1) := by decide +kernel
theorem dX7_slides_147 : decode cX7_slides 147 = .ok (.getfield 9, 3) := by decide +kernel
theorem dX7_slides_150 : decode cX7_slides 150 = .ok (.iconst 3, 1) := by decide +kernel
theorem dX7_slides_151 : decode cX7_slides 151 = .ok (.iload 4, 2) := by decide +kernel
theorem dX7_slides_153 : decode cX7_slides 153 = .ok (.iadd, 1) := by decide +kernel
theorem dX7_slides_154 : decode cX7_slides 154 = .ok (.iload 5, 2) := by decide +kernel
theorem dX7_slides_156 : decode cX7_slides 156 = .ok (.iconst 0, 1) := by decide +kernel
theorem dX7_slides_157 : decode cX7_slides 157 = .ok (.bipush 24, 2) := by decide +kernel
theorem dX7_slides_159 : decode cX7_slides 159 = .ok (.invokestatic 76, 3) := by decide +kernel
theorem dX7_slides_162 : decode cX7_slides 162 = .ok (.ifCond .eq 14, 3) := by decide +kernel
theorem dX7_slides_165 : decode cX7_slides 165 = .ok (.iload 5, 2) := by decide +kernel
theorem dX7_slides_167 : decode cX7_slides 167 = .ok (.iload_n 1, 1) := by decide +kernel
theorem dX7_slides_168 : decode cX7_slides 168 = .ok (.iload_n 2, 1) := by decide +kernel
theorem dX7_slides_169 : decode cX7_slides 169 = .ok (.iload_n 3, 1) := by decide +kernel
theorem dX7_slides_170 : decode cX7_slides 170 = .ok (.invokestatic 127, 3) := by decide +kernel
theorem dX7_slides_173 : decode cX7_slides 173 = .ok (.goto 5, 3) := by decide +kernel
theorem dX7_slides_176 : decode cX7_slides 176 = .ok (.iload 5, 2) := by decide +kernel
theorem dX7_slides_178 : decode cX7_slides 178 = .ok (.iastore, 1) := by decide +kernel
theorem dX7_slides_179 : decode cX7_slides 179 = .ok (.iinc 4 1, 3) := by decide +kernel
theorem dX7_slides_182 : decode cX7_slides 182 = .ok (.goto (-54), 3) := by decide +kernel
theorem dX7_slides_185 : decode cX7_slides 185 = .ok (.iconst 0, 1) := by decide +kernel
theorem dX7_slides_186 : decode cX7_slides 186 = .ok (.istore 4, 2) := by decide +kernel
theorem dX7_slides_188 : decode cX7_slides 188 = .ok (.iload 4, 2) := by decide +kernel
theorem dX7_slides_190 : decode cX7_slides 190 = .ok (.aload_n 0, 1) := by decide +kernel
theorem dX7_slides_191 : decode cX7_slides 191 = .ok (.getfield 9, 3) := by decide +kernel
theorem dX7_slides_194 : decode cX7_slides 194 = .ok (.iconst 0, 1) := by decide +kernel
theorem dX7_slides_195 : decode cX7_slides 195 = .ok (.iaload, 1) := by decide +kernel
theorem dX7_slides_196 : decode cX7_slides 196 = .ok (.if_icmp .ge 35, 3) := by decide +kernel
theorem dX7_slides_199 : decode cX7_slides 199 = .ok (.aload_n 0, 1) := by decide +kernel
theorem dX7_slides_200 : decode cX7_slides 200 = .ok (.getfield 9, 3) := by decide +kernel
theorem dX7_slides_203 : decode cX7_slides 203 = .ok (.bipush 9, 2) := by decide +kernel
theorem dX7_slides_205 : decode cX7_slides 205 = .ok (.iload 4, 2) := by decide +kernel
theorem dX7_slides_207 : decode cX7_slides 207 = .ok (.iadd, 1) := by decide +kernel
theorem dX7_slides_208 : decode cX7_slides 208 = .ok (.aload_n 0, 1) := by decide +kernel
theorem dX7_slides_209 : decode cX7_slides 209 = .ok (.getfield 9, 3) := by decide +kernel
theorem dX7_slides_212 : decode cX7_slides 212 = .ok (.bipush 9, 2) := by decide +kernel
theorem dX7_slides_214 : decode cX7_slides 214 = .ok (.iload 4, 2) := by decide +kernel
theorem dX7_slides_216 : decode cX7_slides 216 = .ok (.iadd, 1) := by decide +kernel
theorem dX7_slides_217 : decode cX7_slides 217 = .ok (.iaload, 1) := by decide +kernel
theorem dX7_slides_218 : decode cX7_slides 218 = .ok (.iload_n 1, 1) := by decide +kernel
theorem dX7_slides_219 : decode cX7_slides 219 = .ok (.iload_n 2, 1) := by decide +kernel
theorem dX7_slides_220 : decode cX7_slides 220 = .ok (.iload_n 3, 1) := by decide +kernel
theorem dX7_slides_221 : decode cX7_slides 221 = .ok (.invokestatic 127, 3) := by decide +kernel
theorem dX7_slides_224 : decode cX7_slides 224 = .ok (.iastore, 1) := by decide +kernel
theorem dX7_slides_225 : decode cX7_slides 225 = .ok (.iinc 4 1, 3) := by decide +kernel
theorem dX7_slides_228 : decode cX7_slides 228 = .ok (.goto (-40), 3) := by decide +kernel
theorem dX7_slides_231 : decode cX7_slides 231 = .ok (.return_, 1) := by decide +kernel
set_option maxRecDepth 20000 in
theorem ggX7_shifts_X7_isLine : GoodIn wsX7_shifts wsX7_isLine := goodIn_r _ [5, 6, 7, 4, 8] (by decide +kernel) (by decide +kernel)
set_option maxRecDepth 20000 in
theorem gX7_shifts_X7_isLine : GoodIn wsX7_shifts (va_wsS RX7 80 yX7_isLine wsX7_isLine) := goodIn_app (goodIn_of _ (by decide +kernel)) ggX7_shifts_X7_isLine
set_option maxRecDepth 20000 in
theorem ggX7_shifts_X7_isIn : GoodIn wsX7_shifts wsX7_isIn := goodIn_r _ [8] (by decide +kernel) (by decide +kernel)
set_option maxRecDepth 20000 in
theorem gX7_shifts_X7_isIn : GoodIn wsX7_shifts (va_wsS RX7 76 yX7_isIn wsX7_isIn) := goodIn_app (goodIn_of _ (by decide +kernel)) ggX7_shifts_X7_isIn
set_option maxRecDepth 20000 in
theorem ggX7_shifts_X7_isFree : GoodIn wsX7_shifts wsX7_isFree := goodIn_r _ [12, 2, 3, 4, 5, 6, 7, 8, 13, 14, 15, 16, 17, 18, 19, 1, 20, 21, 22, 36, 37, 38, 39, 40, 41, 42, 43, 44, 45, 46, 47, 48, 49, 50, 51, 52, 53, 54, 55, 56] (by decide +kernel) (by decide +kernel)
set_option maxRecDepth 20000 in
theorem gX7_shifts_X7_isFree : GoodIn wsX7_shifts (wsV RX7 131 RX7 yX7_isFree wsX7_isFree) := goodIn_app (goodIn_of _ (by decide +kernel)) ggX7_shifts_X7_isFree
set_option maxRecDepth 20000 in
theorem ggX7_shifts_X7_holds : GoodIn wsX7_shifts wsX7_holds := goodIn_r _ [26, 27, 36, 37, 38, 39, 40, 41, 42, 43, 44, 45, 46, 47, 48, 49, 50, 51, 52, 53, 54, 55, 56] (by decide +kernel) (by decide +kernel)
set_option maxRecDepth 20000 in
theorem gX7_shifts_X7_holds : GoodIn wsX7_shifts (wsV RX7 54 RX7 yX7_holds wsX7_holds) := goodIn_app (goodIn_of _ (by decide +kernel)) ggX7_shifts_X7_holds
set_option maxRecDepth 20000 in
theorem ggX7_shifts_X7_slides : GoodIn wsX7_shifts wsX7_slides := goodIn_r _ [31, 32, 1, 13, 14, 4, 15, 16, 17, 18, 19, 20, 21, 22, 6, 7, 8, 33, 34, 35, 36, 37, 38, 39, 40, 41, 42, 43, 44, 45, 46, 47, 48, 49, 50, 51, 52, 53, 54, 55, 56] (by decide +kernel) (by decide +kernel)
set_option maxRecDepth 20000 in
theorem gX7_shifts_X7_slides : GoodIn wsX7_shifts (wsV RX7 135 RX7 yX7_slides wsX7_slides) := goodIn_app (goodIn_of _ (by decide +kernel)) ggX7_shifts_X7_slides
theorem dX7_shifts_0 : decode cX7_shifts 0 = .ok (.aload_n 0, 1) := by decide +kernel
theorem dX7_shifts_1 : decode cX7_shifts 1 = .ok (.iload_n 2, 1) := by decide +kernel
theorem dX7_shifts_2 : decode cX7_shifts 2 = .ok (.invokestatic 80, 3) := by decide +kernel
theorem dX7_shifts_5 : decode cX7_shifts 5 = .ok (.iload_n 3, 1) := by decide +kernel
theorem dX7_shifts_6 : decode cX7_shifts 6 = .ok (.ifCond .eq 17, 3) := by decide +kernel
theorem dX7_shifts_9 : decode cX7_shifts 9 = .ok (.iload_n 3, 1) := by decide +kernel
theorem dX7_shifts_10 : decode cX7_shifts 10 = .ok (.bipush (-4), 2) := by decide +kernel
theorem dX7_shifts_12 : decode cX7_shifts 12 = .ok (.iconst 4, 1) := by decide +kernel
theorem dX7_shifts_13 : decode cX7_shifts 13 = .ok (.invokestatic 76, 3) := by decide +kernel
theorem dX7_shifts_16 : decode cX7_shifts 16 = .ok (.ifCond .eq 7, 3) := by decide +kernel
theorem dX7_shifts_19 : decode cX7_shifts 19 = .ok (.iconst 1, 1) := by decide +kernel
theorem dX7_shifts_20 : decode cX7_shifts 20 = .ok (.goto 4, 3) := by decide +kernel
theorem dX7_shifts_23 : decode cX7_shifts 23 = .ok (.iconst 0, 1) := by decide +kernel
theorem dX7_shifts_24 : decode cX7_shifts 24 = .ok (.aload_n 0, 1) := by decide +kernel
theorem dX7_shifts_25 : decode cX7_shifts 25 = .ok (.iload_n 1, 1) := by decide +kernel
theorem dX7_shifts_26 : decode cX7_shifts 26 = .ok (.iload_n 2, 1) := by decide +kernel
theorem dX7_shifts_27 : decode cX7_shifts 27 = .ok (.invokevirtual 131, 3) := by decide +kernel
theorem dX7_shifts_30 : decode cX7_shifts 30 = .ok (.invokevirtual 54, 3) := by decide +kernel
theorem dX7_shifts_33 : decode cX7_shifts 33 = .ok (.ifCond .ne 5, 3) := by decide +kernel
theorem dX7_shifts_36 : decode cX7_shifts 36 = .ok (.iconst 0, 1) := by decide +kernel
theorem dX7_shifts_37 : decode cX7_shifts 37 = .ok (.ireturn, 1) := by decide +kernel
theorem dX7_shifts_38 : decode cX7_shifts 38 = .ok (.iconst 0, 1) := by decide +kernel
theorem dX7_shifts_39 : decode cX7_shifts 39 = .ok (.istore 4, 2) := by decide +kernel
theorem dX7_shifts_41 : decode cX7_shifts 41 = .ok (.iconst 0, 1) := by decide +kernel
theorem dX7_shifts_42 : decode cX7_shifts 42 = .ok (.istore 5, 2) := by decide +kernel
theorem dX7_shifts_44 : decode cX7_shifts 44 = .ok (.iload 5, 2) := by decide +kernel
theorem dX7_shifts_46 : decode cX7_shifts 46 = .ok (.aload_n 0, 1) := by decide +kernel
theorem dX7_shifts_47 : decode cX7_shifts 47 = .ok (.getfield 9, 3) := by decide +kernel
theorem dX7_shifts_50 : decode cX7_shifts 50 = .ok (.iconst 0, 1) := by decide +kernel
theorem dX7_shifts_51 : decode cX7_shifts 51 = .ok (.iaload, 1) := by decide +kernel
theorem dX7_shifts_52 : decode cX7_shifts 52 = .ok (.if_icmp .ge 50, 3) := by decide +kernel
theorem dX7_shifts_55 : decode cX7_shifts 55 = .ok (.aload_n 0, 1) := by decide +kernel
theorem dX7_shifts_56 : decode cX7_shifts 56 = .ok (.getfield 9, 3) := by decide +kernel
theorem dX7_shifts_59 : decode cX7_shifts 59 = .ok (.bipush 9, 2) := by decide +kernel
theorem dX7_shifts_61 : decode cX7_shifts 61 = .ok (.iload 5, 2) := by decide +kernel
theorem dX7_shifts_63 : decode cX7_shifts 63 = .ok (.iadd, 1) := by decide +kernel
theorem dX7_shifts_64 : decode cX7_shifts 64 = .ok (.iaload, 1) := by decide +kernel
theorem dX7_shifts_65 : decode cX7_shifts 65 = .ok (.istore 6, 2) := by decide +kernel
theorem dX7_shifts_67 : decode cX7_shifts 67 = .ok (.iload 4, 2) := by decide +kernel
theorem dX7_shifts_69 : decode cX7_shifts 69 = .ok (.iload_n 1, 1) := by decide +kernel
theorem dX7_shifts_70 : decode cX7_shifts 70 = .ok (.ifCond .eq 10, 3) := by decide +kernel
theorem dX7_shifts_73 : decode cX7_shifts 73 = .ok (.iload 6, 2) := by decide +kernel
theorem dX7_shifts_75 : decode cX7_shifts 75 = .ok (.iconst 5, 1) := by decide +kernel
theorem dX7_shifts_76 : decode cX7_shifts 76 = .ok (.idiv, 1) := by decide +kernel
theorem dX7_shifts_77 : decode cX7_shifts 77 = .ok (.goto 7, 3) := by decide +kernel
theorem dX7_shifts_80 : decode cX7_shifts 80 = .ok (.iload 6, 2) := by decide +kernel
theorem dX7_shifts_82 : decode cX7_shifts 82 = .ok (.iconst 5, 1) := by decide +kernel
theorem dX7_shifts_83 : decode cX7_shifts 83 = .ok (.irem, 1) := by decide +kernel
theorem dX7_shifts_84 : decode cX7_shifts 84 = .ok (.iload_n 2, 1) := by decide +kernel
theorem dX7_shifts_85 : decode cX7_shifts 85 = .ok (.if_icmp .ne 7, 3) := by decide +kernel
theorem dX7_shifts_88 : decode cX7_shifts 88 = .ok (.iconst 1, 1) := by decide +kernel
theorem dX7_shifts_89 : decode cX7_shifts 89 = .ok (.goto 4, 3) := by decide +kernel
theorem dX7_shifts_92 : decode cX7_shifts 92 = .ok (.iconst 0, 1) := by decide +kernel
theorem dX7_shifts_93 : decode cX7_shifts 93 = .ok (.iadd, 1) := by decide +kernel
theorem dX7_shifts_94 : decode cX7_shifts 94 = .ok (.istore 4, 2) := by decide +kernel
theorem dX7_shifts_96 : decode cX7_shifts 96 = .ok (.iinc 5 1, 3) := by decide +kernel
theorem dX7_shifts_99 : decode cX7_shifts 99 = .ok (.goto (-55), 3) := by decide +kernel
theorem dX7_shifts_102 : decode cX7_shifts 102 = .ok (.aload_n 0, 1) := by decide +kernel
theorem dX7_shifts_103 : decode cX7_shifts 103 = .ok (.iload_n 1, 1) := by decide +kernel
theorem dX7_shifts_104 : decode cX7_shifts 104 = .ok (.iload_n 2, 1) := by decide +kernel
theorem dX7_shifts_105 : decode cX7_shifts 105 = .ok (.iload_n 3, 1) := by decide +kernel
theorem dX7_shifts_106 : decode cX7_shifts 106 = .ok (.invokevirtual 135, 3) := by decide +kernel
theorem dX7_shifts_109 : decode cX7_shifts 109 = .ok (.aload_n 0, 1) := by decide +kernel
theorem dX7_shifts_110 : decode cX7_shifts 110 = .ok (.getfield 9, 3) := by decide +kernel
theorem dX7_shifts_113 : decode cX7_shifts 113 = .ok (.iconst 1, 1) := by decide +kernel
theorem dX7_shifts_114 : decode cX7_shifts 114 = .ok (.dup2, 1) := by decide +kernel
theorem dX7_shifts_115 : decode cX7_shifts 115 = .ok (.iaload, 1) := by decide +kernel
theorem dX7_shifts_116 : decode cX7_shifts 116 = .ok (.iconst 1, 1) := by decide +kernel
theorem dX7_shifts_117 : decode cX7_shifts 117 = .ok (.iadd, 1) := by decide +kernel
theorem dX7_shifts_118 : decode cX7_shifts 118 = .ok (.iastore, 1) := by decide +kernel
theorem dX7_shifts_119 : decode cX7_shifts 119 = .ok (.iload 4, 2) := by decide +kernel
theorem dX7_shifts_121 : decode cX7_shifts 121 = .ok (.ireturn, 1) := by decide +kernel
set_option maxRecDepth 20000 in
theorem ggX7_shiftRow_X7_begins : GoodIn wsX7_shiftRow wsX7_begins := goodIn_r _ [5, 6, 7, 8, 9, 4, 10, 58, 59, 60, 61, 62, 63, 64, 65, 66, 67, 68, 69, 70, 71, 72, 73, 74, 75, 76, 77, 78] (by decide +kernel) (by decide +kernel)
set_option maxRecDepth 20000 in
theorem gX7_shiftRow_X7_begins : GoodIn wsX7_shiftRow (wsV RX7 104 RX7 yX7_begins wsX7_begins) := goodIn_app (goodIn_of _ (by decide +kernel)) ggX7_shiftRow_X7_begins
set_option maxRecDepth 20000 in
theorem ggX7_shiftRow_X7_shifts : GoodIn wsX7_shiftRow wsX7_shifts := goodIn_r _ [14, 6, 15, 16, 4, 17, 18, 19, 20, 21, 22, 23, 24, 25, 26, 27, 28, 29, 30, 31, 32, 33, 34, 35, 36, 37, 38, 39, 40, 41, 42, 43, 44, 45, 46, 47, 58, 59, 60, 61, 62, 63, 64, 65, 66, 67, 68, 69, 70, 71, 72, 73, 74, 75, 76, 77, 78] (by decide +kernel) (by decide +kernel)
set_option maxRecDepth 20000 in
theorem gX7_shiftRow_X7_shifts : GoodIn wsX7_shiftRow (wsV RX7 139 RX7 yX7_shifts wsX7_shifts) := goodIn_app (goodIn_of _ (by decide +kernel)) ggX7_shiftRow_X7_shifts
set_option maxRecDepth 20000 in
theorem ggX7_shiftRow_X7_ends : GoodIn wsX7_shiftRow wsX7_ends := goodIn_r _ [51, 39, 7, 6, 8, 9, 4, 10, 52, 53, 54, 55, 56, 57, 58, 59, 60, 61, 62, 63, 64, 65, 66, 67, 68, 69, 70, 71, 72, 73, 74, 75, 76, 77, 78] (by decide +kernel) (by decide +kernel)
set_option maxRecDepth 20000 in
theorem gX7_shiftRow_X7_ends : GoodIn wsX7_shiftRow (wsV RX7 111 RX7 yX7_ends wsX7_ends) := goodIn_app (goodIn_of _ (by decide +kernel)) ggX7_shiftRow_X7_ends
theorem dX7_shiftRow_0 : decode cX7_shiftRow 0 = .ok (.aload_n 0, 1) := by decide +kernel
theorem dX7_shiftRow_1 : decode cX7_shiftRow 1 = .ok (.invokevirtual 104, 3) := by decide +kernel
theorem dX7_shiftRow_4 : decode cX7_shiftRow 4 = .ok (.aload_n 0, 1) := by decide +kernel
theorem dX7_shiftRow_5 : decode cX7_shiftRow 5 = .ok (.aload_n 0, 1) := by decide +kernel
theorem dX7_shiftRow_6 : decode cX7_shiftRow 6 = .ok (.iconst 1, 1) := by decide +kernel
theorem dX7_shiftRow_7 : decode cX7_shiftRow 7 = .ok (.iload_n 1, 1) := by decide +kernel
theorem dX7_shiftRow_8 : decode cX7_shiftRow 8 = .ok (.iload_n 2, 1) := by decide +kernel
theorem dX7_shiftRow_9 : decode cX7_shiftRow 9 = .ok (.invokevirtual 139, 3) := by decide +kernel
theorem dX7_shiftRow_12 : decode cX7_shiftRow 12 = .ok (.invokevirtual 111, 3) := by decide +kernel
theorem dX7_shiftRow_15 : decode cX7_shiftRow 15 = .ok (.ireturn, 1) := by decide +kernel
set_option maxRecDepth 20000 in
theorem ggX7_shiftColumn_X7_begins : GoodIn wsX7_shiftColumn wsX7_begins := goodIn_r _ [5, 6, 7, 8, 9, 4, 10, 58, 59, 60, 61, 62, 63, 64, 65, 66, 67, 68, 69, 70, 71, 72, 73, 74, 75, 76, 77, 78] (by decide +kernel) (by decide +kernel)
set_option maxRecDepth 20000 in
theorem gX7_shiftColumn_X7_begins : GoodIn wsX7_shiftColumn (wsV RX7 104 RX7 yX7_begins wsX7_begins) := goodIn_app (goodIn_of _ (by decide +kernel)) ggX7_shiftColumn_X7_begins
set_option maxRecDepth 20000 in
theorem ggX7_shiftColumn_X7_shifts : GoodIn wsX7_shiftColumn wsX7_shifts := goodIn_r _ [14, 6, 15, 16, 4, 17, 18, 19, 20, 21, 22, 23, 24, 25, 26, 27, 28, 29, 30, 31, 32, 33, 34, 35, 36, 37, 38, 39, 40, 41, 42, 43, 44, 45, 46, 47, 58, 59, 60, 61, 62, 63, 64, 65, 66, 67, 68, 69, 70, 71, 72, 73, 74, 75, 76, 77, 78] (by decide +kernel) (by decide +kernel)
set_option maxRecDepth 20000 in
theorem gX7_shiftColumn_X7_shifts : GoodIn wsX7_shiftColumn (wsV RX7 139 RX7 yX7_shifts wsX7_shifts) := goodIn_app (goodIn_of _ (by decide +kernel)) ggX7_shiftColumn_X7_shifts
set_option maxRecDepth 20000 in
theorem ggX7_shiftColumn_X7_ends : GoodIn wsX7_shiftColumn wsX7_ends := goodIn_r _ [51, 39, 7, 6, 8, 9, 4, 10, 52, 53, 54, 55, 56, 57, 58, 59, 60, 61, 62, 63, 64, 65, 66, 67, 68, 69, 70, 71, 72, 73, 74, 75, 76, 77, 78] (by decide +kernel) (by decide +kernel)
set_option maxRecDepth 20000 in
theorem gX7_shiftColumn_X7_ends : GoodIn wsX7_shiftColumn (wsV RX7 111 RX7 yX7_ends wsX7_ends) := goodIn_app (goodIn_of _ (by decide +kernel)) ggX7_shiftColumn_X7_ends
theorem dX7_shiftColumn_0 : decode cX7_shiftColumn 0 = .ok (.aload_n 0, 1) := by decide +kernel
theorem dX7_shiftColumn_1 : decode cX7_shiftColumn 1 = .ok (.invokevirtual 104, 3) := by decide +kernel
theorem dX7_shiftColumn_4 : decode cX7_shiftColumn 4 = .ok (.aload_n 0, 1) := by decide +kernel
theorem dX7_shiftColumn_5 : decode cX7_shiftColumn 5 = .ok (.aload_n 0, 1) := by decide +kernel
theorem dX7_shiftColumn_6 : decode cX7_shiftColumn 6 = .ok (.iconst 0, 1) := by decide +kernel
theorem dX7_shiftColumn_7 : decode cX7_shiftColumn 7 = .ok (.iload_n 1, 1) := by decide +kernel
theorem dX7_shiftColumn_8 : decode cX7_shiftColumn 8 = .ok (.iload_n 2, 1) := by decide +kernel
theorem dX7_shiftColumn_9 : decode cX7_shiftColumn 9 = .ok (.invokevirtual 139, 3) := by decide +kernel
theorem dX7_shiftColumn_12 : decode cX7_shiftColumn 12 = .ok (.invokevirtual 111, 3) := by decide +kernel
theorem dX7_shiftColumn_15 : decode cX7_shiftColumn 15 = .ok (.ireturn, 1) := by decide +kernel
set_option maxRecDepth 20000 in
theorem ggX7_lays_X7_cellAt : GoodIn wsX7_lays wsX7_cellAt := goodIn_r _ [5, 6, 7, 4, 8, 9, 10, 11, 12, 13, 14] (by decide +kernel) (by decide +kernel)
set_option maxRecDepth 20000 in
theorem gX7_lays_X7_cellAt : GoodIn wsX7_lays (va_wsS RX7 101 yX7_cellAt wsX7_cellAt) := goodIn_app (goodIn_of _ (by decide +kernel)) ggX7_lays_X7_cellAt
set_option maxRecDepth 20000 in
theorem ggX7_lays_X7_isKey : GoodIn wsX7_lays wsX7_isKey := goodIn_r _ [17, 12, 13, 4, 14] (by decide +kernel) (by decide +kernel)
set_option maxRecDepth 20000 in
theorem gX7_lays_X7_isKey : GoodIn wsX7_lays (va_wsS RX7 88 yX7_isKey wsX7_isKey) := goodIn_app (goodIn_of _ (by decide +kernel)) ggX7_lays_X7_isKey
set_option maxRecDepth 20000 in
theorem ggX7_lays_X7_isCell : GoodIn wsX7_lays wsX7_isCell := goodIn_r _ [8, 9, 10, 4, 11, 12, 13, 14] (by decide +kernel) (by decide +kernel)
set_option maxRecDepth 20000 in
theorem gX7_lays_X7_isCell : GoodIn wsX7_lays (va_wsS RX7 84 yX7_isCell wsX7_isCell) := goodIn_app (goodIn_of _ (by decide +kernel)) ggX7_lays_X7_isCell
set_option maxRecDepth 20000 in
theorem ggX7_lays_X7_placeOf : GoodIn wsX7_lays wsX7_placeOf := goodIn_r _ [21, 1, 15, 16, 4, 17, 12, 13, 14, 31, 32, 33, 34, 35, 36, 37, 38, 39, 40, 41, 42, 43, 44, 45, 46, 47, 48, 49, 50, 51] (by decide +kernel) (by decide +kernel)
set_option maxRecDepth 20000 in
theorem gX7_lays_X7_placeOf : GoodIn wsX7_lays (wsV RX7 142 RX7 yX7_placeOf wsX7_placeOf) := goodIn_app (goodIn_of _ (by decide +kernel)) ggX7_lays_X7_placeOf
set_option maxRecDepth 20000 in
theorem ggX7_lays_X7_holds : GoodIn wsX7_lays wsX7_holds := goodIn_r _ [25, 26, 31, 32, 33, 34, 35, 36, 37, 38, 39, 40, 41, 42, 43, 44, 45, 46, 47, 48, 49, 50, 51] (by decide +kernel) (by decide +kernel)
set_option maxRecDepth 20000 in
theorem gX7_lays_X7_holds : GoodIn wsX7_lays (wsV RX7 54 RX7 yX7_holds wsX7_holds) := goodIn_app (goodIn_of _ (by decide +kernel)) ggX7_lays_X7_holds
set_option maxRecDepth 20000 in
theorem ggX7_lays_X7_keysOn : GoodIn wsX7_lays wsX7_keysOn := goodIn_r _ [30, 1, 31, 32, 33, 34, 35, 36, 37, 38, 39, 40, 41, 42, 43, 44, 45, 46, 47, 48, 49, 50, 51] (by decide +kernel) (by decide +kernel)
set_option maxRecDepth 20000 in
theorem gX7_lays_X7_keysOn : GoodIn wsX7_lays (wsV RX7 145 RX7 yX7_keysOn wsX7_keysOn) := goodIn_app (goodIn_of _ (by decide +kernel)) ggX7_lays_X7_keysOn
theorem dX7_lays_0 : decode cX7_lays 0 = .ok (.iload_n 2, 1) := by decide +kernel
theorem dX7_lays_1 : decode cX7_lays 1 = .ok (.iload_n 3, 1) := by decide +kernel
theorem dX7_lays_2 : decode cX7_lays 2 = .ok (.invokestatic 101, 3) := by decide +kernel
theorem dX7_lays_5 : decode cX7_lays 5 = .ok (.istore 4, 2) := by decide +kernel
theorem dX7_lays_7 : decode cX7_lays 7 = .ok (.aload_n 0, 1) := by decide +kernel
theorem dX7_lays_8 : decode cX7_lays 8 = .ok (.iload_n 1, 1) := by decide +kernel
theorem dX7_lays_9 : decode cX7_lays 9 = .ok (.invokestatic 88, 3) := by decide +kernel
theorem dX7_lays_12 : decode cX7_lays 12 = .ok (.iload_n 2, 1) := by decide +kernel
theorem dX7_lays_13 : decode cX7_lays 13 = .ok (.iload_n 3, 1) := by decide +kernel
theorem dX7_lays_14 : decode cX7_lays 14 = .ok (.invokestatic 84, 3) := by decide +kernel
theorem dX7_lays_17 : decode cX7_lays 17 = .ok (.aload_n 0, 1) := by decide +kernel
theorem dX7_lays_18 : decode cX7_lays 18 = .ok (.iload_n 1, 1) := by decide +kernel
theorem dX7_lays_19 : decode cX7_lays 19 = .ok (.invokevirtual 142, 3) := by decide +kernel
theorem dX7_lays_22 : decode cX7_lays 22 = .ok (.iconst (-1), 1) := by decide +kernel
theorem dX7_lays_23 : decode cX7_lays 23 = .ok (.if_icmp .ne 7, 3) := by decide +kernel
theorem dX7_lays_26 : decode cX7_lays 26 = .ok (.iconst 1, 1) := by decide +kernel
theorem dX7_lays_27 : decode cX7_lays 27 = .ok (.goto 4, 3) := by decide +kernel
theorem dX7_lays_30 : decode cX7_lays 30 = .ok (.iconst 0, 1) := by decide +kernel
theorem dX7_lays_31 : decode cX7_lays 31 = .ok (.invokevirtual 54, 3) := by decide +kernel
theorem dX7_lays_34 : decode cX7_lays 34 = .ok (.ifCond .ne 5, 3) := by decide +kernel
theorem dX7_lays_37 : decode cX7_lays 37 = .ok (.iconst 0, 1) := by decide +kernel
theorem dX7_lays_38 : decode cX7_lays 38 = .ok (.ireturn, 1) := by decide +kernel
theorem dX7_lays_39 : decode cX7_lays 39 = .ok (.aload_n 0, 1) := by decide +kernel
theorem dX7_lays_40 : decode cX7_lays 40 = .ok (.getfield 9, 3) := by decide +kernel
theorem dX7_lays_43 : decode cX7_lays 43 = .ok (.iconst 3, 1) := by decide +kernel
theorem dX7_lays_44 : decode cX7_lays 44 = .ok (.iload_n 1, 1) := by decide +kernel
theorem dX7_lays_45 : decode cX7_lays 45 = .ok (.iadd, 1) := by decide +kernel
theorem dX7_lays_46 : decode cX7_lays 46 = .ok (.bipush 97, 2) := by decide +kernel
theorem dX7_lays_48 : decode cX7_lays 48 = .ok (.isub, 1) := by decide +kernel
theorem dX7_lays_49 : decode cX7_lays 49 = .ok (.iload 4, 2) := by decide +kernel
theorem dX7_lays_51 : decode cX7_lays 51 = .ok (.iastore, 1) := by decide +kernel
theorem dX7_lays_52 : decode cX7_lays 52 = .ok (.aload_n 0, 1) := by decide +kernel
theorem dX7_lays_53 : decode cX7_lays 53 = .ok (.iload 4, 2) := by decide +kernel
theorem dX7_lays_55 : decode cX7_lays 55 = .ok (.invokevirtual 145, 3) := by decide +kernel
theorem dX7_lays_58 : decode cX7_lays 58 = .ok (.ireturn, 1) := by decide +kernel
set_option maxRecDepth 20000 in
theorem ggX7_placeKey_X7_begins : GoodIn wsX7_placeKey wsX7_begins := goodIn_r _ [5, 6, 7, 8, 9, 4, 10, 53, 54, 55, 56, 57, 58, 59, 60, 61, 62, 63, 64, 65, 66, 67, 68, 69, 70, 71, 72, 73] (by decide +kernel) (by decide +kernel)
set_option maxRecDepth 20000 in
theorem gX7_placeKey_X7_begins : GoodIn wsX7_placeKey (wsV RX7 104 RX7 yX7_begins wsX7_begins) := goodIn_app (goodIn_of _ (by decide +kernel)) ggX7_placeKey_X7_begins
set_option maxRecDepth 20000 in
theorem ggX7_placeKey_X7_lays : GoodIn wsX7_placeKey wsX7_lays := goodIn_r _ [14, 6, 15, 16, 4, 17, 18, 19, 20, 21, 22, 23, 24, 25, 26, 27, 28, 29, 30, 31, 32, 33, 34, 35, 36, 37, 38, 39, 40, 41, 42, 53, 54, 55, 56, 57, 58, 59, 60, 61, 62, 63, 64, 65, 66, 67, 68, 69, 70, 71, 72, 73] (by decide +kernel) (by decide +kernel)
set_option maxRecDepth 20000 in
theorem gX7_placeKey_X7_lays : GoodIn wsX7_placeKey (wsV RX7 148 RX7 yX7_lays wsX7_lays) := goodIn_app (goodIn_of _ (by decide +kernel)) ggX7_placeKey_X7_lays
set_option maxRecDepth 20000 in
theorem ggX7_placeKey_X7_ends : GoodIn wsX7_placeKey wsX7_ends := goodIn_r _ [46, 38, 7, 6, 8, 9, 4, 10, 47, 48, 49, 50, 51, 52, 53, 54, 55, 56, 57, 58, 59, 60, 61, 62, 63, 64, 65, 66, 67, 68, 69, 70, 71, 72, 73] (by decide +kernel) (by decide +kernel)
set_option maxRecDepth 20000 in
theorem gX7_placeKey_X7_ends : GoodIn wsX7_placeKey (wsV RX7 111 RX7 yX7_ends wsX7_ends) := goodIn_app (goodIn_of _ (by decide +kernel)) ggX7_placeKey_X7_ends
theorem dX7_placeKey_0 : decode cX7_placeKey 0 = .ok (.aload_n 0, 1) := by decide +kernel
theorem dX7_placeKey_1 : decode cX7_placeKey 1 = .ok (.invokevirtual 104, 3) := by decide +kernel
theorem dX7_placeKey_4 : decode cX7_placeKey 4 = .ok (.aload_n 0, 1) := by decide +kernel
theorem dX7_placeKey_5 : decode cX7_placeKey 5 = .ok (.aload_n 0, 1) := by decide +kernel
theorem dX7_placeKey_6 : decode cX7_placeKey 6 = .ok (.iload_n 1, 1) := by decide +kernel
theorem dX7_placeKey_7 : decode cX7_placeKey 7 = .ok (.iload_n 2, 1) := by decide +kernel
theorem dX7_placeKey_8 : decode cX7_placeKey 8 = .ok (.iload_n 3, 1) := by decide +kernel
theorem dX7_placeKey_9 : decode cX7_placeKey 9 = .ok (.invokevirtual 148, 3) := by decide +kernel
theorem dX7_placeKey_12 : decode cX7_placeKey 12 = .ok (.invokevirtual 111, 3) := by decide +kernel
theorem dX7_placeKey_15 : decode cX7_placeKey 15 = .ok (.ireturn, 1) := by decide +kernel
set_option maxRecDepth 20000 in
theorem ggX7_locks_X7_cellAt : GoodIn wsX7_locks wsX7_cellAt := goodIn_r _ [5, 6, 7, 4, 8, 9, 10, 11, 12, 13, 14] (by decide +kernel) (by decide +kernel)
set_option maxRecDepth 20000 in
theorem gX7_locks_X7_cellAt : GoodIn wsX7_locks (va_wsS RX7 101 yX7_cellAt wsX7_cellAt) := goodIn_app (goodIn_of _ (by decide +kernel)) ggX7_locks_X7_cellAt
set_option maxRecDepth 20000 in
theorem ggX7_locks_X7_isCell : GoodIn wsX7_locks wsX7_isCell := goodIn_r _ [8, 9, 10, 4, 11, 12, 13, 14] (by decide +kernel) (by decide +kernel)
set_option maxRecDepth 20000 in
theorem gX7_locks_X7_isCell : GoodIn wsX7_locks (va_wsS RX7 84 yX7_isCell wsX7_isCell) := goodIn_app (goodIn_of _ (by decide +kernel)) ggX7_locks_X7_isCell
set_option maxRecDepth 20000 in
theorem ggX7_locks_X7_isKey : GoodIn wsX7_locks wsX7_isKey := goodIn_r _ [17, 12, 13, 4, 14] (by decide +kernel) (by decide +kernel)
set_option maxRecDepth 20000 in
theorem gX7_locks_X7_isKey : GoodIn wsX7_locks (va_wsS RX7 88 yX7_isKey wsX7_isKey) := goodIn_app (goodIn_of _ (by decide +kernel)) ggX7_locks_X7_isKey
set_option maxRecDepth 20000 in
theorem ggX7_locks_X7_of : GoodIn wsX7_locks wsX7_of := goodIn_r _ [21, 1, 22, 23, 4, 24, 34, 35, 36, 37, 38, 39, 40, 41, 42, 43, 44, 45, 46, 47, 48, 49, 50, 51, 52, 53, 54] (by decide +kernel) (by decide +kernel)
set_option maxRecDepth 20000 in
theorem gX7_locks_X7_of : GoodIn wsX7_locks (wsV RX7 94 RX7 yX7_of wsX7_of) := goodIn_app (goodIn_of _ (by decide +kernel)) ggX7_locks_X7_of
set_option maxRecDepth 20000 in
theorem ggX7_locks_X7_holds : GoodIn wsX7_locks wsX7_holds := goodIn_r _ [28, 29, 34, 35, 36, 37, 38, 39, 40, 41, 42, 43, 44, 45, 46, 47, 48, 49, 50, 51, 52, 53, 54] (by decide +kernel) (by decide +kernel)
set_option maxRecDepth 20000 in
theorem gX7_locks_X7_holds : GoodIn wsX7_locks (wsV RX7 54 RX7 yX7_holds wsX7_holds) := goodIn_app (goodIn_of _ (by decide +kernel)) ggX7_locks_X7_holds
set_option maxRecDepth 20000 in
theorem ggX7_locks_X7_tileAt : GoodIn wsX7_locks wsX7_tileAt := goodIn_r _ [24] (by decide +kernel) (by decide +kernel)
set_option maxRecDepth 20000 in
theorem gX7_locks_X7_tileAt : GoodIn wsX7_locks (va_wsS RX7 47 yX7_tileAt wsX7_tileAt) := goodIn_app (goodIn_of _ (by decide +kernel)) ggX7_locks_X7_tileAt
set_option maxRecDepth 20000 in
theorem ggX7_locks_X7_tilesWith : GoodIn wsX7_locks wsX7_tilesWith := goodIn_r _ [33, 18, 19, 20, 4, 21, 1, 22, 23, 24, 34, 35, 36, 37, 38, 39, 40, 41, 42, 43, 44, 45, 46, 47, 48, 49, 50, 51, 52, 53, 54] (by decide +kernel) (by decide +kernel)
set_option maxRecDepth 20000 in
theorem gX7_locks_X7_tilesWith : GoodIn wsX7_locks (wsV RX7 117 RX7 yX7_tilesWith wsX7_tilesWith) := goodIn_app (goodIn_of _ (by decide +kernel)) ggX7_locks_X7_tilesWith
theorem dX7_locks_0 : decode cX7_locks 0 = .ok (.iload_n 1, 1) := by decide +kernel
theorem dX7_locks_1 : decode cX7_locks 1 = .ok (.iload_n 2, 1) := by decide +kernel
theorem dX7_locks_2 : decode cX7_locks 2 = .ok (.invokestatic 101, 3) := by decide +kernel
theorem dX7_locks_5 : decode cX7_locks 5 = .ok (.istore 4, 2) := by decide +kernel
theorem dX7_locks_7 : decode cX7_locks 7 = .ok (.aload_n 0, 1) := by decide +kernel
theorem dX7_locks_8 : decode cX7_locks 8 = .ok (.iload_n 1, 1) := by decide +kernel
theorem dX7_locks_9 : decode cX7_locks 9 = .ok (.iload_n 2, 1) := by decide +kernel
theorem dX7_locks_10 : decode cX7_locks 10 = .ok (.invokestatic 84, 3) := by decide +kernel
theorem dX7_locks_13 : decode cX7_locks 13 = .ok (.iload_n 3, 1) := by decide +kernel
theorem dX7_locks_14 : decode cX7_locks 14 = .ok (.invokestatic 88, 3) := by decide +kernel
theorem dX7_locks_17 : decode cX7_locks 17 = .ok (.aload_n 0, 1) := by decide +kernel
theorem dX7_locks_18 : decode cX7_locks 18 = .ok (.iload 4, 2) := by decide +kernel
theorem dX7_locks_20 : decode cX7_locks 20 = .ok (.iconst 2, 1) := by decide +kernel
theorem dX7_locks_21 : decode cX7_locks 21 = .ok (.invokevirtual 94, 3) := by decide +kernel
theorem dX7_locks_24 : decode cX7_locks 24 = .ok (.iconst (-1), 1) := by decide +kernel
theorem dX7_locks_25 : decode cX7_locks 25 = .ok (.if_icmp .ne 7, 3) := by decide +kernel
theorem dX7_locks_28 : decode cX7_locks 28 = .ok (.iconst 1, 1) := by decide +kernel
theorem dX7_locks_29 : decode cX7_locks 29 = .ok (.goto 4, 3) := by decide +kernel
theorem dX7_locks_32 : decode cX7_locks 32 = .ok (.iconst 0, 1) := by decide +kernel
theorem dX7_locks_33 : decode cX7_locks 33 = .ok (.invokevirtual 54, 3) := by decide +kernel
theorem dX7_locks_36 : decode cX7_locks 36 = .ok (.ifCond .ne 5, 3) := by decide +kernel
theorem dX7_locks_39 : decode cX7_locks 39 = .ok (.iconst 0, 1) := by decide +kernel
theorem dX7_locks_40 : decode cX7_locks 40 = .ok (.ireturn, 1) := by decide +kernel
theorem dX7_locks_41 : decode cX7_locks 41 = .ok (.aload_n 0, 1) := by decide +kernel
theorem dX7_locks_42 : decode cX7_locks 42 = .ok (.getfield 9, 3) := by decide +kernel
theorem dX7_locks_45 : decode cX7_locks 45 = .ok (.iload 4, 2) := by decide +kernel
theorem dX7_locks_47 : decode cX7_locks 47 = .ok (.invokestatic 47, 3) := by decide +kernel
theorem dX7_locks_50 : decode cX7_locks 50 = .ok (.iconst 2, 1) := by decide +kernel
theorem dX7_locks_51 : decode cX7_locks 51 = .ok (.iadd, 1) := by decide +kernel
theorem dX7_locks_52 : decode cX7_locks 52 = .ok (.iload_n 3, 1) := by decide +kernel
theorem dX7_locks_53 : decode cX7_locks 53 = .ok (.bipush 97, 2) := by decide +kernel
theorem dX7_locks_55 : decode cX7_locks 55 = .ok (.isub, 1) := by decide +kernel
theorem dX7_locks_56 : decode cX7_locks 56 = .ok (.iastore, 1) := by decide +kernel
theorem dX7_locks_57 : decode cX7_locks 57 = .ok (.aload_n 0, 1) := by decide +kernel
theorem dX7_locks_58 : decode cX7_locks 58 = .ok (.iconst 2, 1) := by decide +kernel
theorem dX7_locks_59 : decode cX7_locks 59 = .ok (.iconst 0, 1) := by decide +kernel
theorem dX7_locks_60 : decode cX7_locks 60 = .ok (.invokevirtual 117, 3) := by decide +kernel
theorem dX7_locks_63 : decode cX7_locks 63 = .ok (.ireturn, 1) := by decide +kernel
set_option maxRecDepth 20000 in
theorem ggX7_addLock_X7_begins : GoodIn wsX7_addLock wsX7_begins := goodIn_r _ [5, 6, 7, 8, 9, 4, 10, 56, 57, 58, 59, 60, 61, 62, 63, 64, 65, 66, 67, 68, 69, 70, 71, 72, 73, 74, 75, 76] (by decide +kernel) (by decide +kernel)
set_option maxRecDepth 20000 in
theorem gX7_addLock_X7_begins : GoodIn wsX7_addLock (wsV RX7 104 RX7 yX7_begins wsX7_begins) := goodIn_app (goodIn_of _ (by decide +kernel)) ggX7_addLock_X7_begins
set_option maxRecDepth 20000 in
theorem ggX7_addLock_X7_locks : GoodIn wsX7_addLock wsX7_locks := goodIn_r _ [14, 6, 15, 16, 4, 17, 18, 19, 20, 21, 22, 23, 24, 25, 26, 27, 28, 29, 30, 31, 32, 33, 34, 35, 36, 37, 38, 39, 40, 41, 42, 43, 44, 45, 56, 57, 58, 59, 60, 61, 62, 63, 64, 65, 66, 67, 68, 69, 70, 71, 72, 73, 74, 75, 76] (by decide +kernel) (by decide +kernel)
set_option maxRecDepth 20000 in
theorem gX7_addLock_X7_locks : GoodIn wsX7_addLock (wsV RX7 151 RX7 yX7_locks wsX7_locks) := goodIn_app (goodIn_of _ (by decide +kernel)) ggX7_addLock_X7_locks
set_option maxRecDepth 20000 in
theorem ggX7_addLock_X7_ends : GoodIn wsX7_addLock wsX7_ends := goodIn_r _ [49, 41, 7, 6, 8, 9, 4, 10, 50, 51, 52, 53, 54, 55, 56, 57, 58, 59, 60, 61, 62, 63, 64, 65, 66, 67, 68, 69, 70, 71, 72, 73, 74, 75, 76] (by decide +kernel) (by decide +kernel)
set_option maxRecDepth 20000 in
theorem gX7_addLock_X7_ends : GoodIn wsX7_addLock (wsV RX7 111 RX7 yX7_ends wsX7_ends) := goodIn_app (goodIn_of _ (by decide +kernel)) ggX7_addLock_X7_ends
theorem dX7_addLock_0 : decode cX7_addLock 0 = .ok (.aload_n 0, 1) := by decide +kernel
theorem dX7_addLock_1 : decode cX7_addLock 1 = .ok (.invokevirtual 104, 3) := by decide +kernel
theorem dX7_addLock_4 : decode cX7_addLock 4 = .ok (.aload_n 0, 1) := by decide +kernel
theorem dX7_addLock_5 : decode cX7_addLock 5 = .ok (.aload_n 0, 1) := by decide +kernel
theorem dX7_addLock_6 : decode cX7_addLock 6 = .ok (.iload_n 1, 1) := by decide +kernel
theorem dX7_addLock_7 : decode cX7_addLock 7 = .ok (.iload_n 2, 1) := by decide +kernel
theorem dX7_addLock_8 : decode cX7_addLock 8 = .ok (.iload_n 3, 1) := by decide +kernel
theorem dX7_addLock_9 : decode cX7_addLock 9 = .ok (.invokevirtual 151, 3) := by decide +kernel
theorem dX7_addLock_12 : decode cX7_addLock 12 = .ok (.invokevirtual 111, 3) := by decide +kernel
theorem dX7_addLock_15 : decode cX7_addLock 15 = .ok (.ireturn, 1) := by decide +kernel
set_option maxRecDepth 20000 in
theorem ggX7_unlocks_X7_cellAt : GoodIn wsX7_unlocks wsX7_cellAt := goodIn_r _ [5, 6, 7, 4, 8, 9, 10, 11, 12, 13, 14] (by decide +kernel) (by decide +kernel)
set_option maxRecDepth 20000 in
theorem gX7_unlocks_X7_cellAt : GoodIn wsX7_unlocks (va_wsS RX7 101 yX7_cellAt wsX7_cellAt) := goodIn_app (goodIn_of _ (by decide +kernel)) ggX7_unlocks_X7_cellAt
set_option maxRecDepth 20000 in
theorem ggX7_unlocks_X7_of : GoodIn wsX7_unlocks wsX7_of := goodIn_r _ [18, 1, 19, 20, 4, 21, 27, 28, 29, 30, 31, 32, 33, 34, 35, 36, 37, 38, 39, 40, 41, 42, 43, 44, 45, 46, 47] (by decide +kernel) (by decide +kernel)
set_option maxRecDepth 20000 in
theorem gX7_unlocks_X7_of : GoodIn wsX7_unlocks (wsV RX7 94 RX7 yX7_of wsX7_of) := goodIn_app (goodIn_of _ (by decide +kernel)) ggX7_unlocks_X7_of
set_option maxRecDepth 20000 in
theorem ggX7_unlocks_X7_isCell : GoodIn wsX7_unlocks wsX7_isCell := goodIn_r _ [8, 9, 10, 4, 11, 12, 13, 14] (by decide +kernel) (by decide +kernel)
set_option maxRecDepth 20000 in
theorem gX7_unlocks_X7_isCell : GoodIn wsX7_unlocks (va_wsS RX7 84 yX7_isCell wsX7_isCell) := goodIn_app (goodIn_of _ (by decide +kernel)) ggX7_unlocks_X7_isCell
set_option maxRecDepth 20000 in
theorem ggX7_unlocks_X7_holds : GoodIn wsX7_unlocks wsX7_holds := goodIn_r _ [25, 26, 27, 28, 29, 30, 31, 32, 33, 34, 35, 36, 37, 38, 39, 40, 41, 42, 43, 44, 45, 46, 47] (by decide +kernel) (by decide +kernel)
set_option maxRecDepth 20000 in
theorem gX7_unlocks_X7_holds : GoodIn wsX7_unlocks (wsV RX7 54 RX7 yX7_holds wsX7_holds) := goodIn_app (goodIn_of _ (by decide +kernel)) ggX7_unlocks_X7_holds
set_option maxRecDepth 20000 in
theorem ggX7_unlocks_X7_tileAt : GoodIn wsX7_unlocks wsX7_tileAt := goodIn_r _ [21] (by decide +kernel) (by decide +kernel)
set_option maxRecDepth 20000 in
theorem gX7_unlocks_X7_tileAt : GoodIn wsX7_unlocks (va_wsS RX7 47 yX7_tileAt wsX7_tileAt) := goodIn_app (goodIn_of _ (by decide +kernel)) ggX7_unlocks_X7_tileAt
theorem dX7_unlocks_0 : decode cX7_unlocks 0 = .ok (.iload_n 1, 1) := by decide +kernel
theorem dX7_unlocks_1 : decode cX7_unlocks 1 = .ok (.iload_n 2, 1) := by decide +kernel
theorem dX7_unlocks_2 : decode cX7_unlocks 2 = .ok (.invokestatic 101, 3) := by decide +kernel
theorem dX7_unlocks_5 : decode cX7_unlocks 5 = .ok (.istore_n 3, 1) := by decide +kernel
theorem dX7_unlocks_6 : decode cX7_unlocks 6 = .ok (.aload_n 0, 1) := by decide +kernel
theorem dX7_unlocks_7 : decode cX7_unlocks 7 = .ok (.iload_n 3, 1) := by decide +kernel
theorem dX7_unlocks_8 : decode cX7_unlocks 8 = .ok (.iconst 2, 1) := by decide +kernel
theorem dX7_unlocks_9 : decode cX7_unlocks 9 = .ok (.invokevirtual 94, 3) := by decide +kernel
theorem dX7_unlocks_12 : decode cX7_unlocks 12 = .ok (.istore 4, 2) := by decide +kernel
theorem dX7_unlocks_14 : decode cX7_unlocks 14 = .ok (.aload_n 0, 1) := by decide +kernel
theorem dX7_unlocks_15 : decode cX7_unlocks 15 = .ok (.iload_n 1, 1) := by decide +kernel
theorem dX7_unlocks_16 : decode cX7_unlocks 16 = .ok (.iload_n 2, 1) := by decide +kernel
theorem dX7_unlocks_17 : decode cX7_unlocks 17 = .ok (.invokestatic 84, 3) := by decide +kernel
theorem dX7_unlocks_20 : decode cX7_unlocks 20 = .ok (.iload 4, 2) := by decide +kernel
theorem dX7_unlocks_22 : decode cX7_unlocks 22 = .ok (.iconst (-1), 1) := by decide +kernel
theorem dX7_unlocks_23 : decode cX7_unlocks 23 = .ok (.if_icmp .eq 7, 3) := by decide +kernel
theorem dX7_unlocks_26 : decode cX7_unlocks 26 = .ok (.iconst 1, 1) := by decide +kernel
theorem dX7_unlocks_27 : decode cX7_unlocks 27 = .ok (.goto 4, 3) := by decide +kernel
theorem dX7_unlocks_30 : decode cX7_unlocks 30 = .ok (.iconst 0, 1) := by decide +kernel
theorem dX7_unlocks_31 : decode cX7_unlocks 31 = .ok (.iconst 1, 1) := by decide +kernel
theorem dX7_unlocks_32 : decode cX7_unlocks 32 = .ok (.invokevirtual 54, 3) := by decide +kernel
theorem dX7_unlocks_35 : decode cX7_unlocks 35 = .ok (.ifCond .ne 5, 3) := by decide +kernel
theorem dX7_unlocks_38 : decode cX7_unlocks 38 = .ok (.iconst 0, 1) := by decide +kernel
theorem dX7_unlocks_39 : decode cX7_unlocks 39 = .ok (.ireturn, 1) := by decide +kernel
theorem dX7_unlocks_40 : decode cX7_unlocks 40 = .ok (.aload_n 0, 1) := by decide +kernel
theorem dX7_unlocks_41 : decode cX7_unlocks 41 = .ok (.getfield 9, 3) := by decide +kernel
theorem dX7_unlocks_44 : decode cX7_unlocks 44 = .ok (.iload_n 3, 1) := by decide +kernel
theorem dX7_unlocks_45 : decode cX7_unlocks 45 = .ok (.invokestatic 47, 3) := by decide +kernel
theorem dX7_unlocks_48 : decode cX7_unlocks 48 = .ok (.iconst 2, 1) := by decide +kernel
theorem dX7_unlocks_49 : decode cX7_unlocks 49 = .ok (.iadd, 1) := by decide +kernel
theorem dX7_unlocks_50 : decode cX7_unlocks 50 = .ok (.iconst (-1), 1) := by decide +kernel
theorem dX7_unlocks_51 : decode cX7_unlocks 51 = .ok (.iastore, 1) := by decide +kernel
theorem dX7_unlocks_52 : decode cX7_unlocks 52 = .ok (.bipush 97, 2) := by decide +kernel
theorem dX7_unlocks_54 : decode cX7_unlocks 54 = .ok (.iload 4, 2) := by decide +kernel
theorem dX7_unlocks_56 : decode cX7_unlocks 56 = .ok (.iadd, 1) := by decide +kernel
theorem dX7_unlocks_57 : decode cX7_unlocks 57 = .ok (.ireturn, 1) := by decide +kernel
set_option maxRecDepth 20000 in
theorem ggX7_removeLock_X7_begins : GoodIn wsX7_removeLock wsX7_begins := goodIn_r _ [5, 6, 7, 8, 9, 4, 10, 49, 50, 51, 52, 53, 54, 55, 56, 57, 58, 59, 60, 61, 62, 63, 64, 65, 66, 67, 68, 69] (by decide +kernel) (by decide +kernel)
set_option maxRecDepth 20000 in
theorem gX7_removeLock_X7_begins : GoodIn wsX7_removeLock (wsV RX7 104 RX7 yX7_begins wsX7_begins) := goodIn_app (goodIn_of _ (by decide +kernel)) ggX7_removeLock_X7_begins
set_option maxRecDepth 20000 in
theorem ggX7_removeLock_X7_unlocks : GoodIn wsX7_removeLock wsX7_unlocks := goodIn_r _ [14, 6, 15, 16, 4, 17, 18, 19, 20, 21, 22, 23, 24, 25, 26, 27, 28, 29, 30, 31, 32, 33, 34, 35, 36, 37, 38, 49, 50, 51, 52, 53, 54, 55, 56, 57, 58, 59, 60, 61, 62, 63, 64, 65, 66, 67, 68, 69] (by decide +kernel) (by decide +kernel)
set_option maxRecDepth 20000 in
theorem gX7_removeLock_X7_unlocks : GoodIn wsX7_removeLock (wsV RX7 154 RX7 yX7_unlocks wsX7_unlocks) := goodIn_app (goodIn_of _ (by decide +kernel)) ggX7_removeLock_X7_unlocks
set_option maxRecDepth 20000 in
theorem ggX7_removeLock_X7_ends : GoodIn wsX7_removeLock wsX7_ends := goodIn_r _ [42, 38, 7, 6, 8, 9, 4, 10, 43, 44, 45, 46, 47, 48, 49, 50, 51, 52, 53, 54, 55, 56, 57, 58, 59, 60, 61, 62, 63, 64, 65, 66, 67, 68, 69] (by decide +kernel) (by decide +kernel)
set_option maxRecDepth 20000 in
theorem gX7_removeLock_X7_ends : GoodIn wsX7_removeLock (wsV RX7 111 RX7 yX7_ends wsX7_ends) := goodIn_app (goodIn_of _ (by decide +kernel)) ggX7_removeLock_X7_ends
theorem dX7_removeLock_0 : decode cX7_removeLock 0 = .ok (.aload_n 0, 1) := by decide +kernel
theorem dX7_removeLock_1 : decode cX7_removeLock 1 = .ok (.invokevirtual 104, 3) := by decide +kernel
theorem dX7_removeLock_4 : decode cX7_removeLock 4 = .ok (.aload_n 0, 1) := by decide +kernel
theorem dX7_removeLock_5 : decode cX7_removeLock 5 = .ok (.aload_n 0, 1) := by decide +kernel
theorem dX7_removeLock_6 : decode cX7_removeLock 6 = .ok (.iload_n 1, 1) := by decide +kernel
theorem dX7_removeLock_7 : decode cX7_removeLock 7 = .ok (.iload_n 2, 1) := by decide +kernel
theorem dX7_removeLock_8 : decode cX7_removeLock 8 = .ok (.invokevirtual 154, 3) := by decide +kernel
theorem dX7_removeLock_11 : decode cX7_removeLock 11 = .ok (.invokevirtual 111, 3) := by decide +kernel
theorem dX7_removeLock_14 : decode cX7_removeLock 14 = .ok (.i2c, 1) := by decide +kernel
theorem dX7_removeLock_15 : decode cX7_removeLock 15 = .ok (.ireturn, 1) := by decide +kernel
theorem dX7_comes_0 : decode cX7_comes 0 = .ok (.aload_n 0, 1) := by decide +kernel
theorem dX7_comes_1 : decode cX7_comes 1 = .ok (.getfield 9, 3) := by decide +kernel
theorem dX7_comes_4 : decode cX7_comes 4 = .ok (.bipush 9, 2) := by decide +kernel
theorem dX7_comes_6 : decode cX7_comes 6 = .ok (.iload_n 1, 1) := by decide +kernel
theorem dX7_comes_7 : decode cX7_comes 7 = .ok (.iadd, 1) := by decide +kernel
theorem dX7_comes_8 : decode cX7_comes 8 = .ok (.iload_n 2, 1) := by decide +kernel
theorem dX7_comes_9 : decode cX7_comes 9 = .ok (.iastore, 1) := by decide +kernel
theorem dX7_comes_10 : decode cX7_comes 10 = .ok (.iconst 0, 1) := by decide +kernel
theorem dX7_comes_11 : decode cX7_comes 11 = .ok (.istore_n 3, 1) := by decide +kernel
theorem dX7_comes_12 : decode cX7_comes 12 = .ok (.iload_n 3, 1) := by decide +kernel
theorem dX7_comes_13 : decode cX7_comes 13 = .ok (.bipush 6, 2) := by decide +kernel
theorem dX7_comes_15 : decode cX7_comes 15 = .ok (.if_icmp .ge 44, 3) := by decide +kernel
theorem dX7_comes_18 : decode cX7_comes 18 = .ok (.aload_n 0, 1) := by decide +kernel
theorem dX7_comes_19 : decode cX7_comes 19 = .ok (.getfield 9, 3) := by decide +kernel
theorem dX7_comes_22 : decode cX7_comes 22 = .ok (.iconst 3, 1) := by decide +kernel
theorem dX7_comes_23 : decode cX7_comes 23 = .ok (.iload_n 3, 1) := by decide +kernel
theorem dX7_comes_24 : decode cX7_comes 24 = .ok (.iadd, 1) := by decide +kernel
theorem dX7_comes_25 : decode cX7_comes 25 = .ok (.aload_n 0, 1) := by decide +kernel
theorem dX7_comes_26 : decode cX7_comes 26 = .ok (.getfield 9, 3) := by decide +kernel
theorem dX7_comes_29 : decode cX7_comes 29 = .ok (.iconst 3, 1) := by decide +kernel
theorem dX7_comes_30 : decode cX7_comes 30 = .ok (.iload_n 3, 1) := by decide +kernel
theorem dX7_comes_31 : decode cX7_comes 31 = .ok (.iadd, 1) := by decide +kernel
theorem dX7_comes_32 : decode cX7_comes 32 = .ok (.iaload, 1) := by decide +kernel
theorem dX7_comes_33 : decode cX7_comes 33 = .ok (.iload_n 2, 1) := by decide +kernel
theorem dX7_comes_34 : decode cX7_comes 34 = .ok (.if_icmp .ne 10, 3) := by decide +kernel
theorem dX7_comes_37 : decode cX7_comes 37 = .ok (.bipush 100, 2) := by decide +kernel
theorem dX7_comes_39 : decode cX7_comes 39 = .ok (.iload_n 1, 1) := by decide +kernel
theorem dX7_comes_40 : decode cX7_comes 40 = .ok (.iadd, 1) := by decide +kernel
theorem dX7_comes_41 : decode cX7_comes 41 = .ok (.goto 11, 3) := by decide +kernel
theorem dX7_comes_44 : decode cX7_comes 44 = .ok (.aload_n 0, 1) := by decide +kernel
theorem dX7_comes_45 : decode cX7_comes 45 = .ok (.getfield 9, 3) := by decide +kernel
theorem dX7_comes_48 : decode cX7_comes 48 = .ok (.iconst 3, 1) := by decide +kernel
theorem dX7_comes_49 : decode cX7_comes 49 = .ok (.iload_n 3, 1) := by decide +kernel
theorem dX7_comes_50 : decode cX7_comes 50 = .ok (.iadd, 1) := by decide +kernel
theorem dX7_comes_51 : decode cX7_comes 51 = .ok (.iaload, 1) := by decide +kernel
theorem dX7_comes_52 : decode cX7_comes 52 = .ok (.iastore, 1) := by decide +kernel
theorem dX7_comes_53 : decode cX7_comes 53 = .ok (.iinc 3 1, 3) := by decide +kernel
theorem dX7_comes_56 : decode cX7_comes 56 = .ok (.goto (-44), 3) := by decide +kernel
theorem dX7_comes_59 : decode cX7_comes 59 = .ok (.return_, 1) := by decide +kernel
set_option maxRecDepth 20000 in
theorem ggX7_enters_X7_cellAt : GoodIn wsX7_enters wsX7_cellAt := goodIn_r _ [5, 6, 7, 4, 8, 9, 10, 11, 12, 13, 14] (by decide +kernel) (by decide +kernel)
set_option maxRecDepth 20000 in
theorem gX7_enters_X7_cellAt : GoodIn wsX7_enters (va_wsS RX7 101 yX7_cellAt wsX7_cellAt) := goodIn_app (goodIn_of _ (by decide +kernel)) ggX7_enters_X7_cellAt
set_option maxRecDepth 20000 in
theorem ggX7_enters_X7_isCell : GoodIn wsX7_enters wsX7_isCell := goodIn_r _ [8, 9, 10, 4, 11, 12, 13, 14] (by decide +kernel) (by decide +kernel)
set_option maxRecDepth 20000 in
theorem gX7_enters_X7_isCell : GoodIn wsX7_enters (va_wsS RX7 84 yX7_isCell wsX7_isCell) := goodIn_app (goodIn_of _ (by decide +kernel)) ggX7_enters_X7_isCell
set_option maxRecDepth 20000 in
theorem ggX7_enters_X7_of : GoodIn wsX7_enters wsX7_of := goodIn_r _ [18, 1, 19, 20, 4, 21, 31, 32, 33, 34, 35, 36, 37, 38, 39, 40, 41, 42, 43, 44, 45, 46, 47, 48, 49, 50, 51] (by decide +kernel) (by decide +kernel)
set_option maxRecDepth 20000 in
theorem gX7_enters_X7_of : GoodIn wsX7_enters (wsV RX7 94 RX7 yX7_of wsX7_of) := goodIn_app (goodIn_of _ (by decide +kernel)) ggX7_enters_X7_of
set_option maxRecDepth 20000 in
theorem ggX7_enters_X7_holds : GoodIn wsX7_enters wsX7_holds := goodIn_r _ [25, 26, 31, 32, 33, 34, 35, 36, 37, 38, 39, 40, 41, 42, 43, 44, 45, 46, 47, 48, 49, 50, 51] (by decide +kernel) (by decide +kernel)
set_option maxRecDepth 20000 in
theorem gX7_enters_X7_holds : GoodIn wsX7_enters (wsV RX7 54 RX7 yX7_holds wsX7_holds) := goodIn_app (goodIn_of _ (by decide +kernel)) ggX7_enters_X7_holds
set_option maxRecDepth 20000 in
theorem ggX7_enters_X7_comes : GoodIn wsX7_enters wsX7_comes := goodIn_r _ [30, 1, 31, 32, 33, 34, 35, 36, 37, 38, 39, 40, 41, 42, 43, 44, 45, 46, 47, 48, 49, 50, 51] (by decide +kernel) (by decide +kernel)
set_option maxRecDepth 20000 in
theorem gX7_enters_X7_comes : GoodIn wsX7_enters (wsV RX7 157 RX7 yX7_comes wsX7_comes) := goodIn_app (goodIn_of _ (by decide +kernel)) ggX7_enters_X7_comes
theorem dX7_enters_0 : decode cX7_enters 0 = .ok (.iload_n 1, 1) := by decide +kernel
theorem dX7_enters_1 : decode cX7_enters 1 = .ok (.iload_n 2, 1) := by decide +kernel
theorem dX7_enters_2 : decode cX7_enters 2 = .ok (.invokestatic 101, 3) := by decide +kernel
theorem dX7_enters_5 : decode cX7_enters 5 = .ok (.istore_n 3, 1) := by decide +kernel
theorem dX7_enters_6 : decode cX7_enters 6 = .ok (.aload_n 0, 1) := by decide +kernel
theorem dX7_enters_7 : decode cX7_enters 7 = .ok (.iload_n 1, 1) := by decide +kernel
theorem dX7_enters_8 : decode cX7_enters 8 = .ok (.iload_n 2, 1) := by decide +kernel
theorem dX7_enters_9 : decode cX7_enters 9 = .ok (.invokestatic 84, 3) := by decide +kernel
theorem dX7_enters_12 : decode cX7_enters 12 = .ok (.aload_n 0, 1) := by decide +kernel
theorem dX7_enters_13 : decode cX7_enters 13 = .ok (.getfield 9, 3) := by decide +kernel
theorem dX7_enters_16 : decode cX7_enters 16 = .ok (.iconst 0, 1) := by decide +kernel
theorem dX7_enters_17 : decode cX7_enters 17 = .ok (.iaload, 1) := by decide +kernel
theorem dX7_enters_18 : decode cX7_enters 18 = .ok (.iconst 3, 1) := by decide +kernel
theorem dX7_enters_19 : decode cX7_enters 19 = .ok (.if_icmp .ge 7, 3) := by decide +kernel
theorem dX7_enters_22 : decode cX7_enters 22 = .ok (.iconst 1, 1) := by decide +kernel
theorem dX7_enters_23 : decode cX7_enters 23 = .ok (.goto 4, 3) := by decide +kernel
theorem dX7_enters_26 : decode cX7_enters 26 = .ok (.iconst 0, 1) := by decide +kernel
theorem dX7_enters_27 : decode cX7_enters 27 = .ok (.aload_n 0, 1) := by decide +kernel
theorem dX7_enters_28 : decode cX7_enters 28 = .ok (.iload_n 3, 1) := by decide +kernel
theorem dX7_enters_29 : decode cX7_enters 29 = .ok (.iconst 2, 1) := by decide +kernel
theorem dX7_enters_30 : decode cX7_enters 30 = .ok (.invokevirtual 94, 3) := by decide +kernel
theorem dX7_enters_33 : decode cX7_enters 33 = .ok (.iconst (-1), 1) := by decide +kernel
theorem dX7_enters_34 : decode cX7_enters 34 = .ok (.if_icmp .ne 7, 3) := by decide +kernel
theorem dX7_enters_37 : decode cX7_enters 37 = .ok (.iconst 1, 1) := by decide +kernel
theorem dX7_enters_38 : decode cX7_enters 38 = .ok (.goto 4, 3) := by decide +kernel
theorem dX7_enters_41 : decode cX7_enters 41 = .ok (.iconst 0, 1) := by decide +kernel
theorem dX7_enters_42 : decode cX7_enters 42 = .ok (.invokevirtual 54, 3) := by decide +kernel
theorem dX7_enters_45 : decode cX7_enters 45 = .ok (.ifCond .ne 5, 3) := by decide +kernel
theorem dX7_enters_48 : decode cX7_enters 48 = .ok (.iconst 0, 1) := by decide +kernel
theorem dX7_enters_49 : decode cX7_enters 49 = .ok (.ireturn, 1) := by decide +kernel
theorem dX7_enters_50 : decode cX7_enters 50 = .ok (.aload_n 0, 1) := by decide +kernel
theorem dX7_enters_51 : decode cX7_enters 51 = .ok (.getfield 9, 3) := by decide +kernel
theorem dX7_enters_54 : decode cX7_enters 54 = .ok (.iconst 0, 1) := by decide +kernel
theorem dX7_enters_55 : decode cX7_enters 55 = .ok (.dup2, 1) := by decide +kernel
theorem dX7_enters_56 : decode cX7_enters 56 = .ok (.iaload, 1) := by decide +kernel
theorem dX7_enters_57 : decode cX7_enters 57 = .ok (.iconst 1, 1) := by decide +kernel
theorem dX7_enters_58 : decode cX7_enters 58 = .ok (.iadd, 1) := by decide +kernel
theorem dX7_enters_59 : decode cX7_enters 59 = .ok (.iastore, 1) := by decide +kernel
theorem dX7_enters_60 : decode cX7_enters 60 = .ok (.aload_n 0, 1) := by decide +kernel
theorem dX7_enters_61 : decode cX7_enters 61 = .ok (.aload_n 0, 1) := by decide +kernel
theorem dX7_enters_62 : decode cX7_enters 62 = .ok (.getfield 9, 3) := by decide +kernel
theorem dX7_enters_65 : decode cX7_enters 65 = .ok (.iconst 0, 1) := by decide +kernel
theorem dX7_enters_66 : decode cX7_enters 66 = .ok (.iaload, 1) := by decide +kernel
theorem dX7_enters_67 : decode cX7_enters 67 = .ok (.iconst 1, 1) := by decide +kernel
theorem dX7_enters_68 : decode cX7_enters 68 = .ok (.isub, 1) := by decide +kernel
theorem dX7_enters_69 : decode cX7_enters 69 = .ok (.iload_n 3, 1) := by decide +kernel
theorem dX7_enters_70 : decode cX7_enters 70 = .ok (.invokevirtual 157, 3) := by decide +kernel
theorem dX7_enters_73 : decode cX7_enters 73 = .ok (.aload_n 0, 1) := by decide +kernel
theorem dX7_enters_74 : decode cX7_enters 74 = .ok (.getfield 9, 3) := by decide +kernel
theorem dX7_enters_77 : decode cX7_enters 77 = .ok (.iconst 0, 1) := by decide +kernel
theorem dX7_enters_78 : decode cX7_enters 78 = .ok (.iaload, 1) := by decide +kernel
theorem dX7_enters_79 : decode cX7_enters 79 = .ok (.iconst 1, 1) := by decide +kernel
theorem dX7_enters_80 : decode cX7_enters 80 = .ok (.isub, 1) := by decide +kernel
theorem dX7_enters_81 : decode cX7_enters 81 = .ok (.ireturn, 1) := by decide +kernel
set_option maxRecDepth 20000 in
theorem ggX7_addWalker_X7_begins : GoodIn wsX7_addWalker wsX7_begins := goodIn_r _ [5, 6, 7, 8, 9, 4, 10, 53, 54, 55, 56, 57, 58, 59, 60, 61, 62, 63, 64, 65, 66, 67, 68, 69, 70, 71, 72, 73] (by decide +kernel) (by decide +kernel)
set_option maxRecDepth 20000 in
theorem gX7_addWalker_X7_begins : GoodIn wsX7_addWalker (wsV RX7 104 RX7 yX7_begins wsX7_begins) := goodIn_app (goodIn_of _ (by decide +kernel)) ggX7_addWalker_X7_begins
set_option maxRecDepth 20000 in
theorem ggX7_addWalker_X7_enters : GoodIn wsX7_addWalker wsX7_enters := goodIn_r _ [14, 6, 15, 16, 4, 17, 18, 19, 20, 21, 22, 23, 24, 25, 26, 27, 28, 29, 30, 31, 32, 33, 34, 35, 36, 37, 38, 39, 40, 41, 42, 53, 54, 55, 56, 57, 58, 59, 60, 61, 62, 63, 64, 65, 66, 67, 68, 69, 70, 71, 72, 73] (by decide +kernel) (by decide +kernel)
set_option maxRecDepth 20000 in
theorem gX7_addWalker_X7_enters : GoodIn wsX7_addWalker (wsV RX7 161 RX7 yX7_enters wsX7_enters) := goodIn_app (goodIn_of _ (by decide +kernel)) ggX7_addWalker_X7_enters
set_option maxRecDepth 20000 in
theorem ggX7_addWalker_X7_ends : GoodIn wsX7_addWalker wsX7_ends := goodIn_r _ [46, 38, 7, 6, 8, 9, 4, 10, 47, 48, 49, 50, 51, 52, 53, 54, 55, 56, 57, 58, 59, 60, 61, 62, 63, 64, 65, 66, 67, 68, 69, 70, 71, 72, 73] (by decide +kernel) (by decide +kernel)
set_option maxRecDepth 20000 in
theorem gX7_addWalker_X7_ends : GoodIn wsX7_addWalker (wsV RX7 111 RX7 yX7_ends wsX7_ends) := goodIn_app (goodIn_of _ (by decide +kernel)) ggX7_addWalker_X7_ends
theorem dX7_addWalker_0 : decode cX7_addWalker 0 = .ok (.aload_n 0, 1) := by decide +kernel
theorem dX7_addWalker_1 : decode cX7_addWalker 1 = .ok (.invokevirtual 104, 3) := by decide +kernel
theorem dX7_addWalker_4 : decode cX7_addWalker 4 = .ok (.aload_n 0, 1) := by decide +kernel
theorem dX7_addWalker_5 : decode cX7_addWalker 5 = .ok (.aload_n 0, 1) := by decide +kernel
theorem dX7_addWalker_6 : decode cX7_addWalker 6 = .ok (.iload_n 1, 1) := by decide +kernel
theorem dX7_addWalker_7 : decode cX7_addWalker 7 = .ok (.iload_n 2, 1) := by decide +kernel
theorem dX7_addWalker_8 : decode cX7_addWalker 8 = .ok (.invokevirtual 161, 3) := by decide +kernel
theorem dX7_addWalker_11 : decode cX7_addWalker 11 = .ok (.invokevirtual 111, 3) := by decide +kernel
theorem dX7_addWalker_14 : decode cX7_addWalker 14 = .ok (.ireturn, 1) := by decide +kernel
set_option maxRecDepth 20000 in
theorem ggX7_mayEnter_X7_of : GoodIn wsX7_mayEnter wsX7_of := goodIn_r _ [6, 1, 7, 8, 5, 9, 10, 11, 12, 13, 14, 15, 16, 17, 18, 19, 20, 21, 22, 23, 24, 25, 26, 27, 28, 29, 30] (by decide +kernel) (by decide +kernel)
set_option maxRecDepth 20000 in
theorem gX7_mayEnter_X7_of : GoodIn wsX7_mayEnter (wsV RX7 94 RX7 yX7_of wsX7_of) := goodIn_app (goodIn_of _ (by decide +kernel)) ggX7_mayEnter_X7_of
theorem dX7_mayEnter_0 : decode cX7_mayEnter 0 = .ok (.aload_n 0, 1) := by decide +kernel
theorem dX7_mayEnter_1 : decode cX7_mayEnter 1 = .ok (.iload_n 2, 1) := by decide +kernel
theorem dX7_mayEnter_2 : decode cX7_mayEnter 2 = .ok (.iconst 2, 1) := by decide +kernel
theorem dX7_mayEnter_3 : decode cX7_mayEnter 3 = .ok (.invokevirtual 94, 3) := by decide +kernel
theorem dX7_mayEnter_6 : decode cX7_mayEnter 6 = .ok (.istore_n 3, 1) := by decide +kernel
theorem dX7_mayEnter_7 : decode cX7_mayEnter 7 = .ok (.iload_n 3, 1) := by decide +kernel
