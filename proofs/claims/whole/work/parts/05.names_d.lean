theorem dX7_mayEnter_8 : decode cX7_mayEnter 8 = .ok (.iconst (-1), 1) := by decide +kernel
theorem dX7_mayEnter_9 : decode cX7_mayEnter 9 = .ok (.if_icmp .eq 18, 3) := by decide +kernel
theorem dX7_mayEnter_12 : decode cX7_mayEnter 12 = .ok (.aload_n 0, 1) := by decide +kernel
theorem dX7_mayEnter_13 : decode cX7_mayEnter 13 = .ok (.getfield 9, 3) := by decide +kernel
theorem dX7_mayEnter_16 : decode cX7_mayEnter 16 = .ok (.iconst 3, 1) := by decide +kernel
theorem dX7_mayEnter_17 : decode cX7_mayEnter 17 = .ok (.iload_n 3, 1) := by decide +kernel
theorem dX7_mayEnter_18 : decode cX7_mayEnter 18 = .ok (.iadd, 1) := by decide +kernel
theorem dX7_mayEnter_19 : decode cX7_mayEnter 19 = .ok (.iaload, 1) := by decide +kernel
theorem dX7_mayEnter_20 : decode cX7_mayEnter 20 = .ok (.bipush 100, 2) := by decide +kernel
theorem dX7_mayEnter_22 : decode cX7_mayEnter 22 = .ok (.iload_n 1, 1) := by decide +kernel
theorem dX7_mayEnter_23 : decode cX7_mayEnter 23 = .ok (.iadd, 1) := by decide +kernel
theorem dX7_mayEnter_24 : decode cX7_mayEnter 24 = .ok (.if_icmp .ne 7, 3) := by decide +kernel
theorem dX7_mayEnter_27 : decode cX7_mayEnter 27 = .ok (.iconst 1, 1) := by decide +kernel
theorem dX7_mayEnter_28 : decode cX7_mayEnter 28 = .ok (.goto 4, 3) := by decide +kernel
theorem dX7_mayEnter_31 : decode cX7_mayEnter 31 = .ok (.iconst 0, 1) := by decide +kernel
theorem dX7_mayEnter_32 : decode cX7_mayEnter 32 = .ok (.ireturn, 1) := by decide +kernel
set_option maxRecDepth 20000 in
theorem ggX7_measures_X7_spreads : GoodIn wsX7_measures wsX7_spreads := goodIn_r _ [6, 1, 7, 8, 5, 9, 10, 11, 12, 13, 14, 15, 16, 17, 18, 19, 20, 21, 22, 23, 24, 25, 26, 27, 28, 29, 30, 31, 32, 33, 34, 35, 36, 37, 38, 39, 40, 41, 42, 43, 44, 45, 46, 47, 48, 49, 50, 51, 52, 53, 54, 55] (by decide +kernel) (by decide +kernel)
set_option maxRecDepth 20000 in
theorem gX7_measures_X7_spreads : GoodIn wsX7_measures (wsV RX7 164 RX7 yX7_spreads wsX7_spreads) := goodIn_app (goodIn_of _ (by decide +kernel)) ggX7_measures_X7_spreads
theorem dX7_measures_0 : decode cX7_measures 0 = .ok (.iconst 0, 1) := by decide +kernel
theorem dX7_measures_1 : decode cX7_measures 1 = .ok (.istore_n 3, 1) := by decide +kernel
theorem dX7_measures_2 : decode cX7_measures 2 = .ok (.iload_n 3, 1) := by decide +kernel
theorem dX7_measures_3 : decode cX7_measures 3 = .ok (.bipush 25, 2) := by decide +kernel
theorem dX7_measures_5 : decode cX7_measures 5 = .ok (.if_icmp .ge 25, 3) := by decide +kernel
theorem dX7_measures_8 : decode cX7_measures 8 = .ok (.aload_n 0, 1) := by decide +kernel
theorem dX7_measures_9 : decode cX7_measures 9 = .ok (.getfield 35, 3) := by decide +kernel
theorem dX7_measures_12 : decode cX7_measures 12 = .ok (.iload_n 3, 1) := by decide +kernel
theorem dX7_measures_13 : decode cX7_measures 13 = .ok (.iload_n 3, 1) := by decide +kernel
theorem dX7_measures_14 : decode cX7_measures 14 = .ok (.iload_n 2, 1) := by decide +kernel
theorem dX7_measures_15 : decode cX7_measures 15 = .ok (.if_icmp .ne 7, 3) := by decide +kernel
theorem dX7_measures_18 : decode cX7_measures 18 = .ok (.iconst 0, 1) := by decide +kernel
theorem dX7_measures_19 : decode cX7_measures 19 = .ok (.goto 4, 3) := by decide +kernel
theorem dX7_measures_22 : decode cX7_measures 22 = .ok (.iconst (-1), 1) := by decide +kernel
theorem dX7_measures_23 : decode cX7_measures 23 = .ok (.iastore, 1) := by decide +kernel
theorem dX7_measures_24 : decode cX7_measures 24 = .ok (.iinc 3 1, 3) := by decide +kernel
theorem dX7_measures_27 : decode cX7_measures 27 = .ok (.goto (-25), 3) := by decide +kernel
theorem dX7_measures_30 : decode cX7_measures 30 = .ok (.iconst 0, 1) := by decide +kernel
theorem dX7_measures_31 : decode cX7_measures 31 = .ok (.istore_n 3, 1) := by decide +kernel
theorem dX7_measures_32 : decode cX7_measures 32 = .ok (.iload_n 3, 1) := by decide +kernel
theorem dX7_measures_33 : decode cX7_measures 33 = .ok (.bipush 25, 2) := by decide +kernel
theorem dX7_measures_35 : decode cX7_measures 35 = .ok (.if_icmp .ge 33, 3) := by decide +kernel
theorem dX7_measures_38 : decode cX7_measures 38 = .ok (.iconst 0, 1) := by decide +kernel
theorem dX7_measures_39 : decode cX7_measures 39 = .ok (.istore 4, 2) := by decide +kernel
theorem dX7_measures_41 : decode cX7_measures 41 = .ok (.iload 4, 2) := by decide +kernel
theorem dX7_measures_43 : decode cX7_measures 43 = .ok (.bipush 25, 2) := by decide +kernel
theorem dX7_measures_45 : decode cX7_measures 45 = .ok (.if_icmp .ge 17, 3) := by decide +kernel
theorem dX7_measures_48 : decode cX7_measures 48 = .ok (.aload_n 0, 1) := by decide +kernel
theorem dX7_measures_49 : decode cX7_measures 49 = .ok (.iload_n 1, 1) := by decide +kernel
theorem dX7_measures_50 : decode cX7_measures 50 = .ok (.iload 4, 2) := by decide +kernel
theorem dX7_measures_52 : decode cX7_measures 52 = .ok (.iload_n 3, 1) := by decide +kernel
theorem dX7_measures_53 : decode cX7_measures 53 = .ok (.invokevirtual 164, 3) := by decide +kernel
theorem dX7_measures_56 : decode cX7_measures 56 = .ok (.iinc 4 1, 3) := by decide +kernel
theorem dX7_measures_59 : decode cX7_measures 59 = .ok (.goto (-18), 3) := by decide +kernel
theorem dX7_measures_62 : decode cX7_measures 62 = .ok (.iinc 3 1, 3) := by decide +kernel
theorem dX7_measures_65 : decode cX7_measures 65 = .ok (.goto (-33), 3) := by decide +kernel
theorem dX7_measures_68 : decode cX7_measures 68 = .ok (.return_, 1) := by decide +kernel
set_option maxRecDepth 20000 in
theorem ggX7_spreads_X7_beside : GoodIn wsX7_spreads wsX7_beside := goodIn_r _ [5, 6, 7, 4, 8, 9, 10, 11, 12, 13, 14] (by decide +kernel) (by decide +kernel)
set_option maxRecDepth 20000 in
theorem gX7_spreads_X7_beside : GoodIn wsX7_spreads (va_wsS RX7 98 yX7_beside wsX7_beside) := goodIn_app (goodIn_of _ (by decide +kernel)) ggX7_spreads_X7_beside
set_option maxRecDepth 20000 in
theorem ggX7_spreads_X7_isJoined : GoodIn wsX7_spreads wsX7_isJoined := goodIn_r _ [18, 2, 3, 4, 5, 6, 7, 8, 9, 10, 11, 12, 13, 14, 19, 20, 21, 22, 23, 24, 25, 26, 31, 32, 33, 34, 35, 36, 37, 38, 39, 40, 41, 42, 43, 44, 45, 46, 47, 48, 49, 50, 51] (by decide +kernel) (by decide +kernel)
set_option maxRecDepth 20000 in
theorem gX7_spreads_X7_isJoined : GoodIn wsX7_spreads (wsV RX7 168 RX7 yX7_isJoined wsX7_isJoined) := goodIn_app (goodIn_of _ (by decide +kernel)) ggX7_spreads_X7_isJoined
set_option maxRecDepth 20000 in
theorem ggX7_spreads_X7_mayEnter : GoodIn wsX7_spreads wsX7_mayEnter := goodIn_r _ [30, 23, 19, 20, 21, 4, 22, 24, 25, 26, 31, 32, 33, 34, 35, 36, 37, 38, 39, 40, 41, 42, 43, 44, 45, 46, 47, 48, 49, 50, 51] (by decide +kernel) (by decide +kernel)
set_option maxRecDepth 20000 in
theorem gX7_spreads_X7_mayEnter : GoodIn wsX7_spreads (wsV RX7 171 RX7 yX7_mayEnter wsX7_mayEnter) := goodIn_app (goodIn_of _ (by decide +kernel)) ggX7_spreads_X7_mayEnter
theorem dX7_spreads_0 : decode cX7_spreads 0 = .ok (.iconst 0, 1) := by decide +kernel
theorem dX7_spreads_1 : decode cX7_spreads 1 = .ok (.istore 4, 2) := by decide +kernel
theorem dX7_spreads_3 : decode cX7_spreads 3 = .ok (.iload 4, 2) := by decide +kernel
theorem dX7_spreads_5 : decode cX7_spreads 5 = .ok (.iconst 4, 1) := by decide +kernel
theorem dX7_spreads_6 : decode cX7_spreads 6 = .ok (.if_icmp .ge 68, 3) := by decide +kernel
theorem dX7_spreads_9 : decode cX7_spreads 9 = .ok (.aload_n 0, 1) := by decide +kernel
theorem dX7_spreads_10 : decode cX7_spreads 10 = .ok (.getfield 35, 3) := by decide +kernel
theorem dX7_spreads_13 : decode cX7_spreads 13 = .ok (.iload_n 2, 1) := by decide +kernel
theorem dX7_spreads_14 : decode cX7_spreads 14 = .ok (.iaload, 1) := by decide +kernel
theorem dX7_spreads_15 : decode cX7_spreads 15 = .ok (.iload_n 3, 1) := by decide +kernel
theorem dX7_spreads_16 : decode cX7_spreads 16 = .ok (.if_icmp .ne 58, 3) := by decide +kernel
theorem dX7_spreads_19 : decode cX7_spreads 19 = .ok (.iload_n 2, 1) := by decide +kernel
theorem dX7_spreads_20 : decode cX7_spreads 20 = .ok (.iload 4, 2) := by decide +kernel
theorem dX7_spreads_22 : decode cX7_spreads 22 = .ok (.invokestatic 98, 3) := by decide +kernel
theorem dX7_spreads_25 : decode cX7_spreads 25 = .ok (.istore 5, 2) := by decide +kernel
theorem dX7_spreads_27 : decode cX7_spreads 27 = .ok (.aload_n 0, 1) := by decide +kernel
theorem dX7_spreads_28 : decode cX7_spreads 28 = .ok (.iload_n 2, 1) := by decide +kernel
theorem dX7_spreads_29 : decode cX7_spreads 29 = .ok (.iload 4, 2) := by decide +kernel
theorem dX7_spreads_31 : decode cX7_spreads 31 = .ok (.invokevirtual 168, 3) := by decide +kernel
theorem dX7_spreads_34 : decode cX7_spreads 34 = .ok (.ifCond .eq 34, 3) := by decide +kernel
theorem dX7_spreads_37 : decode cX7_spreads 37 = .ok (.aload_n 0, 1) := by decide +kernel
theorem dX7_spreads_38 : decode cX7_spreads 38 = .ok (.getfield 35, 3) := by decide +kernel
theorem dX7_spreads_41 : decode cX7_spreads 41 = .ok (.iload 5, 2) := by decide +kernel
theorem dX7_spreads_43 : decode cX7_spreads 43 = .ok (.iaload, 1) := by decide +kernel
theorem dX7_spreads_44 : decode cX7_spreads 44 = .ok (.iconst (-1), 1) := by decide +kernel
theorem dX7_spreads_45 : decode cX7_spreads 45 = .ok (.if_icmp .ne 23, 3) := by decide +kernel
theorem dX7_spreads_48 : decode cX7_spreads 48 = .ok (.aload_n 0, 1) := by decide +kernel
theorem dX7_spreads_49 : decode cX7_spreads 49 = .ok (.iload_n 1, 1) := by decide +kernel
theorem dX7_spreads_50 : decode cX7_spreads 50 = .ok (.iload 5, 2) := by decide +kernel
theorem dX7_spreads_52 : decode cX7_spreads 52 = .ok (.invokevirtual 171, 3) := by decide +kernel
theorem dX7_spreads_55 : decode cX7_spreads 55 = .ok (.ifCond .eq 13, 3) := by decide +kernel
theorem dX7_spreads_58 : decode cX7_spreads 58 = .ok (.aload_n 0, 1) := by decide +kernel
theorem dX7_spreads_59 : decode cX7_spreads 59 = .ok (.getfield 35, 3) := by decide +kernel
theorem dX7_spreads_62 : decode cX7_spreads 62 = .ok (.iload 5, 2) := by decide +kernel
theorem dX7_spreads_64 : decode cX7_spreads 64 = .ok (.iload_n 3, 1) := by decide +kernel
theorem dX7_spreads_65 : decode cX7_spreads 65 = .ok (.iconst 1, 1) := by decide +kernel
theorem dX7_spreads_66 : decode cX7_spreads 66 = .ok (.iadd, 1) := by decide +kernel
theorem dX7_spreads_67 : decode cX7_spreads 67 = .ok (.iastore, 1) := by decide +kernel
theorem dX7_spreads_68 : decode cX7_spreads 68 = .ok (.iinc 4 1, 3) := by decide +kernel
theorem dX7_spreads_71 : decode cX7_spreads 71 = .ok (.goto (-68), 3) := by decide +kernel
theorem dX7_spreads_74 : decode cX7_spreads 74 = .ok (.return_, 1) := by decide +kernel
set_option maxRecDepth 20000 in
theorem ggX7_farOf_X7_standing : GoodIn wsX7_farOf wsX7_standing := goodIn_r _ [6, 7, 8, 9, 10, 5, 11, 12, 13, 14, 47, 48, 49, 50, 51, 52, 53, 54, 55, 56, 57, 58, 59, 60, 61, 62, 63, 64, 65, 66, 67] (by decide +kernel) (by decide +kernel)
set_option maxRecDepth 20000 in
theorem gX7_farOf_X7_standing : GoodIn wsX7_farOf (wsV RX7 174 RX7 yX7_standing wsX7_standing) := goodIn_app (goodIn_of _ (by decide +kernel)) ggX7_farOf_X7_standing
set_option maxRecDepth 20000 in
theorem ggX7_farOf_X7_measures : GoodIn wsX7_farOf wsX7_measures := goodIn_r _ [18, 1, 19, 20, 21, 5, 22, 23, 24, 25, 26, 27, 28, 29, 30, 31, 12, 13, 14, 32, 33, 34, 35, 36, 37, 38, 39, 7, 40, 41, 42, 43, 44, 45, 46, 47, 48, 49, 50, 51, 52, 53, 54, 55, 56, 57, 58, 59, 60, 61, 62, 63, 64, 65, 66, 67] (by decide +kernel) (by decide +kernel)
set_option maxRecDepth 20000 in
theorem gX7_farOf_X7_measures : GoodIn wsX7_farOf (wsV RX7 177 RX7 yX7_measures wsX7_measures) := goodIn_app (goodIn_of _ (by decide +kernel)) ggX7_farOf_X7_measures
theorem dX7_farOf_0 : decode cX7_farOf 0 = .ok (.aload_n 0, 1) := by decide +kernel
theorem dX7_farOf_1 : decode cX7_farOf 1 = .ok (.iload_n 1, 1) := by decide +kernel
theorem dX7_farOf_2 : decode cX7_farOf 2 = .ok (.aload_n 0, 1) := by decide +kernel
theorem dX7_farOf_3 : decode cX7_farOf 3 = .ok (.iload_n 1, 1) := by decide +kernel
theorem dX7_farOf_4 : decode cX7_farOf 4 = .ok (.invokevirtual 174, 3) := by decide +kernel
theorem dX7_farOf_7 : decode cX7_farOf 7 = .ok (.invokevirtual 177, 3) := by decide +kernel
theorem dX7_farOf_10 : decode cX7_farOf 10 = .ok (.aload_n 0, 1) := by decide +kernel
theorem dX7_farOf_11 : decode cX7_farOf 11 = .ok (.getfield 35, 3) := by decide +kernel
theorem dX7_farOf_14 : decode cX7_farOf 14 = .ok (.iload_n 2, 1) := by decide +kernel
theorem dX7_farOf_15 : decode cX7_farOf 15 = .ok (.iaload, 1) := by decide +kernel
theorem dX7_farOf_16 : decode cX7_farOf 16 = .ok (.ireturn, 1) := by decide +kernel
set_option maxRecDepth 20000 in
theorem ggX7_walks_X7_cellAt : GoodIn wsX7_walks wsX7_cellAt := goodIn_r _ [5, 6, 7, 4, 8, 9, 10, 11, 12, 13, 14] (by decide +kernel) (by decide +kernel)
set_option maxRecDepth 20000 in
theorem gX7_walks_X7_cellAt : GoodIn wsX7_walks (va_wsS RX7 101 yX7_cellAt wsX7_cellAt) := goodIn_app (goodIn_of _ (by decide +kernel)) ggX7_walks_X7_cellAt
set_option maxRecDepth 20000 in
theorem ggX7_walks_X7_isWalker : GoodIn wsX7_walks wsX7_isWalker := goodIn_r _ [18, 1, 12, 13, 4, 14, 63, 64, 65, 66, 67, 68, 69, 70, 71, 72, 73, 74, 75, 76, 77, 78, 79, 80, 81, 82, 83] (by decide +kernel) (by decide +kernel)
set_option maxRecDepth 20000 in
theorem gX7_walks_X7_isWalker : GoodIn wsX7_walks (wsV RX7 91 RX7 yX7_isWalker wsX7_isWalker) := goodIn_app (goodIn_of _ (by decide +kernel)) ggX7_walks_X7_isWalker
set_option maxRecDepth 20000 in
theorem ggX7_walks_X7_isCell : GoodIn wsX7_walks wsX7_isCell := goodIn_r _ [8, 9, 10, 4, 11, 12, 13, 14] (by decide +kernel) (by decide +kernel)
set_option maxRecDepth 20000 in
theorem gX7_walks_X7_isCell : GoodIn wsX7_walks (va_wsS RX7 84 yX7_isCell wsX7_isCell) := goodIn_app (goodIn_of _ (by decide +kernel)) ggX7_walks_X7_isCell
set_option maxRecDepth 20000 in
theorem ggX7_walks_X7_farOf : GoodIn wsX7_walks wsX7_farOf := goodIn_r _ [22, 23, 24, 25, 26, 4, 27, 1, 15, 16, 17, 18, 12, 13, 14, 28, 29, 30, 31, 32, 33, 34, 35, 36, 37, 38, 6, 7, 8, 9, 10, 11, 39, 40, 41, 42, 43, 44, 45, 46, 47, 48, 49, 50, 51, 52, 53, 63, 64, 65, 66, 67, 68, 69, 70, 71, 72, 73, 74, 75, 76, 77, 78, 79, 80, 81, 82, 83] (by decide +kernel) (by decide +kernel)
set_option maxRecDepth 20000 in
theorem gX7_walks_X7_farOf : GoodIn wsX7_walks (wsV RX7 180 RX7 yX7_farOf wsX7_farOf) := goodIn_app (goodIn_of _ (by decide +kernel)) ggX7_walks_X7_farOf
set_option maxRecDepth 20000 in
theorem ggX7_walks_X7_holds : GoodIn wsX7_walks wsX7_holds := goodIn_r _ [57, 58, 63, 64, 65, 66, 67, 68, 69, 70, 71, 72, 73, 74, 75, 76, 77, 78, 79, 80, 81, 82, 83] (by decide +kernel) (by decide +kernel)
set_option maxRecDepth 20000 in
theorem gX7_walks_X7_holds : GoodIn wsX7_walks (wsV RX7 54 RX7 yX7_holds wsX7_holds) := goodIn_app (goodIn_of _ (by decide +kernel)) ggX7_walks_X7_holds
set_option maxRecDepth 20000 in
theorem ggX7_walks_X7_comes : GoodIn wsX7_walks wsX7_comes := goodIn_r _ [62, 1, 63, 64, 65, 66, 67, 68, 69, 70, 71, 72, 73, 74, 75, 76, 77, 78, 79, 80, 81, 82, 83] (by decide +kernel) (by decide +kernel)
set_option maxRecDepth 20000 in
theorem gX7_walks_X7_comes : GoodIn wsX7_walks (wsV RX7 157 RX7 yX7_comes wsX7_comes) := goodIn_app (goodIn_of _ (by decide +kernel)) ggX7_walks_X7_comes
theorem dX7_walks_0 : decode cX7_walks 0 = .ok (.iload_n 2, 1) := by decide +kernel
theorem dX7_walks_1 : decode cX7_walks 1 = .ok (.iload_n 3, 1) := by decide +kernel
theorem dX7_walks_2 : decode cX7_walks 2 = .ok (.invokestatic 101, 3) := by decide +kernel
theorem dX7_walks_5 : decode cX7_walks 5 = .ok (.istore 4, 2) := by decide +kernel
theorem dX7_walks_7 : decode cX7_walks 7 = .ok (.aload_n 0, 1) := by decide +kernel
theorem dX7_walks_8 : decode cX7_walks 8 = .ok (.iload_n 1, 1) := by decide +kernel
theorem dX7_walks_9 : decode cX7_walks 9 = .ok (.invokevirtual 91, 3) := by decide +kernel
theorem dX7_walks_12 : decode cX7_walks 12 = .ok (.ifCond .eq 15, 3) := by decide +kernel
theorem dX7_walks_15 : decode cX7_walks 15 = .ok (.iload_n 2, 1) := by decide +kernel
theorem dX7_walks_16 : decode cX7_walks 16 = .ok (.iload_n 3, 1) := by decide +kernel
theorem dX7_walks_17 : decode cX7_walks 17 = .ok (.invokestatic 84, 3) := by decide +kernel
theorem dX7_walks_20 : decode cX7_walks 20 = .ok (.ifCond .eq 7, 3) := by decide +kernel
theorem dX7_walks_23 : decode cX7_walks 23 = .ok (.iconst 1, 1) := by decide +kernel
theorem dX7_walks_24 : decode cX7_walks 24 = .ok (.goto 4, 3) := by decide +kernel
theorem dX7_walks_27 : decode cX7_walks 27 = .ok (.iconst 0, 1) := by decide +kernel
theorem dX7_walks_28 : decode cX7_walks 28 = .ok (.istore 5, 2) := by decide +kernel
theorem dX7_walks_30 : decode cX7_walks 30 = .ok (.iload 5, 2) := by decide +kernel
theorem dX7_walks_32 : decode cX7_walks 32 = .ok (.ifCond .eq 13, 3) := by decide +kernel
theorem dX7_walks_35 : decode cX7_walks 35 = .ok (.aload_n 0, 1) := by decide +kernel
theorem dX7_walks_36 : decode cX7_walks 36 = .ok (.iload_n 1, 1) := by decide +kernel
theorem dX7_walks_37 : decode cX7_walks 37 = .ok (.iload 4, 2) := by decide +kernel
theorem dX7_walks_39 : decode cX7_walks 39 = .ok (.invokevirtual 180, 3) := by decide +kernel
theorem dX7_walks_42 : decode cX7_walks 42 = .ok (.goto 4, 3) := by decide +kernel
theorem dX7_walks_45 : decode cX7_walks 45 = .ok (.iconst (-1), 1) := by decide +kernel
theorem dX7_walks_46 : decode cX7_walks 46 = .ok (.istore 6, 2) := by decide +kernel
theorem dX7_walks_48 : decode cX7_walks 48 = .ok (.aload_n 0, 1) := by decide +kernel
theorem dX7_walks_49 : decode cX7_walks 49 = .ok (.iload 5, 2) := by decide +kernel
theorem dX7_walks_51 : decode cX7_walks 51 = .ok (.iload 6, 2) := by decide +kernel
theorem dX7_walks_53 : decode cX7_walks 53 = .ok (.ifCond .eq 7, 3) := by decide +kernel
theorem dX7_walks_56 : decode cX7_walks 56 = .ok (.iconst 1, 1) := by decide +kernel
theorem dX7_walks_57 : decode cX7_walks 57 = .ok (.goto 4, 3) := by decide +kernel
theorem dX7_walks_60 : decode cX7_walks 60 = .ok (.iconst 0, 1) := by decide +kernel
theorem dX7_walks_61 : decode cX7_walks 61 = .ok (.iload 6, 2) := by decide +kernel
theorem dX7_walks_63 : decode cX7_walks 63 = .ok (.iconst (-1), 1) := by decide +kernel
theorem dX7_walks_64 : decode cX7_walks 64 = .ok (.if_icmp .eq 7, 3) := by decide +kernel
theorem dX7_walks_67 : decode cX7_walks 67 = .ok (.iconst 1, 1) := by decide +kernel
theorem dX7_walks_68 : decode cX7_walks 68 = .ok (.goto 4, 3) := by decide +kernel
theorem dX7_walks_71 : decode cX7_walks 71 = .ok (.iconst 0, 1) := by decide +kernel
theorem dX7_walks_72 : decode cX7_walks 72 = .ok (.invokevirtual 54, 3) := by decide +kernel
theorem dX7_walks_75 : decode cX7_walks 75 = .ok (.ifCond .ne 5, 3) := by decide +kernel
theorem dX7_walks_78 : decode cX7_walks 78 = .ok (.iconst 0, 1) := by decide +kernel
theorem dX7_walks_79 : decode cX7_walks 79 = .ok (.ireturn, 1) := by decide +kernel
theorem dX7_walks_80 : decode cX7_walks 80 = .ok (.aload_n 0, 1) := by decide +kernel
theorem dX7_walks_81 : decode cX7_walks 81 = .ok (.iload_n 1, 1) := by decide +kernel
theorem dX7_walks_82 : decode cX7_walks 82 = .ok (.iload 4, 2) := by decide +kernel
theorem dX7_walks_84 : decode cX7_walks 84 = .ok (.invokevirtual 157, 3) := by decide +kernel
theorem dX7_walks_87 : decode cX7_walks 87 = .ok (.aload_n 0, 1) := by decide +kernel
theorem dX7_walks_88 : decode cX7_walks 88 = .ok (.getfield 9, 3) := by decide +kernel
theorem dX7_walks_91 : decode cX7_walks 91 = .ok (.iconst 2, 1) := by decide +kernel
theorem dX7_walks_92 : decode cX7_walks 92 = .ok (.dup2, 1) := by decide +kernel
theorem dX7_walks_93 : decode cX7_walks 93 = .ok (.iaload, 1) := by decide +kernel
theorem dX7_walks_94 : decode cX7_walks 94 = .ok (.iload 6, 2) := by decide +kernel
theorem dX7_walks_96 : decode cX7_walks 96 = .ok (.iadd, 1) := by decide +kernel
theorem dX7_walks_97 : decode cX7_walks 97 = .ok (.iastore, 1) := by decide +kernel
theorem dX7_walks_98 : decode cX7_walks 98 = .ok (.iload 6, 2) := by decide +kernel
theorem dX7_walks_100 : decode cX7_walks 100 = .ok (.ireturn, 1) := by decide +kernel
set_option maxRecDepth 20000 in
theorem ggX7_walk_X7_begins : GoodIn wsX7_walk wsX7_begins := goodIn_r _ [5, 6, 7, 8, 9, 4, 10, 85, 86, 87, 88, 89, 90, 91, 92, 93, 94, 95, 96, 97, 98, 99, 100, 101, 102, 103, 104, 105] (by decide +kernel) (by decide +kernel)
set_option maxRecDepth 20000 in
theorem gX7_walk_X7_begins : GoodIn wsX7_walk (wsV RX7 104 RX7 yX7_begins wsX7_begins) := goodIn_app (goodIn_of _ (by decide +kernel)) ggX7_walk_X7_begins
set_option maxRecDepth 20000 in
theorem ggX7_walk_X7_walks : GoodIn wsX7_walk wsX7_walks := goodIn_r _ [14, 6, 15, 16, 4, 17, 18, 19, 20, 21, 22, 23, 24, 25, 26, 27, 28, 29, 30, 31, 32, 33, 34, 35, 36, 37, 38, 39, 40, 41, 42, 43, 44, 45, 46, 47, 48, 49, 50, 51, 52, 53, 54, 55, 56, 57, 58, 59, 60, 61, 62, 63, 64, 65, 66, 67, 68, 69, 70, 71, 72, 73, 74, 85, 86, 87, 88, 89, 90, 91, 92, 93, 94, 95, 96, 97, 98, 99, 100, 101, 102, 103, 104, 105] (by decide +kernel) (by decide +kernel)
set_option maxRecDepth 20000 in
theorem gX7_walk_X7_walks : GoodIn wsX7_walk (wsV RX7 183 RX7 yX7_walks wsX7_walks) := goodIn_app (goodIn_of _ (by decide +kernel)) ggX7_walk_X7_walks
set_option maxRecDepth 20000 in
theorem ggX7_walk_X7_ends : GoodIn wsX7_walk wsX7_ends := goodIn_r _ [78, 70, 7, 6, 8, 9, 4, 10, 79, 80, 81, 82, 83, 84, 85, 86, 87, 88, 89, 90, 91, 92, 93, 94, 95, 96, 97, 98, 99, 100, 101, 102, 103, 104, 105] (by decide +kernel) (by decide +kernel)
set_option maxRecDepth 20000 in
theorem gX7_walk_X7_ends : GoodIn wsX7_walk (wsV RX7 111 RX7 yX7_ends wsX7_ends) := goodIn_app (goodIn_of _ (by decide +kernel)) ggX7_walk_X7_ends
theorem dX7_walk_0 : decode cX7_walk 0 = .ok (.aload_n 0, 1) := by decide +kernel
theorem dX7_walk_1 : decode cX7_walk 1 = .ok (.invokevirtual 104, 3) := by decide +kernel
theorem dX7_walk_4 : decode cX7_walk 4 = .ok (.aload_n 0, 1) := by decide +kernel
theorem dX7_walk_5 : decode cX7_walk 5 = .ok (.aload_n 0, 1) := by decide +kernel
theorem dX7_walk_6 : decode cX7_walk 6 = .ok (.iload_n 1, 1) := by decide +kernel
theorem dX7_walk_7 : decode cX7_walk 7 = .ok (.iload_n 2, 1) := by decide +kernel
theorem dX7_walk_8 : decode cX7_walk 8 = .ok (.iload_n 3, 1) := by decide +kernel
theorem dX7_walk_9 : decode cX7_walk 9 = .ok (.invokevirtual 183, 3) := by decide +kernel
theorem dX7_walk_12 : decode cX7_walk 12 = .ok (.invokevirtual 111, 3) := by decide +kernel
theorem dX7_walk_15 : decode cX7_walk 15 = .ok (.ireturn, 1) := by decide +kernel
set_option maxRecDepth 20000 in
theorem ggX7_asks_X7_isCell : GoodIn wsX7_asks wsX7_isCell := goodIn_r _ [4, 5, 6, 3, 7, 8, 9, 10] (by decide +kernel) (by decide +kernel)
set_option maxRecDepth 20000 in
theorem gX7_asks_X7_isCell : GoodIn wsX7_asks (va_wsS RX7 84 yX7_isCell wsX7_isCell) := goodIn_app (goodIn_of _ (by decide +kernel)) ggX7_asks_X7_isCell
set_option maxRecDepth 20000 in
theorem ggX7_asks_X7_goes : GoodIn wsX7_asks wsX7_goes := goodIn_r _ [14, 15, 16, 17, 3, 18, 19, 31, 32, 33, 34, 35, 36, 37, 38, 39, 40, 41, 42, 43, 44, 45, 46, 47, 48, 49, 50, 51] (by decide +kernel) (by decide +kernel)
set_option maxRecDepth 20000 in
theorem gX7_asks_X7_goes : GoodIn wsX7_asks (wsV RX7 68 RX7 yX7_goes wsX7_goes) := goodIn_app (goodIn_of _ (by decide +kernel)) ggX7_asks_X7_goes
set_option maxRecDepth 20000 in
theorem ggX7_asks_X7_cellAt : GoodIn wsX7_asks wsX7_cellAt := goodIn_r _ [22, 1, 2, 3, 4, 5, 6, 7, 8, 9, 10] (by decide +kernel) (by decide +kernel)
set_option maxRecDepth 20000 in
theorem gX7_asks_X7_cellAt : GoodIn wsX7_asks (va_wsS RX7 101 yX7_cellAt wsX7_cellAt) := goodIn_app (goodIn_of _ (by decide +kernel)) ggX7_asks_X7_cellAt
set_option maxRecDepth 20000 in
theorem ggX7_asks_X7_of : GoodIn wsX7_asks wsX7_of := goodIn_r _ [26, 27, 28, 29, 3, 30, 31, 32, 33, 34, 35, 36, 37, 38, 39, 40, 41, 42, 43, 44, 45, 46, 47, 48, 49, 50, 51] (by decide +kernel) (by decide +kernel)
set_option maxRecDepth 20000 in
theorem gX7_asks_X7_of : GoodIn wsX7_asks (wsV RX7 94 RX7 yX7_of wsX7_of) := goodIn_app (goodIn_of _ (by decide +kernel)) ggX7_asks_X7_of
theorem dX7_asks_0 : decode cX7_asks 0 = .ok (.aload_n 0, 1) := by decide +kernel
theorem dX7_asks_1 : decode cX7_asks 1 = .ok (.iload_n 1, 1) := by decide +kernel
theorem dX7_asks_2 : decode cX7_asks 2 = .ok (.iload_n 2, 1) := by decide +kernel
theorem dX7_asks_3 : decode cX7_asks 3 = .ok (.invokestatic 84, 3) := by decide +kernel
theorem dX7_asks_6 : decode cX7_asks 6 = .ok (.invokevirtual 68, 3) := by decide +kernel
theorem dX7_asks_9 : decode cX7_asks 9 = .ok (.ifCond .eq 16, 3) := by decide +kernel
theorem dX7_asks_12 : decode cX7_asks 12 = .ok (.aload_n 0, 1) := by decide +kernel
theorem dX7_asks_13 : decode cX7_asks 13 = .ok (.iload_n 1, 1) := by decide +kernel
theorem dX7_asks_14 : decode cX7_asks 14 = .ok (.iload_n 2, 1) := by decide +kernel
theorem dX7_asks_15 : decode cX7_asks 15 = .ok (.invokestatic 101, 3) := by decide +kernel
theorem dX7_asks_18 : decode cX7_asks 18 = .ok (.iload_n 3, 1) := by decide +kernel
theorem dX7_asks_19 : decode cX7_asks 19 = .ok (.invokevirtual 94, 3) := by decide +kernel
theorem dX7_asks_22 : decode cX7_asks 22 = .ok (.goto 4, 3) := by decide +kernel
theorem dX7_asks_25 : decode cX7_asks 25 = .ok (.iconst 0, 1) := by decide +kernel
theorem dX7_asks_26 : decode cX7_asks 26 = .ok (.ireturn, 1) := by decide +kernel
set_option maxRecDepth 20000 in
theorem ggX7_openings_X7_asks : GoodIn wsX7_openings wsX7_asks := goodIn_r _ [5, 6, 7, 4, 8, 9, 10, 11, 12, 13, 14, 15, 16, 17, 18, 19, 20, 21, 22, 23, 24, 25, 26, 27, 28, 29, 30, 31, 32, 33, 34, 35, 36, 37, 38, 39, 40, 41, 42, 43, 44, 45, 46, 47, 48, 49, 50, 51, 52, 53, 54, 55] (by decide +kernel) (by decide +kernel)
set_option maxRecDepth 20000 in
theorem gX7_openings_X7_asks : GoodIn wsX7_openings (wsV RX7 186 RX7 yX7_asks wsX7_asks) := goodIn_app (goodIn_of _ (by decide +kernel)) ggX7_openings_X7_asks
theorem dX7_openings_0 : decode cX7_openings 0 = .ok (.aload_n 0, 1) := by decide +kernel
theorem dX7_openings_1 : decode cX7_openings 1 = .ok (.iload_n 1, 1) := by decide +kernel
theorem dX7_openings_2 : decode cX7_openings 2 = .ok (.iload_n 2, 1) := by decide +kernel
theorem dX7_openings_3 : decode cX7_openings 3 = .ok (.iconst 0, 1) := by decide +kernel
theorem dX7_openings_4 : decode cX7_openings 4 = .ok (.invokevirtual 186, 3) := by decide +kernel
theorem dX7_openings_7 : decode cX7_openings 7 = .ok (.ireturn, 1) := by decide +kernel
set_option maxRecDepth 20000 in
theorem ggX7_isPinned_X7_asks : GoodIn wsX7_isPinned wsX7_asks := goodIn_r _ [5, 6, 7, 4, 8, 9, 10, 11, 12, 13, 14, 15, 16, 17, 18, 19, 20, 21, 22, 23, 24, 25, 26, 27, 28, 29, 30, 31, 32, 33, 34, 35, 36, 37, 38, 39, 40, 41, 42, 43, 44, 45, 46, 47, 48, 49, 50, 51, 52, 53, 54, 55] (by decide +kernel) (by decide +kernel)
set_option maxRecDepth 20000 in
theorem gX7_isPinned_X7_asks : GoodIn wsX7_isPinned (wsV RX7 186 RX7 yX7_asks wsX7_asks) := goodIn_app (goodIn_of _ (by decide +kernel)) ggX7_isPinned_X7_asks
theorem dX7_isPinned_0 : decode cX7_isPinned 0 = .ok (.aload_n 0, 1) := by decide +kernel
theorem dX7_isPinned_1 : decode cX7_isPinned 1 = .ok (.iload_n 1, 1) := by decide +kernel
theorem dX7_isPinned_2 : decode cX7_isPinned 2 = .ok (.iload_n 2, 1) := by decide +kernel
theorem dX7_isPinned_3 : decode cX7_isPinned 3 = .ok (.iconst 1, 1) := by decide +kernel
theorem dX7_isPinned_4 : decode cX7_isPinned 4 = .ok (.invokevirtual 186, 3) := by decide +kernel
theorem dX7_isPinned_7 : decode cX7_isPinned 7 = .ok (.iconst 1, 1) := by decide +kernel
theorem dX7_isPinned_8 : decode cX7_isPinned 8 = .ok (.if_icmp .ne 7, 3) := by decide +kernel
theorem dX7_isPinned_11 : decode cX7_isPinned 11 = .ok (.iconst 1, 1) := by decide +kernel
theorem dX7_isPinned_12 : decode cX7_isPinned 12 = .ok (.goto 4, 3) := by decide +kernel
theorem dX7_isPinned_15 : decode cX7_isPinned 15 = .ok (.iconst 0, 1) := by decide +kernel
theorem dX7_isPinned_16 : decode cX7_isPinned 16 = .ok (.ireturn, 1) := by decide +kernel
set_option maxRecDepth 20000 in
theorem ggX7_canShiftRow_X7_isLine : GoodIn wsX7_canShiftRow wsX7_isLine := goodIn_r _ [4, 5, 6, 3, 7] (by decide +kernel) (by decide +kernel)
set_option maxRecDepth 20000 in
theorem gX7_canShiftRow_X7_isLine : GoodIn wsX7_canShiftRow (va_wsS RX7 80 yX7_isLine wsX7_isLine) := goodIn_app (goodIn_of _ (by decide +kernel)) ggX7_canShiftRow_X7_isLine
set_option maxRecDepth 20000 in
theorem ggX7_canShiftRow_X7_goes : GoodIn wsX7_canShiftRow wsX7_goes := goodIn_r _ [11, 12, 13, 14, 3, 15, 16, 32, 33, 34, 35, 36, 37, 38, 39, 40, 41, 42, 43, 44, 45, 46, 47, 48, 49, 50, 51, 52] (by decide +kernel) (by decide +kernel)
set_option maxRecDepth 20000 in
theorem gX7_canShiftRow_X7_goes : GoodIn wsX7_canShiftRow (wsV RX7 68 RX7 yX7_goes wsX7_goes) := goodIn_app (goodIn_of _ (by decide +kernel)) ggX7_canShiftRow_X7_goes
set_option maxRecDepth 20000 in
theorem ggX7_canShiftRow_X7_isFree : GoodIn wsX7_canShiftRow wsX7_isFree := goodIn_r _ [20, 1, 2, 3, 4, 5, 6, 7, 21, 22, 23, 24, 25, 26, 27, 28, 29, 30, 31, 32, 33, 34, 35, 36, 37, 38, 39, 40, 41, 42, 43, 44, 45, 46, 47, 48, 49, 50, 51, 52] (by decide +kernel) (by decide +kernel)
set_option maxRecDepth 20000 in
theorem gX7_canShiftRow_X7_isFree : GoodIn wsX7_canShiftRow (wsV RX7 131 RX7 yX7_isFree wsX7_isFree) := goodIn_app (goodIn_of _ (by decide +kernel)) ggX7_canShiftRow_X7_isFree
theorem dX7_canShiftRow_0 : decode cX7_canShiftRow 0 = .ok (.aload_n 0, 1) := by decide +kernel
theorem dX7_canShiftRow_1 : decode cX7_canShiftRow 1 = .ok (.iload_n 1, 1) := by decide +kernel
theorem dX7_canShiftRow_2 : decode cX7_canShiftRow 2 = .ok (.invokestatic 80, 3) := by decide +kernel
theorem dX7_canShiftRow_5 : decode cX7_canShiftRow 5 = .ok (.invokevirtual 68, 3) := by decide +kernel
theorem dX7_canShiftRow_8 : decode cX7_canShiftRow 8 = .ok (.ifCond .eq 16, 3) := by decide +kernel
theorem dX7_canShiftRow_11 : decode cX7_canShiftRow 11 = .ok (.aload_n 0, 1) := by decide +kernel
theorem dX7_canShiftRow_12 : decode cX7_canShiftRow 12 = .ok (.iconst 1, 1) := by decide +kernel
theorem dX7_canShiftRow_13 : decode cX7_canShiftRow 13 = .ok (.iload_n 1, 1) := by decide +kernel
theorem dX7_canShiftRow_14 : decode cX7_canShiftRow 14 = .ok (.invokevirtual 131, 3) := by decide +kernel
theorem dX7_canShiftRow_17 : decode cX7_canShiftRow 17 = .ok (.ifCond .eq 7, 3) := by decide +kernel
theorem dX7_canShiftRow_20 : decode cX7_canShiftRow 20 = .ok (.iconst 1, 1) := by decide +kernel
theorem dX7_canShiftRow_21 : decode cX7_canShiftRow 21 = .ok (.goto 4, 3) := by decide +kernel
theorem dX7_canShiftRow_24 : decode cX7_canShiftRow 24 = .ok (.iconst 0, 1) := by decide +kernel
theorem dX7_canShiftRow_25 : decode cX7_canShiftRow 25 = .ok (.ireturn, 1) := by decide +kernel
set_option maxRecDepth 20000 in
theorem ggX7_canShiftColumn_X7_isLine : GoodIn wsX7_canShiftColumn wsX7_isLine := goodIn_r _ [4, 5, 6, 3, 7] (by decide +kernel) (by decide +kernel)
set_option maxRecDepth 20000 in
theorem gX7_canShiftColumn_X7_isLine : GoodIn wsX7_canShiftColumn (va_wsS RX7 80 yX7_isLine wsX7_isLine) := goodIn_app (goodIn_of _ (by decide +kernel)) ggX7_canShiftColumn_X7_isLine
set_option maxRecDepth 20000 in
theorem ggX7_canShiftColumn_X7_goes : GoodIn wsX7_canShiftColumn wsX7_goes := goodIn_r _ [11, 12, 13, 14, 3, 15, 16, 32, 33, 34, 35, 36, 37, 38, 39, 40, 41, 42, 43, 44, 45, 46, 47, 48, 49, 50, 51, 52] (by decide +kernel) (by decide +kernel)
set_option maxRecDepth 20000 in
theorem gX7_canShiftColumn_X7_goes : GoodIn wsX7_canShiftColumn (wsV RX7 68 RX7 yX7_goes wsX7_goes) := goodIn_app (goodIn_of _ (by decide +kernel)) ggX7_canShiftColumn_X7_goes
set_option maxRecDepth 20000 in
theorem ggX7_canShiftColumn_X7_isFree : GoodIn wsX7_canShiftColumn wsX7_isFree := goodIn_r _ [20, 1, 2, 3, 4, 5, 6, 7, 21, 22, 23, 24, 25, 26, 27, 28, 29, 30, 31, 32, 33, 34, 35, 36, 37, 38, 39, 40, 41, 42, 43, 44, 45, 46, 47, 48, 49, 50, 51, 52] (by decide +kernel) (by decide +kernel)
set_option maxRecDepth 20000 in
theorem gX7_canShiftColumn_X7_isFree : GoodIn wsX7_canShiftColumn (wsV RX7 131 RX7 yX7_isFree wsX7_isFree) := goodIn_app (goodIn_of _ (by decide +kernel)) ggX7_canShiftColumn_X7_isFree
theorem dX7_canShiftColumn_0 : decode cX7_canShiftColumn 0 = .ok (.aload_n 0, 1) := by decide +kernel
theorem dX7_canShiftColumn_1 : decode cX7_canShiftColumn 1 = .ok (.iload_n 1, 1) := by decide +kernel
theorem dX7_canShiftColumn_2 : decode cX7_canShiftColumn 2 = .ok (.invokestatic 80, 3) := by decide +kernel
theorem dX7_canShiftColumn_5 : decode cX7_canShiftColumn 5 = .ok (.invokevirtual 68, 3) := by decide +kernel
theorem dX7_canShiftColumn_8 : decode cX7_canShiftColumn 8 = .ok (.ifCond .eq 16, 3) := by decide +kernel
theorem dX7_canShiftColumn_11 : decode cX7_canShiftColumn 11 = .ok (.aload_n 0, 1) := by decide +kernel
theorem dX7_canShiftColumn_12 : decode cX7_canShiftColumn 12 = .ok (.iconst 0, 1) := by decide +kernel
theorem dX7_canShiftColumn_13 : decode cX7_canShiftColumn 13 = .ok (.iload_n 1, 1) := by decide +kernel
theorem dX7_canShiftColumn_14 : decode cX7_canShiftColumn 14 = .ok (.invokevirtual 131, 3) := by decide +kernel
theorem dX7_canShiftColumn_17 : decode cX7_canShiftColumn 17 = .ok (.ifCond .eq 7, 3) := by decide +kernel
theorem dX7_canShiftColumn_20 : decode cX7_canShiftColumn 20 = .ok (.iconst 1, 1) := by decide +kernel
theorem dX7_canShiftColumn_21 : decode cX7_canShiftColumn 21 = .ok (.goto 4, 3) := by decide +kernel
theorem dX7_canShiftColumn_24 : decode cX7_canShiftColumn 24 = .ok (.iconst 0, 1) := by decide +kernel
theorem dX7_canShiftColumn_25 : decode cX7_canShiftColumn 25 = .ok (.ireturn, 1) := by decide +kernel
set_option maxRecDepth 20000 in
theorem ggX7_hasLock_X7_isCell : GoodIn wsX7_hasLock wsX7_isCell := goodIn_r _ [4, 5, 6, 3, 7, 8, 9, 10] (by decide +kernel) (by decide +kernel)
set_option maxRecDepth 20000 in
theorem gX7_hasLock_X7_isCell : GoodIn wsX7_hasLock (va_wsS RX7 84 yX7_isCell wsX7_isCell) := goodIn_app (goodIn_of _ (by decide +kernel)) ggX7_hasLock_X7_isCell
set_option maxRecDepth 20000 in
theorem ggX7_hasLock_X7_goes : GoodIn wsX7_hasLock wsX7_goes := goodIn_r _ [14, 15, 16, 17, 3, 18, 19, 31, 32, 33, 34, 35, 36, 37, 38, 39, 40, 41, 42, 43, 44, 45, 46, 47, 48, 49, 50, 51] (by decide +kernel) (by decide +kernel)
set_option maxRecDepth 20000 in
theorem gX7_hasLock_X7_goes : GoodIn wsX7_hasLock (wsV RX7 68 RX7 yX7_goes wsX7_goes) := goodIn_app (goodIn_of _ (by decide +kernel)) ggX7_hasLock_X7_goes
set_option maxRecDepth 20000 in
theorem ggX7_hasLock_X7_cellAt : GoodIn wsX7_hasLock wsX7_cellAt := goodIn_r _ [22, 1, 2, 3, 4, 5, 6, 7, 8, 9, 10] (by decide +kernel) (by decide +kernel)
set_option maxRecDepth 20000 in
theorem gX7_hasLock_X7_cellAt : GoodIn wsX7_hasLock (va_wsS RX7 101 yX7_cellAt wsX7_cellAt) := goodIn_app (goodIn_of _ (by decide +kernel)) ggX7_hasLock_X7_cellAt
set_option maxRecDepth 20000 in
theorem ggX7_hasLock_X7_of : GoodIn wsX7_hasLock wsX7_of := goodIn_r _ [26, 27, 28, 29, 3, 30, 31, 32, 33, 34, 35, 36, 37, 38, 39, 40, 41, 42, 43, 44, 45, 46, 47, 48, 49, 50, 51] (by decide +kernel) (by decide +kernel)
set_option maxRecDepth 20000 in
theorem gX7_hasLock_X7_of : GoodIn wsX7_hasLock (wsV RX7 94 RX7 yX7_of wsX7_of) := goodIn_app (goodIn_of _ (by decide +kernel)) ggX7_hasLock_X7_of
theorem dX7_hasLock_0 : decode cX7_hasLock 0 = .ok (.aload_n 0, 1) := by decide +kernel
theorem dX7_hasLock_1 : decode cX7_hasLock 1 = .ok (.iload_n 1, 1) := by decide +kernel
theorem dX7_hasLock_2 : decode cX7_hasLock 2 = .ok (.iload_n 2, 1) := by decide +kernel
theorem dX7_hasLock_3 : decode cX7_hasLock 3 = .ok (.invokestatic 84, 3) := by decide +kernel
theorem dX7_hasLock_6 : decode cX7_hasLock 6 = .ok (.invokevirtual 68, 3) := by decide +kernel
theorem dX7_hasLock_9 : decode cX7_hasLock 9 = .ok (.ifCond .eq 21, 3) := by decide +kernel
theorem dX7_hasLock_12 : decode cX7_hasLock 12 = .ok (.aload_n 0, 1) := by decide +kernel
theorem dX7_hasLock_13 : decode cX7_hasLock 13 = .ok (.iload_n 1, 1) := by decide +kernel
theorem dX7_hasLock_14 : decode cX7_hasLock 14 = .ok (.iload_n 2, 1) := by decide +kernel
theorem dX7_hasLock_15 : decode cX7_hasLock 15 = .ok (.invokestatic 101, 3) := by decide +kernel
theorem dX7_hasLock_18 : decode cX7_hasLock 18 = .ok (.iconst 2, 1) := by decide +kernel
theorem dX7_hasLock_19 : decode cX7_hasLock 19 = .ok (.invokevirtual 94, 3) := by decide +kernel
theorem dX7_hasLock_22 : decode cX7_hasLock 22 = .ok (.iconst (-1), 1) := by decide +kernel
theorem dX7_hasLock_23 : decode cX7_hasLock 23 = .ok (.if_icmp .eq 7, 3) := by decide +kernel
theorem dX7_hasLock_26 : decode cX7_hasLock 26 = .ok (.iconst 1, 1) := by decide +kernel
theorem dX7_hasLock_27 : decode cX7_hasLock 27 = .ok (.goto 4, 3) := by decide +kernel
theorem dX7_hasLock_30 : decode cX7_hasLock 30 = .ok (.iconst 0, 1) := by decide +kernel
theorem dX7_hasLock_31 : decode cX7_hasLock 31 = .ok (.ireturn, 1) := by decide +kernel
set_option maxRecDepth 20000 in
theorem ggX7_lockAt_X7_cellAt : GoodIn wsX7_lockAt wsX7_cellAt := goodIn_r _ [4, 5, 6, 3, 7, 8, 9, 10, 11, 12, 13] (by decide +kernel) (by decide +kernel)
set_option maxRecDepth 20000 in
theorem gX7_lockAt_X7_cellAt : GoodIn wsX7_lockAt (va_wsS RX7 101 yX7_cellAt wsX7_cellAt) := goodIn_app (goodIn_of _ (by decide +kernel)) ggX7_lockAt_X7_cellAt
set_option maxRecDepth 20000 in
theorem ggX7_lockAt_X7_of : GoodIn wsX7_lockAt wsX7_of := goodIn_r _ [17, 18, 19, 20, 3, 21, 27, 28, 29, 30, 31, 32, 33, 34, 35, 36, 37, 38, 39, 40, 41, 42, 43, 44, 45, 46, 47] (by decide +kernel) (by decide +kernel)
set_option maxRecDepth 20000 in
theorem gX7_lockAt_X7_of : GoodIn wsX7_lockAt (wsV RX7 94 RX7 yX7_of wsX7_of) := goodIn_app (goodIn_of _ (by decide +kernel)) ggX7_lockAt_X7_of
set_option maxRecDepth 20000 in
theorem ggX7_lockAt_X7_isCell : GoodIn wsX7_lockAt wsX7_isCell := goodIn_r _ [7, 8, 9, 3, 10, 11, 12, 13] (by decide +kernel) (by decide +kernel)
set_option maxRecDepth 20000 in
theorem gX7_lockAt_X7_isCell : GoodIn wsX7_lockAt (va_wsS RX7 84 yX7_isCell wsX7_isCell) := goodIn_app (goodIn_of _ (by decide +kernel)) ggX7_lockAt_X7_isCell
set_option maxRecDepth 20000 in
theorem ggX7_lockAt_X7_holds : GoodIn wsX7_lockAt wsX7_holds := goodIn_r _ [25, 26, 27, 28, 29, 30, 31, 32, 33, 34, 35, 36, 37, 38, 39, 40, 41, 42, 43, 44, 45, 46, 47] (by decide +kernel) (by decide +kernel)
set_option maxRecDepth 20000 in
theorem gX7_lockAt_X7_holds : GoodIn wsX7_lockAt (wsV RX7 54 RX7 yX7_holds wsX7_holds) := goodIn_app (goodIn_of _ (by decide +kernel)) ggX7_lockAt_X7_holds
theorem dX7_lockAt_0 : decode cX7_lockAt 0 = .ok (.aload_n 0, 1) := by decide +kernel
theorem dX7_lockAt_1 : decode cX7_lockAt 1 = .ok (.iload_n 1, 1) := by decide +kernel
theorem dX7_lockAt_2 : decode cX7_lockAt 2 = .ok (.iload_n 2, 1) := by decide +kernel
theorem dX7_lockAt_3 : decode cX7_lockAt 3 = .ok (.invokestatic 101, 3) := by decide +kernel
theorem dX7_lockAt_6 : decode cX7_lockAt 6 = .ok (.iconst 2, 1) := by decide +kernel
theorem dX7_lockAt_7 : decode cX7_lockAt 7 = .ok (.invokevirtual 94, 3) := by decide +kernel
theorem dX7_lockAt_10 : decode cX7_lockAt 10 = .ok (.istore_n 3, 1) := by decide +kernel
theorem dX7_lockAt_11 : decode cX7_lockAt 11 = .ok (.aload_n 0, 1) := by decide +kernel
theorem dX7_lockAt_12 : decode cX7_lockAt 12 = .ok (.iload_n 1, 1) := by decide +kernel
theorem dX7_lockAt_13 : decode cX7_lockAt 13 = .ok (.iload_n 2, 1) := by decide +kernel
theorem dX7_lockAt_14 : decode cX7_lockAt 14 = .ok (.invokestatic 84, 3) := by decide +kernel
theorem dX7_lockAt_17 : decode cX7_lockAt 17 = .ok (.iload_n 3, 1) := by decide +kernel
theorem dX7_lockAt_18 : decode cX7_lockAt 18 = .ok (.iconst (-1), 1) := by decide +kernel
theorem dX7_lockAt_19 : decode cX7_lockAt 19 = .ok (.if_icmp .eq 7, 3) := by decide +kernel
theorem dX7_lockAt_22 : decode cX7_lockAt 22 = .ok (.iconst 1, 1) := by decide +kernel
theorem dX7_lockAt_23 : decode cX7_lockAt 23 = .ok (.goto 4, 3) := by decide +kernel
theorem dX7_lockAt_26 : decode cX7_lockAt 26 = .ok (.iconst 0, 1) := by decide +kernel
theorem dX7_lockAt_27 : decode cX7_lockAt 27 = .ok (.iconst 1, 1) := by decide +kernel
theorem dX7_lockAt_28 : decode cX7_lockAt 28 = .ok (.invokevirtual 54, 3) := by decide +kernel
theorem dX7_lockAt_31 : decode cX7_lockAt 31 = .ok (.ifCond .eq 11, 3) := by decide +kernel
theorem dX7_lockAt_34 : decode cX7_lockAt 34 = .ok (.bipush 97, 2) := by decide +kernel
theorem dX7_lockAt_36 : decode cX7_lockAt 36 = .ok (.iload_n 3, 1) := by decide +kernel
theorem dX7_lockAt_37 : decode cX7_lockAt 37 = .ok (.iadd, 1) := by decide +kernel
theorem dX7_lockAt_38 : decode cX7_lockAt 38 = .ok (.i2c, 1) := by decide +kernel
theorem dX7_lockAt_39 : decode cX7_lockAt 39 = .ok (.goto 4, 3) := by decide +kernel
theorem dX7_lockAt_42 : decode cX7_lockAt 42 = .ok (.iconst 0, 1) := by decide +kernel
theorem dX7_lockAt_43 : decode cX7_lockAt 43 = .ok (.ireturn, 1) := by decide +kernel
set_option maxRecDepth 20000 in
theorem ggX7_keysAt_X7_isCell : GoodIn wsX7_keysAt wsX7_isCell := goodIn_r _ [4, 5, 6, 3, 7, 8, 9, 10] (by decide +kernel) (by decide +kernel)
set_option maxRecDepth 20000 in
theorem gX7_keysAt_X7_isCell : GoodIn wsX7_keysAt (va_wsS RX7 84 yX7_isCell wsX7_isCell) := goodIn_app (goodIn_of _ (by decide +kernel)) ggX7_keysAt_X7_isCell
set_option maxRecDepth 20000 in
theorem ggX7_keysAt_X7_goes : GoodIn wsX7_keysAt wsX7_goes := goodIn_r _ [14, 15, 16, 17, 3, 18, 19, 28, 29, 30, 31, 32, 33, 34, 35, 36, 37, 38, 39, 40, 41, 42, 43, 44, 45, 46, 47, 48] (by decide +kernel) (by decide +kernel)
set_option maxRecDepth 20000 in
theorem gX7_keysAt_X7_goes : GoodIn wsX7_keysAt (wsV RX7 68 RX7 yX7_goes wsX7_goes) := goodIn_app (goodIn_of _ (by decide +kernel)) ggX7_keysAt_X7_goes
set_option maxRecDepth 20000 in
theorem ggX7_keysAt_X7_cellAt : GoodIn wsX7_keysAt wsX7_cellAt := goodIn_r _ [22, 1, 2, 3, 4, 5, 6, 7, 8, 9, 10] (by decide +kernel) (by decide +kernel)
set_option maxRecDepth 20000 in
theorem gX7_keysAt_X7_cellAt : GoodIn wsX7_keysAt (va_wsS RX7 101 yX7_cellAt wsX7_cellAt) := goodIn_app (goodIn_of _ (by decide +kernel)) ggX7_keysAt_X7_cellAt
set_option maxRecDepth 20000 in
theorem ggX7_keysAt_X7_keysOn : GoodIn wsX7_keysAt wsX7_keysOn := goodIn_r _ [26, 27, 28, 29, 30, 31, 32, 33, 34, 35, 36, 37, 38, 39, 40, 41, 42, 43, 44, 45, 46, 47, 48] (by decide +kernel) (by decide +kernel)
set_option maxRecDepth 20000 in
theorem gX7_keysAt_X7_keysOn : GoodIn wsX7_keysAt (wsV RX7 145 RX7 yX7_keysOn wsX7_keysOn) := goodIn_app (goodIn_of _ (by decide +kernel)) ggX7_keysAt_X7_keysOn
theorem dX7_keysAt_0 : decode cX7_keysAt 0 = .ok (.aload_n 0, 1) := by decide +kernel
theorem dX7_keysAt_1 : decode cX7_keysAt 1 = .ok (.iload_n 1, 1) := by decide +kernel
theorem dX7_keysAt_2 : decode cX7_keysAt 2 = .ok (.iload_n 2, 1) := by decide +kernel
theorem dX7_keysAt_3 : decode cX7_keysAt 3 = .ok (.invokestatic 84, 3) := by decide +kernel
theorem dX7_keysAt_6 : decode cX7_keysAt 6 = .ok (.invokevirtual 68, 3) := by decide +kernel
theorem dX7_keysAt_9 : decode cX7_keysAt 9 = .ok (.ifCond .eq 15, 3) := by decide +kernel
theorem dX7_keysAt_12 : decode cX7_keysAt 12 = .ok (.aload_n 0, 1) := by decide +kernel
theorem dX7_keysAt_13 : decode cX7_keysAt 13 = .ok (.iload_n 1, 1) := by decide +kernel
theorem dX7_keysAt_14 : decode cX7_keysAt 14 = .ok (.iload_n 2, 1) := by decide +kernel
theorem dX7_keysAt_15 : decode cX7_keysAt 15 = .ok (.invokestatic 101, 3) := by decide +kernel
theorem dX7_keysAt_18 : decode cX7_keysAt 18 = .ok (.invokevirtual 145, 3) := by decide +kernel
theorem dX7_keysAt_21 : decode cX7_keysAt 21 = .ok (.goto 4, 3) := by decide +kernel
theorem dX7_keysAt_24 : decode cX7_keysAt 24 = .ok (.iconst 0, 1) := by decide +kernel
theorem dX7_keysAt_25 : decode cX7_keysAt 25 = .ok (.ireturn, 1) := by decide +kernel
set_option maxRecDepth 20000 in
theorem ggX7_isConnected_X7_isCell : GoodIn wsX7_isConnected wsX7_isCell := goodIn_r _ [4, 5, 6, 3, 7, 8, 9, 10] (by decide +kernel) (by decide +kernel)
set_option maxRecDepth 20000 in
theorem gX7_isConnected_X7_isCell : GoodIn wsX7_isConnected (va_wsS RX7 84 yX7_isCell wsX7_isCell) := goodIn_app (goodIn_of _ (by decide +kernel)) ggX7_isConnected_X7_isCell
set_option maxRecDepth 20000 in
theorem ggX7_isConnected_X7_isIn : GoodIn wsX7_isConnected wsX7_isIn := goodIn_r _ [10] (by decide +kernel) (by decide +kernel)
set_option maxRecDepth 20000 in
theorem gX7_isConnected_X7_isIn : GoodIn wsX7_isConnected (va_wsS RX7 76 yX7_isIn wsX7_isIn) := goodIn_app (goodIn_of _ (by decide +kernel)) ggX7_isConnected_X7_isIn
set_option maxRecDepth 20000 in
theorem ggX7_isConnected_X7_holds : GoodIn wsX7_isConnected wsX7_holds := goodIn_r _ [14, 15, 34, 35, 36, 37, 38, 39, 40, 41, 42, 43, 44, 45, 46, 47, 48, 49, 50, 51, 52, 53, 54] (by decide +kernel) (by decide +kernel)
set_option maxRecDepth 20000 in
theorem gX7_isConnected_X7_holds : GoodIn wsX7_isConnected (wsV RX7 54 RX7 yX7_holds wsX7_holds) := goodIn_app (goodIn_of _ (by decide +kernel)) ggX7_isConnected_X7_holds
set_option maxRecDepth 20000 in
theorem ggX7_isConnected_X7_cellAt : GoodIn wsX7_isConnected wsX7_cellAt := goodIn_r _ [18, 1, 2, 3, 4, 5, 6, 7, 8, 9, 10] (by decide +kernel) (by decide +kernel)
set_option maxRecDepth 20000 in
theorem gX7_isConnected_X7_cellAt : GoodIn wsX7_isConnected (va_wsS RX7 101 yX7_cellAt wsX7_cellAt) := goodIn_app (goodIn_of _ (by decide +kernel)) ggX7_isConnected_X7_cellAt
set_option maxRecDepth 20000 in
theorem ggX7_isConnected_X7_isJoined : GoodIn wsX7_isConnected wsX7_isJoined := goodIn_r _ [22, 23, 24, 3, 25, 1, 2, 4, 5, 6, 7, 8, 9, 10, 26, 27, 28, 29, 30, 31, 32, 33, 34, 35, 36, 37, 38, 39, 40, 41, 42, 43, 44, 45, 46, 47, 48, 49, 50, 51, 52, 53, 54] (by decide +kernel) (by decide +kernel)
set_option maxRecDepth 20000 in
theorem gX7_isConnected_X7_isJoined : GoodIn wsX7_isConnected (wsV RX7 168 RX7 yX7_isJoined wsX7_isJoined) := goodIn_app (goodIn_of _ (by decide +kernel)) ggX7_isConnected_X7_isJoined
theorem dX7_isConnected_0 : decode cX7_isConnected 0 = .ok (.aload_n 0, 1) := by decide +kernel
theorem dX7_isConnected_1 : decode cX7_isConnected 1 = .ok (.iload_n 1, 1) := by decide +kernel
theorem dX7_isConnected_2 : decode cX7_isConnected 2 = .ok (.iload_n 2, 1) := by decide +kernel
theorem dX7_isConnected_3 : decode cX7_isConnected 3 = .ok (.invokestatic 84, 3) := by decide +kernel
theorem dX7_isConnected_6 : decode cX7_isConnected 6 = .ok (.iload_n 3, 1) := by decide +kernel
theorem dX7_isConnected_7 : decode cX7_isConnected 7 = .ok (.iconst 0, 1) := by decide +kernel
theorem dX7_isConnected_8 : decode cX7_isConnected 8 = .ok (.iconst 3, 1) := by decide +kernel
theorem dX7_isConnected_9 : decode cX7_isConnected 9 = .ok (.invokestatic 76, 3) := by decide +kernel
theorem dX7_isConnected_12 : decode cX7_isConnected 12 = .ok (.iconst 1, 1) := by decide +kernel
theorem dX7_isConnected_13 : decode cX7_isConnected 13 = .ok (.invokevirtual 54, 3) := by decide +kernel
theorem dX7_isConnected_16 : decode cX7_isConnected 16 = .ok (.ifCond .eq 20, 3) := by decide +kernel
theorem dX7_isConnected_19 : decode cX7_isConnected 19 = .ok (.aload_n 0, 1) := by decide +kernel
theorem dX7_isConnected_20 : decode cX7_isConnected 20 = .ok (.iload_n 1, 1) := by decide +kernel
theorem dX7_isConnected_21 : decode cX7_isConnected 21 = .ok (.iload_n 2, 1) := by decide +kernel
theorem dX7_isConnected_22 : decode cX7_isConnected 22 = .ok (.invokestatic 101, 3) := by decide +kernel
theorem dX7_isConnected_25 : decode cX7_isConnected 25 = .ok (.iload_n 3, 1) := by decide +kernel
theorem dX7_isConnected_26 : decode cX7_isConnected 26 = .ok (.invokevirtual 168, 3) := by decide +kernel
theorem dX7_isConnected_29 : decode cX7_isConnected 29 = .ok (.ifCond .eq 7, 3) := by decide +kernel
theorem dX7_isConnected_32 : decode cX7_isConnected 32 = .ok (.iconst 1, 1) := by decide +kernel
theorem dX7_isConnected_33 : decode cX7_isConnected 33 = .ok (.goto 4, 3) := by decide +kernel
theorem dX7_isConnected_36 : decode cX7_isConnected 36 = .ok (.iconst 0, 1) := by decide +kernel
theorem dX7_isConnected_37 : decode cX7_isConnected 37 = .ok (.ireturn, 1) := by decide +kernel
set_option maxRecDepth 20000 in
theorem ggX7_regions_X7_lowers : GoodIn wsX7_regions wsX7_lowers := goodIn_r _ [7, 2, 8, 9, 10, 11, 12, 13, 14, 6, 15, 16, 17, 18, 19, 20, 21, 22, 23, 24, 25, 26, 27, 28, 29, 30, 31, 32, 33, 34, 35, 36, 37, 38, 39, 40, 41, 42, 43, 44, 45, 46, 47, 48, 49, 50, 51, 52, 53, 54, 55, 56] (by decide +kernel) (by decide +kernel)
set_option maxRecDepth 20000 in
theorem gX7_regions_X7_lowers : GoodIn wsX7_regions (wsV RX7 189 RX7 yX7_lowers wsX7_lowers) := goodIn_app (goodIn_of _ (by decide +kernel)) ggX7_regions_X7_lowers
theorem dX7_regions_0 : decode cX7_regions 0 = .ok (.aload_n 0, 1) := by decide +kernel
theorem dX7_regions_1 : decode cX7_regions 1 = .ok (.iconst 0, 1) := by decide +kernel
theorem dX7_regions_2 : decode cX7_regions 2 = .ok (.putfield 51, 3) := by decide +kernel
theorem dX7_regions_5 : decode cX7_regions 5 = .ok (.iconst 0, 1) := by decide +kernel
theorem dX7_regions_6 : decode cX7_regions 6 = .ok (.istore_n 1, 1) := by decide +kernel
theorem dX7_regions_7 : decode cX7_regions 7 = .ok (.iload_n 1, 1) := by decide +kernel
theorem dX7_regions_8 : decode cX7_regions 8 = .ok (.bipush 25, 2) := by decide +kernel
theorem dX7_regions_10 : decode cX7_regions 10 = .ok (.if_icmp .ge 16, 3) := by decide +kernel
theorem dX7_regions_13 : decode cX7_regions 13 = .ok (.aload_n 0, 1) := by decide +kernel
theorem dX7_regions_14 : decode cX7_regions 14 = .ok (.getfield 35, 3) := by decide +kernel
theorem dX7_regions_17 : decode cX7_regions 17 = .ok (.iload_n 1, 1) := by decide +kernel
theorem dX7_regions_18 : decode cX7_regions 18 = .ok (.iload_n 1, 1) := by decide +kernel
theorem dX7_regions_19 : decode cX7_regions 19 = .ok (.iastore, 1) := by decide +kernel
theorem dX7_regions_20 : decode cX7_regions 20 = .ok (.iinc 1 1, 3) := by decide +kernel
theorem dX7_regions_23 : decode cX7_regions 23 = .ok (.goto (-16), 3) := by decide +kernel
theorem dX7_regions_26 : decode cX7_regions 26 = .ok (.iconst 0, 1) := by decide +kernel
theorem dX7_regions_27 : decode cX7_regions 27 = .ok (.istore_n 1, 1) := by decide +kernel
theorem dX7_regions_28 : decode cX7_regions 28 = .ok (.iload_n 1, 1) := by decide +kernel
theorem dX7_regions_29 : decode cX7_regions 29 = .ok (.bipush 25, 2) := by decide +kernel
theorem dX7_regions_31 : decode cX7_regions 31 = .ok (.if_icmp .ge 28, 3) := by decide +kernel
theorem dX7_regions_34 : decode cX7_regions 34 = .ok (.iconst 0, 1) := by decide +kernel
theorem dX7_regions_35 : decode cX7_regions 35 = .ok (.istore_n 2, 1) := by decide +kernel
theorem dX7_regions_36 : decode cX7_regions 36 = .ok (.iload_n 2, 1) := by decide +kernel
theorem dX7_regions_37 : decode cX7_regions 37 = .ok (.bipush 25, 2) := by decide +kernel
theorem dX7_regions_39 : decode cX7_regions 39 = .ok (.if_icmp .ge 14, 3) := by decide +kernel
theorem dX7_regions_42 : decode cX7_regions 42 = .ok (.aload_n 0, 1) := by decide +kernel
theorem dX7_regions_43 : decode cX7_regions 43 = .ok (.iload_n 2, 1) := by decide +kernel
theorem dX7_regions_44 : decode cX7_regions 44 = .ok (.invokevirtual 189, 3) := by decide +kernel
theorem dX7_regions_47 : decode cX7_regions 47 = .ok (.iinc 2 1, 3) := by decide +kernel
theorem dX7_regions_50 : decode cX7_regions 50 = .ok (.goto (-14), 3) := by decide +kernel
theorem dX7_regions_53 : decode cX7_regions 53 = .ok (.iinc 1 1, 3) := by decide +kernel
theorem dX7_regions_56 : decode cX7_regions 56 = .ok (.goto (-28), 3) := by decide +kernel
theorem dX7_regions_59 : decode cX7_regions 59 = .ok (.iconst 0, 1) := by decide +kernel
theorem dX7_regions_60 : decode cX7_regions 60 = .ok (.istore_n 1, 1) := by decide +kernel
theorem dX7_regions_61 : decode cX7_regions 61 = .ok (.iconst 0, 1) := by decide +kernel
theorem dX7_regions_62 : decode cX7_regions 62 = .ok (.istore_n 2, 1) := by decide +kernel
theorem dX7_regions_63 : decode cX7_regions 63 = .ok (.iload_n 2, 1) := by decide +kernel
theorem dX7_regions_64 : decode cX7_regions 64 = .ok (.bipush 25, 2) := by decide +kernel
theorem dX7_regions_66 : decode cX7_regions 66 = .ok (.if_icmp .ge 27, 3) := by decide +kernel
theorem dX7_regions_69 : decode cX7_regions 69 = .ok (.iload_n 1, 1) := by decide +kernel
theorem dX7_regions_70 : decode cX7_regions 70 = .ok (.aload_n 0, 1) := by decide +kernel
theorem dX7_regions_71 : decode cX7_regions 71 = .ok (.getfield 35, 3) := by decide +kernel
theorem dX7_regions_74 : decode cX7_regions 74 = .ok (.iload_n 2, 1) := by decide +kernel
theorem dX7_regions_75 : decode cX7_regions 75 = .ok (.iaload, 1) := by decide +kernel
theorem dX7_regions_76 : decode cX7_regions 76 = .ok (.iload_n 2, 1) := by decide +kernel
theorem dX7_regions_77 : decode cX7_regions 77 = .ok (.if_icmp .ne 7, 3) := by decide +kernel
theorem dX7_regions_80 : decode cX7_regions 80 = .ok (.iconst 1, 1) := by decide +kernel
theorem dX7_regions_81 : decode cX7_regions 81 = .ok (.goto 4, 3) := by decide +kernel
theorem dX7_regions_84 : decode cX7_regions 84 = .ok (.iconst 0, 1) := by decide +kernel
theorem dX7_regions_85 : decode cX7_regions 85 = .ok (.iadd, 1) := by decide +kernel
theorem dX7_regions_86 : decode cX7_regions 86 = .ok (.istore_n 1, 1) := by decide +kernel
theorem dX7_regions_87 : decode cX7_regions 87 = .ok (.iinc 2 1, 3) := by decide +kernel
theorem dX7_regions_90 : decode cX7_regions 90 = .ok (.goto (-27), 3) := by decide +kernel
theorem dX7_regions_93 : decode cX7_regions 93 = .ok (.iload_n 1, 1) := by decide +kernel
theorem dX7_regions_94 : decode cX7_regions 94 = .ok (.ireturn, 1) := by decide +kernel
set_option maxRecDepth 20000 in
theorem ggX7_lowers_X7_isJoined : GoodIn wsX7_lowers wsX7_isJoined := goodIn_r _ [10, 11, 12, 9, 13, 14, 15, 16, 17, 18, 19, 20, 21, 22, 23, 24, 25, 26, 27, 28, 29, 30, 31, 32, 33, 34, 35, 36, 37, 38, 39, 40, 41, 42, 43, 44, 45, 46, 47, 48, 49, 50, 51] (by decide +kernel) (by decide +kernel)
set_option maxRecDepth 20000 in
theorem gX7_lowers_X7_isJoined : GoodIn wsX7_lowers (wsV RX7 168 RX7 yX7_isJoined wsX7_isJoined) := goodIn_app (goodIn_of _ (by decide +kernel)) ggX7_lowers_X7_isJoined
set_option maxRecDepth 20000 in
theorem ggX7_lowers_X7_beside : GoodIn wsX7_lowers wsX7_beside := goodIn_r _ [13, 14, 15, 9, 16, 17, 18, 19, 20, 21, 22] (by decide +kernel) (by decide +kernel)
set_option maxRecDepth 20000 in
theorem gX7_lowers_X7_beside : GoodIn wsX7_lowers (va_wsS RX7 98 yX7_beside wsX7_beside) := goodIn_app (goodIn_of _ (by decide +kernel)) ggX7_lowers_X7_beside
theorem dX7_lowers_0 : decode cX7_lowers 0 = .ok (.iconst 0, 1) := by decide +kernel
theorem dX7_lowers_1 : decode cX7_lowers 1 = .ok (.istore_n 2, 1) := by decide +kernel
theorem dX7_lowers_2 : decode cX7_lowers 2 = .ok (.iload_n 2, 1) := by decide +kernel
theorem dX7_lowers_3 : decode cX7_lowers 3 = .ok (.iconst 4, 1) := by decide +kernel
theorem dX7_lowers_4 : decode cX7_lowers 4 = .ok (.if_icmp .ge 52, 3) := by decide +kernel
theorem dX7_lowers_7 : decode cX7_lowers 7 = .ok (.aload_n 0, 1) := by decide +kernel
theorem dX7_lowers_8 : decode cX7_lowers 8 = .ok (.getfield 35, 3) := by decide +kernel
theorem dX7_lowers_11 : decode cX7_lowers 11 = .ok (.iload_n 1, 1) := by decide +kernel
theorem dX7_lowers_12 : decode cX7_lowers 12 = .ok (.aload_n 0, 1) := by decide +kernel
theorem dX7_lowers_13 : decode cX7_lowers 13 = .ok (.iload_n 1, 1) := by decide +kernel
theorem dX7_lowers_14 : decode cX7_lowers 14 = .ok (.iload_n 2, 1) := by decide +kernel
theorem dX7_lowers_15 : decode cX7_lowers 15 = .ok (.invokevirtual 168, 3) := by decide +kernel
theorem dX7_lowers_18 : decode cX7_lowers 18 = .ok (.ifCond .eq 25, 3) := by decide +kernel
theorem dX7_lowers_21 : decode cX7_lowers 21 = .ok (.aload_n 0, 1) := by decide +kernel
theorem dX7_lowers_22 : decode cX7_lowers 22 = .ok (.getfield 35, 3) := by decide +kernel
theorem dX7_lowers_25 : decode cX7_lowers 25 = .ok (.iload_n 1, 1) := by decide +kernel
theorem dX7_lowers_26 : decode cX7_lowers 26 = .ok (.iaload, 1) := by decide +kernel
theorem dX7_lowers_27 : decode cX7_lowers 27 = .ok (.aload_n 0, 1) := by decide +kernel
theorem dX7_lowers_28 : decode cX7_lowers 28 = .ok (.getfield 35, 3) := by decide +kernel
theorem dX7_lowers_31 : decode cX7_lowers 31 = .ok (.iload_n 1, 1) := by decide +kernel
theorem dX7_lowers_32 : decode cX7_lowers 32 = .ok (.iload_n 2, 1) := by decide +kernel
theorem dX7_lowers_33 : decode cX7_lowers 33 = .ok (.invokestatic 98, 3) := by decide +kernel
theorem dX7_lowers_36 : decode cX7_lowers 36 = .ok (.iaload, 1) := by decide +kernel
theorem dX7_lowers_37 : decode cX7_lowers 37 = .ok (.invokestatic 193, 3) := by decide +kernel
theorem dX7_lowers_40 : decode cX7_lowers 40 = .ok (.goto 9, 3) := by decide +kernel
theorem dX7_lowers_43 : decode cX7_lowers 43 = .ok (.aload_n 0, 1) := by decide +kernel
theorem dX7_lowers_44 : decode cX7_lowers 44 = .ok (.getfield 35, 3) := by decide +kernel
theorem dX7_lowers_47 : decode cX7_lowers 47 = .ok (.iload_n 1, 1) := by decide +kernel
theorem dX7_lowers_48 : decode cX7_lowers 48 = .ok (.iaload, 1) := by decide +kernel
theorem dX7_lowers_49 : decode cX7_lowers 49 = .ok (.iastore, 1) := by decide +kernel
theorem dX7_lowers_50 : decode cX7_lowers 50 = .ok (.iinc 2 1, 3) := by decide +kernel
theorem dX7_lowers_53 : decode cX7_lowers 53 = .ok (.goto (-51), 3) := by decide +kernel
theorem dX7_lowers_56 : decode cX7_lowers 56 = .ok (.return_, 1) := by decide +kernel
set_option maxRecDepth 20000 in
theorem ggX7_regionCount_X7_regions : GoodIn wsX7_regionCount wsX7_regions := goodIn_r _ [5, 6, 7, 8, 9, 10, 4, 11, 12, 13, 14, 15, 16, 17, 18, 19, 20, 21, 22, 23, 24, 25, 26, 27, 28, 29, 30, 31, 32, 33, 34, 35, 36, 37, 38, 39, 40, 41, 42, 43, 44, 45, 46, 47, 48, 49, 50, 51, 52, 53, 54, 55, 56, 57, 58, 59, 60] (by decide +kernel) (by decide +kernel)
set_option maxRecDepth 20000 in
theorem gX7_regionCount_X7_regions : GoodIn wsX7_regionCount (wsV RX7 198 RX7 yX7_regions wsX7_regions) := goodIn_app (goodIn_of _ (by decide +kernel)) ggX7_regionCount_X7_regions
theorem dX7_regionCount_0 : decode cX7_regionCount 0 = .ok (.aload_n 0, 1) := by decide +kernel
theorem dX7_regionCount_1 : decode cX7_regionCount 1 = .ok (.invokevirtual 198, 3) := by decide +kernel
theorem dX7_regionCount_4 : decode cX7_regionCount 4 = .ok (.ireturn, 1) := by decide +kernel
set_option maxRecDepth 20000 in
theorem ggX7_regionCountByMerging_X7_regions : GoodIn wsX7_regionCountByMerging wsX7_regions := goodIn_r _ [5, 6, 7, 8, 9, 10, 4, 11, 12, 13, 14, 15, 16, 17, 18, 19, 20, 21, 22, 23, 24, 25, 26, 27, 28, 29, 30, 31, 32, 33, 34, 35, 36, 37, 38, 39, 40, 41, 42, 43, 44, 45, 46, 47, 48, 49, 50, 51, 52, 53, 54, 55, 56, 57, 58, 59, 60] (by decide +kernel) (by decide +kernel)
set_option maxRecDepth 20000 in
theorem gX7_regionCountByMerging_X7_regions : GoodIn wsX7_regionCountByMerging (wsV RX7 198 RX7 yX7_regions wsX7_regions) := goodIn_app (goodIn_of _ (by decide +kernel)) ggX7_regionCountByMerging_X7_regions
theorem dX7_regionCountByMerging_0 : decode cX7_regionCountByMerging 0 = .ok (.aload_n 0, 1) := by decide +kernel
theorem dX7_regionCountByMerging_1 : decode cX7_regionCountByMerging 1 = .ok (.invokevirtual 198, 3) := by decide +kernel
theorem dX7_regionCountByMerging_4 : decode cX7_regionCountByMerging 4 = .ok (.ireturn, 1) := by decide +kernel
set_option maxRecDepth 20000 in
theorem ggX7_cellOfKey_X7_placeOf : GoodIn wsX7_cellOfKey wsX7_placeOf := goodIn_r _ [5, 6, 7, 8, 4, 9, 10, 11, 12, 18, 19, 20, 21, 22, 23, 24, 25, 26, 27, 28, 29, 30, 31, 32, 33, 34, 35, 36, 37, 38] (by decide +kernel) (by decide +kernel)
set_option maxRecDepth 20000 in
theorem gX7_cellOfKey_X7_placeOf : GoodIn wsX7_cellOfKey (wsV RX7 142 RX7 yX7_placeOf wsX7_placeOf) := goodIn_app (goodIn_of _ (by decide +kernel)) ggX7_cellOfKey_X7_placeOf
set_option maxRecDepth 20000 in
theorem ggX7_cellOfKey_X7_isKey : GoodIn wsX7_cellOfKey wsX7_isKey := goodIn_r _ [9, 10, 11, 4, 12] (by decide +kernel) (by decide +kernel)
set_option maxRecDepth 20000 in
theorem gX7_cellOfKey_X7_isKey : GoodIn wsX7_cellOfKey (va_wsS RX7 88 yX7_isKey wsX7_isKey) := goodIn_app (goodIn_of _ (by decide +kernel)) ggX7_cellOfKey_X7_isKey
set_option maxRecDepth 20000 in
theorem ggX7_cellOfKey_X7_isIn : GoodIn wsX7_cellOfKey wsX7_isIn := goodIn_r _ [12] (by decide +kernel) (by decide +kernel)
set_option maxRecDepth 20000 in
theorem gX7_cellOfKey_X7_isIn : GoodIn wsX7_cellOfKey (va_wsS RX7 76 yX7_isIn wsX7_isIn) := goodIn_app (goodIn_of _ (by decide +kernel)) ggX7_cellOfKey_X7_isIn
set_option maxRecDepth 20000 in
theorem ggX7_cellOfKey_X7_holds : GoodIn wsX7_cellOfKey wsX7_holds := goodIn_r _ [16, 17, 18, 19, 20, 21, 22, 23, 24, 25, 26, 27, 28, 29, 30, 31, 32, 33, 34, 35, 36, 37, 38] (by decide +kernel) (by decide +kernel)
set_option maxRecDepth 20000 in
theorem gX7_cellOfKey_X7_holds : GoodIn wsX7_cellOfKey (wsV RX7 54 RX7 yX7_holds wsX7_holds) := goodIn_app (goodIn_of _ (by decide +kernel)) ggX7_cellOfKey_X7_holds
theorem dX7_cellOfKey_0 : decode cX7_cellOfKey 0 = .ok (.aload_n 0, 1) := by decide +kernel
theorem dX7_cellOfKey_1 : decode cX7_cellOfKey 1 = .ok (.iload_n 1, 1) := by decide +kernel
theorem dX7_cellOfKey_2 : decode cX7_cellOfKey 2 = .ok (.invokevirtual 142, 3) := by decide +kernel
theorem dX7_cellOfKey_5 : decode cX7_cellOfKey 5 = .ok (.istore_n 2, 1) := by decide +kernel
theorem dX7_cellOfKey_6 : decode cX7_cellOfKey 6 = .ok (.aload_n 0, 1) := by decide +kernel
theorem dX7_cellOfKey_7 : decode cX7_cellOfKey 7 = .ok (.iload_n 1, 1) := by decide +kernel
theorem dX7_cellOfKey_8 : decode cX7_cellOfKey 8 = .ok (.invokestatic 88, 3) := by decide +kernel
theorem dX7_cellOfKey_11 : decode cX7_cellOfKey 11 = .ok (.iload_n 2, 1) := by decide +kernel
theorem dX7_cellOfKey_12 : decode cX7_cellOfKey 12 = .ok (.iconst 0, 1) := by decide +kernel
theorem dX7_cellOfKey_13 : decode cX7_cellOfKey 13 = .ok (.bipush 24, 2) := by decide +kernel
theorem dX7_cellOfKey_15 : decode cX7_cellOfKey 15 = .ok (.invokestatic 76, 3) := by decide +kernel
theorem dX7_cellOfKey_18 : decode cX7_cellOfKey 18 = .ok (.iconst 1, 1) := by decide +kernel
theorem dX7_cellOfKey_19 : decode cX7_cellOfKey 19 = .ok (.invokevirtual 54, 3) := by decide +kernel
theorem dX7_cellOfKey_22 : decode cX7_cellOfKey 22 = .ok (.ifCond .eq 7, 3) := by decide +kernel
theorem dX7_cellOfKey_25 : decode cX7_cellOfKey 25 = .ok (.iload_n 2, 1) := by decide +kernel
theorem dX7_cellOfKey_26 : decode cX7_cellOfKey 26 = .ok (.goto 4, 3) := by decide +kernel
theorem dX7_cellOfKey_29 : decode cX7_cellOfKey 29 = .ok (.iconst 0, 1) := by decide +kernel
theorem dX7_cellOfKey_30 : decode cX7_cellOfKey 30 = .ok (.ireturn, 1) := by decide +kernel
set_option maxRecDepth 20000 in
theorem ggX7_keyRow_X7_cellOfKey : GoodIn wsX7_keyRow wsX7_cellOfKey := goodIn_r _ [5, 6, 7, 8, 4, 9, 10, 11, 12, 13, 14, 15, 16, 17, 18, 19, 20, 21, 22, 23, 24, 25, 26, 27, 28, 29, 30, 31, 32, 33, 34, 35, 36, 37, 38, 39, 40, 41, 42] (by decide +kernel) (by decide +kernel)
set_option maxRecDepth 20000 in
theorem gX7_keyRow_X7_cellOfKey : GoodIn wsX7_keyRow (wsV RX7 202 RX7 yX7_cellOfKey wsX7_cellOfKey) := goodIn_app (goodIn_of _ (by decide +kernel)) ggX7_keyRow_X7_cellOfKey
theorem dX7_keyRow_0 : decode cX7_keyRow 0 = .ok (.aload_n 0, 1) := by decide +kernel
theorem dX7_keyRow_1 : decode cX7_keyRow 1 = .ok (.iload_n 1, 1) := by decide +kernel
theorem dX7_keyRow_2 : decode cX7_keyRow 2 = .ok (.invokevirtual 202, 3) := by decide +kernel
theorem dX7_keyRow_5 : decode cX7_keyRow 5 = .ok (.iconst 5, 1) := by decide +kernel
theorem dX7_keyRow_6 : decode cX7_keyRow 6 = .ok (.idiv, 1) := by decide +kernel
theorem dX7_keyRow_7 : decode cX7_keyRow 7 = .ok (.ireturn, 1) := by decide +kernel
set_option maxRecDepth 20000 in
theorem ggX7_keyColumn_X7_cellOfKey : GoodIn wsX7_keyColumn wsX7_cellOfKey := goodIn_r _ [5, 6, 7, 8, 4, 9, 10, 11, 12, 13, 14, 15, 16, 17, 18, 19, 20, 21, 22, 23, 24, 25, 26, 27, 28, 29, 30, 31, 32, 33, 34, 35, 36, 37, 38, 39, 40, 41, 42] (by decide +kernel) (by decide +kernel)
set_option maxRecDepth 20000 in
theorem gX7_keyColumn_X7_cellOfKey : GoodIn wsX7_keyColumn (wsV RX7 202 RX7 yX7_cellOfKey wsX7_cellOfKey) := goodIn_app (goodIn_of _ (by decide +kernel)) ggX7_keyColumn_X7_cellOfKey
theorem dX7_keyColumn_0 : decode cX7_keyColumn 0 = .ok (.aload_n 0, 1) := by decide +kernel
theorem dX7_keyColumn_1 : decode cX7_keyColumn 1 = .ok (.iload_n 1, 1) := by decide +kernel
theorem dX7_keyColumn_2 : decode cX7_keyColumn 2 = .ok (.invokevirtual 202, 3) := by decide +kernel
theorem dX7_keyColumn_5 : decode cX7_keyColumn 5 = .ok (.iconst 5, 1) := by decide +kernel
theorem dX7_keyColumn_6 : decode cX7_keyColumn 6 = .ok (.irem, 1) := by decide +kernel
theorem dX7_keyColumn_7 : decode cX7_keyColumn 7 = .ok (.ireturn, 1) := by decide +kernel
set_option maxRecDepth 20000 in
theorem ggX7_carrierOf_X7_placeOf : GoodIn wsX7_carrierOf wsX7_placeOf := goodIn_r _ [5, 6, 7, 8, 4, 9, 10, 11, 12, 18, 19, 20, 21, 22, 23, 24, 25, 26, 27, 28, 29, 30, 31, 32, 33, 34, 35, 36, 37, 38] (by decide +kernel) (by decide +kernel)
set_option maxRecDepth 20000 in
theorem gX7_carrierOf_X7_placeOf : GoodIn wsX7_carrierOf (wsV RX7 142 RX7 yX7_placeOf wsX7_placeOf) := goodIn_app (goodIn_of _ (by decide +kernel)) ggX7_carrierOf_X7_placeOf
set_option maxRecDepth 20000 in
theorem ggX7_carrierOf_X7_isKey : GoodIn wsX7_carrierOf wsX7_isKey := goodIn_r _ [9, 10, 11, 4, 12] (by decide +kernel) (by decide +kernel)
set_option maxRecDepth 20000 in
theorem gX7_carrierOf_X7_isKey : GoodIn wsX7_carrierOf (va_wsS RX7 88 yX7_isKey wsX7_isKey) := goodIn_app (goodIn_of _ (by decide +kernel)) ggX7_carrierOf_X7_isKey
set_option maxRecDepth 20000 in
theorem ggX7_carrierOf_X7_holds : GoodIn wsX7_carrierOf wsX7_holds := goodIn_r _ [16, 17, 18, 19, 20, 21, 22, 23, 24, 25, 26, 27, 28, 29, 30, 31, 32, 33, 34, 35, 36, 37, 38] (by decide +kernel) (by decide +kernel)
set_option maxRecDepth 20000 in
theorem gX7_carrierOf_X7_holds : GoodIn wsX7_carrierOf (wsV RX7 54 RX7 yX7_holds wsX7_holds) := goodIn_app (goodIn_of _ (by decide +kernel)) ggX7_carrierOf_X7_holds
theorem dX7_carrierOf_0 : decode cX7_carrierOf 0 = .ok (.aload_n 0, 1) := by decide +kernel
theorem dX7_carrierOf_1 : decode cX7_carrierOf 1 = .ok (.iload_n 1, 1) := by decide +kernel
theorem dX7_carrierOf_2 : decode cX7_carrierOf 2 = .ok (.invokevirtual 142, 3) := by decide +kernel
theorem dX7_carrierOf_5 : decode cX7_carrierOf 5 = .ok (.istore_n 2, 1) := by decide +kernel
theorem dX7_carrierOf_6 : decode cX7_carrierOf 6 = .ok (.aload_n 0, 1) := by decide +kernel
theorem dX7_carrierOf_7 : decode cX7_carrierOf 7 = .ok (.iload_n 1, 1) := by decide +kernel
theorem dX7_carrierOf_8 : decode cX7_carrierOf 8 = .ok (.invokestatic 88, 3) := by decide +kernel
theorem dX7_carrierOf_11 : decode cX7_carrierOf 11 = .ok (.iload_n 2, 1) := by decide +kernel
theorem dX7_carrierOf_12 : decode cX7_carrierOf 12 = .ok (.bipush 100, 2) := by decide +kernel
theorem dX7_carrierOf_14 : decode cX7_carrierOf 14 = .ok (.if_icmp .lt 7, 3) := by decide +kernel
theorem dX7_carrierOf_17 : decode cX7_carrierOf 17 = .ok (.iconst 1, 1) := by decide +kernel
theorem dX7_carrierOf_18 : decode cX7_carrierOf 18 = .ok (.goto 4, 3) := by decide +kernel
theorem dX7_carrierOf_21 : decode cX7_carrierOf 21 = .ok (.iconst 0, 1) := by decide +kernel
theorem dX7_carrierOf_22 : decode cX7_carrierOf 22 = .ok (.iconst 1, 1) := by decide +kernel
theorem dX7_carrierOf_23 : decode cX7_carrierOf 23 = .ok (.invokevirtual 54, 3) := by decide +kernel
theorem dX7_carrierOf_26 : decode cX7_carrierOf 26 = .ok (.ifCond .eq 10, 3) := by decide +kernel
theorem dX7_carrierOf_29 : decode cX7_carrierOf 29 = .ok (.iload_n 2, 1) := by decide +kernel
theorem dX7_carrierOf_30 : decode cX7_carrierOf 30 = .ok (.bipush 100, 2) := by decide +kernel
theorem dX7_carrierOf_32 : decode cX7_carrierOf 32 = .ok (.isub, 1) := by decide +kernel
theorem dX7_carrierOf_33 : decode cX7_carrierOf 33 = .ok (.goto 4, 3) := by decide +kernel
theorem dX7_carrierOf_36 : decode cX7_carrierOf 36 = .ok (.iconst 0, 1) := by decide +kernel
theorem dX7_carrierOf_37 : decode cX7_carrierOf 37 = .ok (.ireturn, 1) := by decide +kernel
theorem dX7_walkerCount_0 : decode cX7_walkerCount 0 = .ok (.aload_n 0, 1) := by decide +kernel
theorem dX7_walkerCount_1 : decode cX7_walkerCount 1 = .ok (.iconst 0, 1) := by decide +kernel
theorem dX7_walkerCount_2 : decode cX7_walkerCount 2 = .ok (.putfield 51, 3) := by decide +kernel
theorem dX7_walkerCount_5 : decode cX7_walkerCount 5 = .ok (.aload_n 0, 1) := by decide +kernel
theorem dX7_walkerCount_6 : decode cX7_walkerCount 6 = .ok (.getfield 9, 3) := by decide +kernel
theorem dX7_walkerCount_9 : decode cX7_walkerCount 9 = .ok (.iconst 0, 1) := by decide +kernel
theorem dX7_walkerCount_10 : decode cX7_walkerCount 10 = .ok (.iaload, 1) := by decide +kernel
theorem dX7_walkerCount_11 : decode cX7_walkerCount 11 = .ok (.ireturn, 1) := by decide +kernel
set_option maxRecDepth 20000 in
theorem ggX7_walkerRow_X7_isWalker : GoodIn wsX7_walkerRow wsX7_isWalker := goodIn_r _ [5, 6, 7, 8, 4, 9, 23, 24, 25, 26, 27, 28, 29, 30, 31, 32, 33, 34, 35, 36, 37, 38, 39, 40, 41, 42, 43] (by decide +kernel) (by decide +kernel)
set_option maxRecDepth 20000 in
theorem gX7_walkerRow_X7_isWalker : GoodIn wsX7_walkerRow (wsV RX7 91 RX7 yX7_isWalker wsX7_isWalker) := goodIn_app (goodIn_of _ (by decide +kernel)) ggX7_walkerRow_X7_isWalker
set_option maxRecDepth 20000 in
theorem ggX7_walkerRow_X7_goes : GoodIn wsX7_walkerRow wsX7_goes := goodIn_r _ [13, 14, 15, 16, 4, 17, 18, 23, 24, 25, 26, 27, 28, 29, 30, 31, 32, 33, 34, 35, 36, 37, 38, 39, 40, 41, 42, 43] (by decide +kernel) (by decide +kernel)
set_option maxRecDepth 20000 in
theorem gX7_walkerRow_X7_goes : GoodIn wsX7_walkerRow (wsV RX7 68 RX7 yX7_goes wsX7_goes) := goodIn_app (goodIn_of _ (by decide +kernel)) ggX7_walkerRow_X7_goes
set_option maxRecDepth 20000 in
theorem ggX7_walkerRow_X7_standing : GoodIn wsX7_walkerRow wsX7_standing := goodIn_r _ [22, 6, 1, 2, 3, 4, 5, 7, 8, 9, 23, 24, 25, 26, 27, 28, 29, 30, 31, 32, 33, 34, 35, 36, 37, 38, 39, 40, 41, 42, 43] (by decide +kernel) (by decide +kernel)
set_option maxRecDepth 20000 in
theorem gX7_walkerRow_X7_standing : GoodIn wsX7_walkerRow (wsV RX7 174 RX7 yX7_standing wsX7_standing) := goodIn_app (goodIn_of _ (by decide +kernel)) ggX7_walkerRow_X7_standing
theorem dX7_walkerRow_0 : decode cX7_walkerRow 0 = .ok (.aload_n 0, 1) := by decide +kernel
theorem dX7_walkerRow_1 : decode cX7_walkerRow 1 = .ok (.aload_n 0, 1) := by decide +kernel
theorem dX7_walkerRow_2 : decode cX7_walkerRow 2 = .ok (.iload_n 1, 1) := by decide +kernel
theorem dX7_walkerRow_3 : decode cX7_walkerRow 3 = .ok (.invokevirtual 91, 3) := by decide +kernel
theorem dX7_walkerRow_6 : decode cX7_walkerRow 6 = .ok (.invokevirtual 68, 3) := by decide +kernel
theorem dX7_walkerRow_9 : decode cX7_walkerRow 9 = .ok (.ifCond .eq 13, 3) := by decide +kernel
theorem dX7_walkerRow_12 : decode cX7_walkerRow 12 = .ok (.aload_n 0, 1) := by decide +kernel
theorem dX7_walkerRow_13 : decode cX7_walkerRow 13 = .ok (.iload_n 1, 1) := by decide +kernel
theorem dX7_walkerRow_14 : decode cX7_walkerRow 14 = .ok (.invokevirtual 174, 3) := by decide +kernel
theorem dX7_walkerRow_17 : decode cX7_walkerRow 17 = .ok (.iconst 5, 1) := by decide +kernel
theorem dX7_walkerRow_18 : decode cX7_walkerRow 18 = .ok (.idiv, 1) := by decide +kernel
theorem dX7_walkerRow_19 : decode cX7_walkerRow 19 = .ok (.goto 4, 3) := by decide +kernel
theorem dX7_walkerRow_22 : decode cX7_walkerRow 22 = .ok (.iconst 0, 1) := by decide +kernel
theorem dX7_walkerRow_23 : decode cX7_walkerRow 23 = .ok (.ireturn, 1) := by decide +kernel
set_option maxRecDepth 20000 in
theorem ggX7_walkerColumn_X7_isWalker : GoodIn wsX7_walkerColumn wsX7_isWalker := goodIn_r _ [5, 6, 7, 8, 4, 9, 23, 24, 25, 26, 27, 28, 29, 30, 31, 32, 33, 34, 35, 36, 37, 38, 39, 40, 41, 42, 43] (by decide +kernel) (by decide +kernel)
set_option maxRecDepth 20000 in
theorem gX7_walkerColumn_X7_isWalker : GoodIn wsX7_walkerColumn (wsV RX7 91 RX7 yX7_isWalker wsX7_isWalker) := goodIn_app (goodIn_of _ (by decide +kernel)) ggX7_walkerColumn_X7_isWalker
set_option maxRecDepth 20000 in
theorem ggX7_walkerColumn_X7_goes : GoodIn wsX7_walkerColumn wsX7_goes := goodIn_r _ [13, 14, 15, 16, 4, 17, 18, 23, 24, 25, 26, 27, 28, 29, 30, 31, 32, 33, 34, 35, 36, 37, 38, 39, 40, 41, 42, 43] (by decide +kernel) (by decide +kernel)
set_option maxRecDepth 20000 in
theorem gX7_walkerColumn_X7_goes : GoodIn wsX7_walkerColumn (wsV RX7 68 RX7 yX7_goes wsX7_goes) := goodIn_app (goodIn_of _ (by decide +kernel)) ggX7_walkerColumn_X7_goes
set_option maxRecDepth 20000 in
theorem ggX7_walkerColumn_X7_standing : GoodIn wsX7_walkerColumn wsX7_standing := goodIn_r _ [22, 6, 1, 2, 3, 4, 5, 7, 8, 9, 23, 24, 25, 26, 27, 28, 29, 30, 31, 32, 33, 34, 35, 36, 37, 38, 39, 40, 41, 42, 43] (by decide +kernel) (by decide +kernel)
set_option maxRecDepth 20000 in
theorem gX7_walkerColumn_X7_standing : GoodIn wsX7_walkerColumn (wsV RX7 174 RX7 yX7_standing wsX7_standing) := goodIn_app (goodIn_of _ (by decide +kernel)) ggX7_walkerColumn_X7_standing
theorem dX7_walkerColumn_0 : decode cX7_walkerColumn 0 = .ok (.aload_n 0, 1) := by decide +kernel
theorem dX7_walkerColumn_1 : decode cX7_walkerColumn 1 = .ok (.aload_n 0, 1) := by decide +kernel
theorem dX7_walkerColumn_2 : decode cX7_walkerColumn 2 = .ok (.iload_n 1, 1) := by decide +kernel
theorem dX7_walkerColumn_3 : decode cX7_walkerColumn 3 = .ok (.invokevirtual 91, 3) := by decide +kernel
theorem dX7_walkerColumn_6 : decode cX7_walkerColumn 6 = .ok (.invokevirtual 68, 3) := by decide +kernel
theorem dX7_walkerColumn_9 : decode cX7_walkerColumn 9 = .ok (.ifCond .eq 13, 3) := by decide +kernel
theorem dX7_walkerColumn_12 : decode cX7_walkerColumn 12 = .ok (.aload_n 0, 1) := by decide +kernel
theorem dX7_walkerColumn_13 : decode cX7_walkerColumn 13 = .ok (.iload_n 1, 1) := by decide +kernel
theorem dX7_walkerColumn_14 : decode cX7_walkerColumn 14 = .ok (.invokevirtual 174, 3) := by decide +kernel
theorem dX7_walkerColumn_17 : decode cX7_walkerColumn 17 = .ok (.iconst 5, 1) := by decide +kernel
theorem dX7_walkerColumn_18 : decode cX7_walkerColumn 18 = .ok (.irem, 1) := by decide +kernel
theorem dX7_walkerColumn_19 : decode cX7_walkerColumn 19 = .ok (.goto 4, 3) := by decide +kernel
theorem dX7_walkerColumn_22 : decode cX7_walkerColumn 22 = .ok (.iconst 0, 1) := by decide +kernel
theorem dX7_walkerColumn_23 : decode cX7_walkerColumn 23 = .ok (.ireturn, 1) := by decide +kernel
set_option maxRecDepth 20000 in
theorem ggX7_keysOf_X7_isWalker : GoodIn wsX7_keysOf wsX7_isWalker := goodIn_r _ [5, 6, 7, 8, 4, 9, 23, 24, 25, 26, 27, 28, 29, 30, 31, 32, 33, 34, 35, 36, 37, 38, 39, 40, 41, 42, 43] (by decide +kernel) (by decide +kernel)
set_option maxRecDepth 20000 in
theorem gX7_keysOf_X7_isWalker : GoodIn wsX7_keysOf (wsV RX7 91 RX7 yX7_isWalker wsX7_isWalker) := goodIn_app (goodIn_of _ (by decide +kernel)) ggX7_keysOf_X7_isWalker
set_option maxRecDepth 20000 in
theorem ggX7_keysOf_X7_goes : GoodIn wsX7_keysOf wsX7_goes := goodIn_r _ [13, 14, 15, 16, 4, 17, 18, 23, 24, 25, 26, 27, 28, 29, 30, 31, 32, 33, 34, 35, 36, 37, 38, 39, 40, 41, 42, 43] (by decide +kernel) (by decide +kernel)
set_option maxRecDepth 20000 in
theorem gX7_keysOf_X7_goes : GoodIn wsX7_keysOf (wsV RX7 68 RX7 yX7_goes wsX7_goes) := goodIn_app (goodIn_of _ (by decide +kernel)) ggX7_keysOf_X7_goes
set_option maxRecDepth 20000 in
theorem ggX7_keysOf_X7_keysOn : GoodIn wsX7_keysOf wsX7_keysOn := goodIn_r _ [22, 6, 23, 24, 25, 26, 27, 28, 29, 30, 31, 32, 33, 34, 35, 36, 37, 38, 39, 40, 41, 42, 43] (by decide +kernel) (by decide +kernel)
set_option maxRecDepth 20000 in
theorem gX7_keysOf_X7_keysOn : GoodIn wsX7_keysOf (wsV RX7 145 RX7 yX7_keysOn wsX7_keysOn) := goodIn_app (goodIn_of _ (by decide +kernel)) ggX7_keysOf_X7_keysOn
theorem dX7_keysOf_0 : decode cX7_keysOf 0 = .ok (.aload_n 0, 1) := by decide +kernel
theorem dX7_keysOf_1 : decode cX7_keysOf 1 = .ok (.aload_n 0, 1) := by decide +kernel
theorem dX7_keysOf_2 : decode cX7_keysOf 2 = .ok (.iload_n 1, 1) := by decide +kernel
theorem dX7_keysOf_3 : decode cX7_keysOf 3 = .ok (.invokevirtual 91, 3) := by decide +kernel
theorem dX7_keysOf_6 : decode cX7_keysOf 6 = .ok (.invokevirtual 68, 3) := by decide +kernel
theorem dX7_keysOf_9 : decode cX7_keysOf 9 = .ok (.ifCond .eq 14, 3) := by decide +kernel
theorem dX7_keysOf_12 : decode cX7_keysOf 12 = .ok (.aload_n 0, 1) := by decide +kernel
theorem dX7_keysOf_13 : decode cX7_keysOf 13 = .ok (.bipush 100, 2) := by decide +kernel
theorem dX7_keysOf_15 : decode cX7_keysOf 15 = .ok (.iload_n 1, 1) := by decide +kernel
theorem dX7_keysOf_16 : decode cX7_keysOf 16 = .ok (.iadd, 1) := by decide +kernel
theorem dX7_keysOf_17 : decode cX7_keysOf 17 = .ok (.invokevirtual 145, 3) := by decide +kernel
theorem dX7_keysOf_20 : decode cX7_keysOf 20 = .ok (.goto 4, 3) := by decide +kernel
theorem dX7_keysOf_23 : decode cX7_keysOf 23 = .ok (.iconst 0, 1) := by decide +kernel
theorem dX7_keysOf_24 : decode cX7_keysOf 24 = .ok (.ireturn, 1) := by decide +kernel
set_option maxRecDepth 20000 in
theorem ggX7_lengthTo_X7_isWalker : GoodIn wsX7_lengthTo wsX7_isWalker := goodIn_r _ [5, 6, 7, 8, 4, 9, 59, 60, 61, 62, 63, 64, 65, 66, 67, 68, 69, 70, 71, 72, 73, 74, 75, 76, 77, 78, 79] (by decide +kernel) (by decide +kernel)
set_option maxRecDepth 20000 in
theorem gX7_lengthTo_X7_isWalker : GoodIn wsX7_lengthTo (wsV RX7 91 RX7 yX7_isWalker wsX7_isWalker) := goodIn_app (goodIn_of _ (by decide +kernel)) ggX7_lengthTo_X7_isWalker
set_option maxRecDepth 20000 in
theorem ggX7_lengthTo_X7_isCell : GoodIn wsX7_lengthTo wsX7_isCell := goodIn_r _ [12, 13, 14, 4, 15, 7, 8, 9] (by decide +kernel) (by decide +kernel)
set_option maxRecDepth 20000 in
theorem gX7_lengthTo_X7_isCell : GoodIn wsX7_lengthTo (va_wsS RX7 84 yX7_isCell wsX7_isCell) := goodIn_app (goodIn_of _ (by decide +kernel)) ggX7_lengthTo_X7_isCell
set_option maxRecDepth 20000 in
theorem ggX7_lengthTo_X7_cellAt : GoodIn wsX7_lengthTo wsX7_cellAt := goodIn_r _ [18, 10, 11, 4, 12, 13, 14, 15, 7, 8, 9] (by decide +kernel) (by decide +kernel)
set_option maxRecDepth 20000 in
theorem gX7_lengthTo_X7_cellAt : GoodIn wsX7_lengthTo (va_wsS RX7 101 yX7_cellAt wsX7_cellAt) := goodIn_app (goodIn_of _ (by decide +kernel)) ggX7_lengthTo_X7_cellAt
set_option maxRecDepth 20000 in
theorem ggX7_lengthTo_X7_farOf : GoodIn wsX7_lengthTo wsX7_farOf := goodIn_r _ [22, 23, 24, 25, 26, 4, 27, 6, 1, 2, 3, 5, 7, 8, 9, 28, 29, 30, 31, 32, 33, 34, 35, 36, 37, 38, 10, 11, 12, 13, 14, 15, 39, 40, 41, 42, 43, 44, 45, 46, 47, 48, 49, 50, 51, 52, 53, 59, 60, 61, 62, 63, 64, 65, 66, 67, 68, 69, 70, 71, 72, 73, 74, 75, 76, 77, 78, 79] (by decide +kernel) (by decide +kernel)
set_option maxRecDepth 20000 in
theorem gX7_lengthTo_X7_farOf : GoodIn wsX7_lengthTo (wsV RX7 180 RX7 yX7_farOf wsX7_farOf) := goodIn_app (goodIn_of _ (by decide +kernel)) ggX7_lengthTo_X7_farOf
set_option maxRecDepth 20000 in
theorem ggX7_lengthTo_X7_holds : GoodIn wsX7_lengthTo wsX7_holds := goodIn_r _ [57, 58, 59, 60, 61, 62, 63, 64, 65, 66, 67, 68, 69, 70, 71, 72, 73, 74, 75, 76, 77, 78, 79] (by decide +kernel) (by decide +kernel)
set_option maxRecDepth 20000 in
theorem gX7_lengthTo_X7_holds : GoodIn wsX7_lengthTo (wsV RX7 54 RX7 yX7_holds wsX7_holds) := goodIn_app (goodIn_of _ (by decide +kernel)) ggX7_lengthTo_X7_holds
theorem dX7_lengthTo_0 : decode cX7_lengthTo 0 = .ok (.aload_n 0, 1) := by decide +kernel
theorem dX7_lengthTo_1 : decode cX7_lengthTo 1 = .ok (.iload_n 1, 1) := by decide +kernel
theorem dX7_lengthTo_2 : decode cX7_lengthTo 2 = .ok (.invokevirtual 91, 3) := by decide +kernel
theorem dX7_lengthTo_5 : decode cX7_lengthTo 5 = .ok (.ifCond .eq 15, 3) := by decide +kernel
theorem dX7_lengthTo_8 : decode cX7_lengthTo 8 = .ok (.iload_n 2, 1) := by decide +kernel
theorem dX7_lengthTo_9 : decode cX7_lengthTo 9 = .ok (.iload_n 3, 1) := by decide +kernel
theorem dX7_lengthTo_10 : decode cX7_lengthTo 10 = .ok (.invokestatic 84, 3) := by decide +kernel
theorem dX7_lengthTo_13 : decode cX7_lengthTo 13 = .ok (.ifCond .eq 7, 3) := by decide +kernel
theorem dX7_lengthTo_16 : decode cX7_lengthTo 16 = .ok (.iconst 1, 1) := by decide +kernel
theorem dX7_lengthTo_17 : decode cX7_lengthTo 17 = .ok (.goto 4, 3) := by decide +kernel
theorem dX7_lengthTo_20 : decode cX7_lengthTo 20 = .ok (.iconst 0, 1) := by decide +kernel
theorem dX7_lengthTo_21 : decode cX7_lengthTo 21 = .ok (.istore 4, 2) := by decide +kernel
theorem dX7_lengthTo_23 : decode cX7_lengthTo 23 = .ok (.iload 4, 2) := by decide +kernel
theorem dX7_lengthTo_25 : decode cX7_lengthTo 25 = .ok (.ifCond .eq 16, 3) := by decide +kernel
theorem dX7_lengthTo_28 : decode cX7_lengthTo 28 = .ok (.aload_n 0, 1) := by decide +kernel
theorem dX7_lengthTo_29 : decode cX7_lengthTo 29 = .ok (.iload_n 1, 1) := by decide +kernel
theorem dX7_lengthTo_30 : decode cX7_lengthTo 30 = .ok (.iload_n 2, 1) := by decide +kernel
theorem dX7_lengthTo_31 : decode cX7_lengthTo 31 = .ok (.iload_n 3, 1) := by decide +kernel
theorem dX7_lengthTo_32 : decode cX7_lengthTo 32 = .ok (.invokestatic 101, 3) := by decide +kernel
theorem dX7_lengthTo_35 : decode cX7_lengthTo 35 = .ok (.invokevirtual 180, 3) := by decide +kernel
theorem dX7_lengthTo_38 : decode cX7_lengthTo 38 = .ok (.goto 4, 3) := by decide +kernel
theorem dX7_lengthTo_41 : decode cX7_lengthTo 41 = .ok (.iconst (-1), 1) := by decide +kernel
theorem dX7_lengthTo_42 : decode cX7_lengthTo 42 = .ok (.istore 5, 2) := by decide +kernel
theorem dX7_lengthTo_44 : decode cX7_lengthTo 44 = .ok (.aload_n 0, 1) := by decide +kernel
theorem dX7_lengthTo_45 : decode cX7_lengthTo 45 = .ok (.iload 4, 2) := by decide +kernel
theorem dX7_lengthTo_47 : decode cX7_lengthTo 47 = .ok (.iload 5, 2) := by decide +kernel
theorem dX7_lengthTo_49 : decode cX7_lengthTo 49 = .ok (.iconst (-1), 1) := by decide +kernel
theorem dX7_lengthTo_50 : decode cX7_lengthTo 50 = .ok (.if_icmp .eq 7, 3) := by decide +kernel
theorem dX7_lengthTo_53 : decode cX7_lengthTo 53 = .ok (.iconst 1, 1) := by decide +kernel
theorem dX7_lengthTo_54 : decode cX7_lengthTo 54 = .ok (.goto 4, 3) := by decide +kernel
theorem dX7_lengthTo_57 : decode cX7_lengthTo 57 = .ok (.iconst 0, 1) := by decide +kernel
theorem dX7_lengthTo_58 : decode cX7_lengthTo 58 = .ok (.iconst 1, 1) := by decide +kernel
theorem dX7_lengthTo_59 : decode cX7_lengthTo 59 = .ok (.invokevirtual 54, 3) := by decide +kernel
theorem dX7_lengthTo_62 : decode cX7_lengthTo 62 = .ok (.ifCond .eq 8, 3) := by decide +kernel
theorem dX7_lengthTo_65 : decode cX7_lengthTo 65 = .ok (.iload 5, 2) := by decide +kernel
theorem dX7_lengthTo_67 : decode cX7_lengthTo 67 = .ok (.goto 4, 3) := by decide +kernel
theorem dX7_lengthTo_70 : decode cX7_lengthTo 70 = .ok (.iconst 0, 1) := by decide +kernel
theorem dX7_lengthTo_71 : decode cX7_lengthTo 71 = .ok (.ireturn, 1) := by decide +kernel
set_option maxRecDepth 20000 in
theorem ggX7_pathLength_X7_lengthTo : GoodIn wsX7_pathLength wsX7_lengthTo := goodIn_r _ [5, 6, 7, 8, 4, 9, 10, 11, 12, 13, 14, 15, 16, 17, 18, 19, 20, 21, 22, 23, 24, 25, 26, 27, 28, 29, 30, 31, 32, 33, 34, 35, 36, 37, 38, 39, 40, 41, 42, 43, 44, 45, 46, 47, 48, 49, 50, 51, 52, 53, 54, 55, 56, 57, 58, 59, 60, 61, 62, 63, 64, 65, 66, 67, 68, 69, 70, 71, 72, 73, 74, 75, 76, 77, 78, 79, 80, 81, 82, 83] (by decide +kernel) (by decide +kernel)
set_option maxRecDepth 20000 in
theorem gX7_pathLength_X7_lengthTo : GoodIn wsX7_pathLength (wsV RX7 205 RX7 yX7_lengthTo wsX7_lengthTo) := goodIn_app (goodIn_of _ (by decide +kernel)) ggX7_pathLength_X7_lengthTo
theorem dX7_pathLength_0 : decode cX7_pathLength 0 = .ok (.aload_n 0, 1) := by decide +kernel
theorem dX7_pathLength_1 : decode cX7_pathLength 1 = .ok (.iload_n 1, 1) := by decide +kernel
theorem dX7_pathLength_2 : decode cX7_pathLength 2 = .ok (.iload_n 2, 1) := by decide +kernel
theorem dX7_pathLength_3 : decode cX7_pathLength 3 = .ok (.iload_n 3, 1) := by decide +kernel
theorem dX7_pathLength_4 : decode cX7_pathLength 4 = .ok (.invokevirtual 205, 3) := by decide +kernel
theorem dX7_pathLength_7 : decode cX7_pathLength 7 = .ok (.ireturn, 1) := by decide +kernel
set_option maxRecDepth 20000 in
theorem ggX7_pathLengthByRounds_X7_lengthTo : GoodIn wsX7_pathLengthByRounds wsX7_lengthTo := goodIn_r _ [5, 6, 7, 8, 4, 9, 10, 11, 12, 13, 14, 15, 16, 17, 18, 19, 20, 21, 22, 23, 24, 25, 26, 27, 28, 29, 30, 31, 32, 33, 34, 35, 36, 37, 38, 39, 40, 41, 42, 43, 44, 45, 46, 47, 48, 49, 50, 51, 52, 53, 54, 55, 56, 57, 58, 59, 60, 61, 62, 63, 64, 65, 66, 67, 68, 69, 70, 71, 72, 73, 74, 75, 76, 77, 78, 79, 80, 81, 82, 83] (by decide +kernel) (by decide +kernel)
set_option maxRecDepth 20000 in
theorem gX7_pathLengthByRounds_X7_lengthTo : GoodIn wsX7_pathLengthByRounds (wsV RX7 205 RX7 yX7_lengthTo wsX7_lengthTo) := goodIn_app (goodIn_of _ (by decide +kernel)) ggX7_pathLengthByRounds_X7_lengthTo
theorem dX7_pathLengthByRounds_0 : decode cX7_pathLengthByRounds 0 = .ok (.aload_n 0, 1) := by decide +kernel
theorem dX7_pathLengthByRounds_1 : decode cX7_pathLengthByRounds 1 = .ok (.iload_n 1, 1) := by decide +kernel
theorem dX7_pathLengthByRounds_2 : decode cX7_pathLengthByRounds 2 = .ok (.iload_n 2, 1) := by decide +kernel
theorem dX7_pathLengthByRounds_3 : decode cX7_pathLengthByRounds 3 = .ok (.iload_n 3, 1) := by decide +kernel
theorem dX7_pathLengthByRounds_4 : decode cX7_pathLengthByRounds 4 = .ok (.invokevirtual 205, 3) := by decide +kernel
theorem dX7_pathLengthByRounds_7 : decode cX7_pathLengthByRounds 7 = .ok (.ireturn, 1) := by decide +kernel
set_option maxRecDepth 20000 in
theorem ggX7_firstStep_X7_cellAt : GoodIn wsX7_firstStep wsX7_cellAt := goodIn_r _ [5, 6, 7, 4, 8, 9, 10, 11, 12, 13, 14] (by decide +kernel) (by decide +kernel)
set_option maxRecDepth 20000 in
theorem gX7_firstStep_X7_cellAt : GoodIn wsX7_firstStep (va_wsS RX7 101 yX7_cellAt wsX7_cellAt) := goodIn_app (goodIn_of _ (by decide +kernel)) ggX7_firstStep_X7_cellAt
set_option maxRecDepth 20000 in
theorem ggX7_firstStep_X7_isWalker : GoodIn wsX7_firstStep wsX7_isWalker := goodIn_r _ [18, 19, 12, 13, 4, 14, 59, 60, 61, 62, 63, 64, 65, 66, 67, 68, 69, 70, 71, 72, 73, 74, 75, 76, 77, 78, 79] (by decide +kernel) (by decide +kernel)
set_option maxRecDepth 20000 in
theorem gX7_firstStep_X7_isWalker : GoodIn wsX7_firstStep (wsV RX7 91 RX7 yX7_isWalker wsX7_isWalker) := goodIn_app (goodIn_of _ (by decide +kernel)) ggX7_firstStep_X7_isWalker
set_option maxRecDepth 20000 in
theorem ggX7_firstStep_X7_isCell : GoodIn wsX7_firstStep wsX7_isCell := goodIn_r _ [8, 9, 10, 4, 11, 12, 13, 14] (by decide +kernel) (by decide +kernel)
set_option maxRecDepth 20000 in
theorem gX7_firstStep_X7_isCell : GoodIn wsX7_firstStep (va_wsS RX7 84 yX7_isCell wsX7_isCell) := goodIn_app (goodIn_of _ (by decide +kernel)) ggX7_firstStep_X7_isCell
set_option maxRecDepth 20000 in
theorem ggX7_firstStep_X7_farOf : GoodIn wsX7_firstStep wsX7_farOf := goodIn_r _ [23, 1, 24, 25, 26, 4, 27, 19, 15, 16, 17, 18, 12, 13, 14, 28, 29, 30, 31, 32, 33, 34, 35, 36, 37, 38, 6, 7, 8, 9, 10, 11, 39, 40, 41, 42, 43, 44, 45, 46, 47, 48, 49, 50, 51, 52, 53, 59, 60, 61, 62, 63, 64, 65, 66, 67, 68, 69, 70, 71, 72, 73, 74, 75, 76, 77, 78, 79] (by decide +kernel) (by decide +kernel)
set_option maxRecDepth 20000 in
theorem gX7_firstStep_X7_farOf : GoodIn wsX7_firstStep (wsV RX7 180 RX7 yX7_farOf wsX7_farOf) := goodIn_app (goodIn_of _ (by decide +kernel)) ggX7_firstStep_X7_farOf
set_option maxRecDepth 20000 in
theorem ggX7_firstStep_X7_standing : GoodIn wsX7_firstStep wsX7_standing := goodIn_r _ [27, 19, 15, 16, 17, 4, 18, 12, 13, 14, 59, 60, 61, 62, 63, 64, 65, 66, 67, 68, 69, 70, 71, 72, 73, 74, 75, 76, 77, 78, 79] (by decide +kernel) (by decide +kernel)
set_option maxRecDepth 20000 in
theorem gX7_firstStep_X7_standing : GoodIn wsX7_firstStep (wsV RX7 174 RX7 yX7_standing wsX7_standing) := goodIn_app (goodIn_of _ (by decide +kernel)) ggX7_firstStep_X7_standing
set_option maxRecDepth 20000 in
theorem ggX7_firstStep_X7_beside : GoodIn wsX7_firstStep wsX7_beside := goodIn_r _ [38, 6, 7, 4, 8, 9, 10, 11, 12, 13, 14] (by decide +kernel) (by decide +kernel)
set_option maxRecDepth 20000 in
theorem gX7_firstStep_X7_beside : GoodIn wsX7_firstStep (va_wsS RX7 98 yX7_beside wsX7_beside) := goodIn_app (goodIn_of _ (by decide +kernel)) ggX7_firstStep_X7_beside
set_option maxRecDepth 20000 in
theorem ggX7_firstStep_X7_isJoined : GoodIn wsX7_firstStep wsX7_isJoined := goodIn_r _ [42, 36, 37, 4, 38, 6, 7, 8, 9, 10, 11, 12, 13, 14, 43, 44, 45, 46, 19, 47, 48, 49, 59, 60, 61, 62, 63, 64, 65, 66, 67, 68, 69, 70, 71, 72, 73, 74, 75, 76, 77, 78, 79] (by decide +kernel) (by decide +kernel)
set_option maxRecDepth 20000 in
theorem gX7_firstStep_X7_isJoined : GoodIn wsX7_firstStep (wsV RX7 168 RX7 yX7_isJoined wsX7_isJoined) := goodIn_app (goodIn_of _ (by decide +kernel)) ggX7_firstStep_X7_isJoined
set_option maxRecDepth 20000 in
theorem ggX7_firstStep_X7_mayEnter : GoodIn wsX7_firstStep wsX7_mayEnter := goodIn_r _ [53, 19, 43, 44, 45, 4, 46, 47, 48, 49, 59, 60, 61, 62, 63, 64, 65, 66, 67, 68, 69, 70, 71, 72, 73, 74, 75, 76, 77, 78, 79] (by decide +kernel) (by decide +kernel)
set_option maxRecDepth 20000 in
theorem gX7_firstStep_X7_mayEnter : GoodIn wsX7_firstStep (wsV RX7 171 RX7 yX7_mayEnter wsX7_mayEnter) := goodIn_app (goodIn_of _ (by decide +kernel)) ggX7_firstStep_X7_mayEnter
set_option maxRecDepth 20000 in
theorem ggX7_firstStep_X7_measures : GoodIn wsX7_firstStep wsX7_measures := goodIn_r _ [31, 1, 32, 33, 34, 4, 35, 36, 37, 38, 6, 7, 8, 9, 10, 11, 12, 13, 14, 39, 40, 41, 42, 43, 44, 45, 46, 19, 47, 48, 49, 50, 51, 52, 53, 59, 60, 61, 62, 63, 64, 65, 66, 67, 68, 69, 70, 71, 72, 73, 74, 75, 76, 77, 78, 79] (by decide +kernel) (by decide +kernel)
set_option maxRecDepth 20000 in
theorem gX7_firstStep_X7_measures : GoodIn wsX7_firstStep (wsV RX7 177 RX7 yX7_measures wsX7_measures) := goodIn_app (goodIn_of _ (by decide +kernel)) ggX7_firstStep_X7_measures
set_option maxRecDepth 20000 in
theorem ggX7_firstStep_X7_holds : GoodIn wsX7_firstStep wsX7_holds := goodIn_r _ [57, 58, 59, 60, 61, 62, 63, 64, 65, 66, 67, 68, 69, 70, 71, 72, 73, 74, 75, 76, 77, 78, 79] (by decide +kernel) (by decide +kernel)
set_option maxRecDepth 20000 in
theorem gX7_firstStep_X7_holds : GoodIn wsX7_firstStep (wsV RX7 54 RX7 yX7_holds wsX7_holds) := goodIn_app (goodIn_of _ (by decide +kernel)) ggX7_firstStep_X7_holds
theorem dX7_firstStep_0 : decode cX7_firstStep 0 = .ok (.iload_n 2, 1) := by decide +kernel
theorem dX7_firstStep_1 : decode cX7_firstStep 1 = .ok (.iload_n 3, 1) := by decide +kernel
theorem dX7_firstStep_2 : decode cX7_firstStep 2 = .ok (.invokestatic 101, 3) := by decide +kernel
theorem dX7_firstStep_5 : decode cX7_firstStep 5 = .ok (.istore 4, 2) := by decide +kernel
theorem dX7_firstStep_7 : decode cX7_firstStep 7 = .ok (.aload_n 0, 1) := by decide +kernel
theorem dX7_firstStep_8 : decode cX7_firstStep 8 = .ok (.iload_n 1, 1) := by decide +kernel
theorem dX7_firstStep_9 : decode cX7_firstStep 9 = .ok (.invokevirtual 91, 3) := by decide +kernel
theorem dX7_firstStep_12 : decode cX7_firstStep 12 = .ok (.ifCond .eq 15, 3) := by decide +kernel
theorem dX7_firstStep_15 : decode cX7_firstStep 15 = .ok (.iload_n 2, 1) := by decide +kernel
theorem dX7_firstStep_16 : decode cX7_firstStep 16 = .ok (.iload_n 3, 1) := by decide +kernel
theorem dX7_firstStep_17 : decode cX7_firstStep 17 = .ok (.invokestatic 84, 3) := by decide +kernel
theorem dX7_firstStep_20 : decode cX7_firstStep 20 = .ok (.ifCond .eq 7, 3) := by decide +kernel
theorem dX7_firstStep_23 : decode cX7_firstStep 23 = .ok (.iconst 1, 1) := by decide +kernel
theorem dX7_firstStep_24 : decode cX7_firstStep 24 = .ok (.goto 4, 3) := by decide +kernel
theorem dX7_firstStep_27 : decode cX7_firstStep 27 = .ok (.iconst 0, 1) := by decide +kernel
theorem dX7_firstStep_28 : decode cX7_firstStep 28 = .ok (.istore 5, 2) := by decide +kernel
theorem dX7_firstStep_30 : decode cX7_firstStep 30 = .ok (.iload 5, 2) := by decide +kernel
theorem dX7_firstStep_32 : decode cX7_firstStep 32 = .ok (.ifCond .eq 13, 3) := by decide +kernel
theorem dX7_firstStep_35 : decode cX7_firstStep 35 = .ok (.aload_n 0, 1) := by decide +kernel
theorem dX7_firstStep_36 : decode cX7_firstStep 36 = .ok (.iload_n 1, 1) := by decide +kernel
theorem dX7_firstStep_37 : decode cX7_firstStep 37 = .ok (.iload 4, 2) := by decide +kernel
theorem dX7_firstStep_39 : decode cX7_firstStep 39 = .ok (.invokevirtual 180, 3) := by decide +kernel
theorem dX7_firstStep_42 : decode cX7_firstStep 42 = .ok (.goto 4, 3) := by decide +kernel
theorem dX7_firstStep_45 : decode cX7_firstStep 45 = .ok (.iconst (-1), 1) := by decide +kernel
theorem dX7_firstStep_46 : decode cX7_firstStep 46 = .ok (.istore 6, 2) := by decide +kernel
theorem dX7_firstStep_48 : decode cX7_firstStep 48 = .ok (.iconst (-1), 1) := by decide +kernel
theorem dX7_firstStep_49 : decode cX7_firstStep 49 = .ok (.istore 7, 2) := by decide +kernel
theorem dX7_firstStep_51 : decode cX7_firstStep 51 = .ok (.iconst 3, 1) := by decide +kernel
theorem dX7_firstStep_52 : decode cX7_firstStep 52 = .ok (.istore 8, 2) := by decide +kernel
theorem dX7_firstStep_54 : decode cX7_firstStep 54 = .ok (.iload 8, 2) := by decide +kernel
theorem dX7_firstStep_56 : decode cX7_firstStep 56 = .ok (.ifCond .lt 92, 3) := by decide +kernel
theorem dX7_firstStep_59 : decode cX7_firstStep 59 = .ok (.iload 6, 2) := by decide +kernel
theorem dX7_firstStep_61 : decode cX7_firstStep 61 = .ok (.ifCond .le 87, 3) := by decide +kernel
theorem dX7_firstStep_64 : decode cX7_firstStep 64 = .ok (.aload_n 0, 1) := by decide +kernel
theorem dX7_firstStep_65 : decode cX7_firstStep 65 = .ok (.iload_n 1, 1) := by decide +kernel
theorem dX7_firstStep_66 : decode cX7_firstStep 66 = .ok (.invokevirtual 174, 3) := by decide +kernel
theorem dX7_firstStep_69 : decode cX7_firstStep 69 = .ok (.iload 8, 2) := by decide +kernel
theorem dX7_firstStep_71 : decode cX7_firstStep 71 = .ok (.invokestatic 98, 3) := by decide +kernel
theorem dX7_firstStep_74 : decode cX7_firstStep 74 = .ok (.istore 9, 2) := by decide +kernel
theorem dX7_firstStep_76 : decode cX7_firstStep 76 = .ok (.aload_n 0, 1) := by decide +kernel
theorem dX7_firstStep_77 : decode cX7_firstStep 77 = .ok (.aload_n 0, 1) := by decide +kernel
theorem dX7_firstStep_78 : decode cX7_firstStep 78 = .ok (.iload_n 1, 1) := by decide +kernel
theorem dX7_firstStep_79 : decode cX7_firstStep 79 = .ok (.invokevirtual 174, 3) := by decide +kernel
theorem dX7_firstStep_82 : decode cX7_firstStep 82 = .ok (.iload 8, 2) := by decide +kernel
theorem dX7_firstStep_84 : decode cX7_firstStep 84 = .ok (.invokevirtual 168, 3) := by decide +kernel
theorem dX7_firstStep_87 : decode cX7_firstStep 87 = .ok (.ifCond .eq 17, 3) := by decide +kernel
theorem dX7_firstStep_90 : decode cX7_firstStep 90 = .ok (.aload_n 0, 1) := by decide +kernel
theorem dX7_firstStep_91 : decode cX7_firstStep 91 = .ok (.iload_n 1, 1) := by decide +kernel
theorem dX7_firstStep_92 : decode cX7_firstStep 92 = .ok (.iload 9, 2) := by decide +kernel
theorem dX7_firstStep_94 : decode cX7_firstStep 94 = .ok (.invokevirtual 171, 3) := by decide +kernel
theorem dX7_firstStep_97 : decode cX7_firstStep 97 = .ok (.ifCond .eq 7, 3) := by decide +kernel
theorem dX7_firstStep_100 : decode cX7_firstStep 100 = .ok (.iconst 1, 1) := by decide +kernel
theorem dX7_firstStep_101 : decode cX7_firstStep 101 = .ok (.goto 4, 3) := by decide +kernel
theorem dX7_firstStep_104 : decode cX7_firstStep 104 = .ok (.iconst 0, 1) := by decide +kernel
theorem dX7_firstStep_105 : decode cX7_firstStep 105 = .ok (.istore 10, 2) := by decide +kernel
theorem dX7_firstStep_107 : decode cX7_firstStep 107 = .ok (.iload 10, 2) := by decide +kernel
theorem dX7_firstStep_109 : decode cX7_firstStep 109 = .ok (.ifCond .eq 33, 3) := by decide +kernel
theorem dX7_firstStep_112 : decode cX7_firstStep 112 = .ok (.aload_n 0, 1) := by decide +kernel
theorem dX7_firstStep_113 : decode cX7_firstStep 113 = .ok (.iload_n 1, 1) := by decide +kernel
theorem dX7_firstStep_114 : decode cX7_firstStep 114 = .ok (.iload 9, 2) := by decide +kernel
theorem dX7_firstStep_116 : decode cX7_firstStep 116 = .ok (.invokevirtual 177, 3) := by decide +kernel
theorem dX7_firstStep_119 : decode cX7_firstStep 119 = .ok (.aload_n 0, 1) := by decide +kernel
theorem dX7_firstStep_120 : decode cX7_firstStep 120 = .ok (.getfield 35, 3) := by decide +kernel
theorem dX7_firstStep_123 : decode cX7_firstStep 123 = .ok (.iload 4, 2) := by decide +kernel
theorem dX7_firstStep_125 : decode cX7_firstStep 125 = .ok (.iaload, 1) := by decide +kernel
theorem dX7_firstStep_126 : decode cX7_firstStep 126 = .ok (.iload 6, 2) := by decide +kernel
theorem dX7_firstStep_128 : decode cX7_firstStep 128 = .ok (.iconst 1, 1) := by decide +kernel
theorem dX7_firstStep_129 : decode cX7_firstStep 129 = .ok (.isub, 1) := by decide +kernel
theorem dX7_firstStep_130 : decode cX7_firstStep 130 = .ok (.if_icmp .ne 8, 3) := by decide +kernel
theorem dX7_firstStep_133 : decode cX7_firstStep 133 = .ok (.iload 8, 2) := by decide +kernel
theorem dX7_firstStep_135 : decode cX7_firstStep 135 = .ok (.goto 5, 3) := by decide +kernel
theorem dX7_firstStep_138 : decode cX7_firstStep 138 = .ok (.iload 7, 2) := by decide +kernel
theorem dX7_firstStep_140 : decode cX7_firstStep 140 = .ok (.istore 7, 2) := by decide +kernel
theorem dX7_firstStep_142 : decode cX7_firstStep 142 = .ok (.iinc 8 (-1), 3) := by decide +kernel
theorem dX7_firstStep_145 : decode cX7_firstStep 145 = .ok (.goto (-91), 3) := by decide +kernel
theorem dX7_firstStep_148 : decode cX7_firstStep 148 = .ok (.aload_n 0, 1) := by decide +kernel
theorem dX7_firstStep_149 : decode cX7_firstStep 149 = .ok (.iload 5, 2) := by decide +kernel
theorem dX7_firstStep_151 : decode cX7_firstStep 151 = .ok (.iload 7, 2) := by decide +kernel
theorem dX7_firstStep_153 : decode cX7_firstStep 153 = .ok (.iconst (-1), 1) := by decide +kernel
theorem dX7_firstStep_154 : decode cX7_firstStep 154 = .ok (.if_icmp .eq 7, 3) := by decide +kernel
theorem dX7_firstStep_157 : decode cX7_firstStep 157 = .ok (.iconst 1, 1) := by decide +kernel
theorem dX7_firstStep_158 : decode cX7_firstStep 158 = .ok (.goto 4, 3) := by decide +kernel
theorem dX7_firstStep_161 : decode cX7_firstStep 161 = .ok (.iconst 0, 1) := by decide +kernel
theorem dX7_firstStep_162 : decode cX7_firstStep 162 = .ok (.iconst 1, 1) := by decide +kernel
theorem dX7_firstStep_163 : decode cX7_firstStep 163 = .ok (.invokevirtual 54, 3) := by decide +kernel
theorem dX7_firstStep_166 : decode cX7_firstStep 166 = .ok (.ifCond .eq 8, 3) := by decide +kernel
theorem dX7_firstStep_169 : decode cX7_firstStep 169 = .ok (.iload 7, 2) := by decide +kernel
theorem dX7_firstStep_171 : decode cX7_firstStep 171 = .ok (.goto 4, 3) := by decide +kernel
theorem dX7_firstStep_174 : decode cX7_firstStep 174 = .ok (.iconst 0, 1) := by decide +kernel
theorem dX7_firstStep_175 : decode cX7_firstStep 175 = .ok (.ireturn, 1) := by decide +kernel
set_option maxRecDepth 20000 in
theorem ggX7_reached_X7_standing : GoodIn wsX7_reached wsX7_standing := goodIn_r _ [6, 7, 8, 9, 10, 5, 11, 12, 13, 14, 47, 48, 49, 50, 51, 52, 53, 54, 55, 56, 57, 58, 59, 60, 61, 62, 63, 64, 65, 66, 67] (by decide +kernel) (by decide +kernel)
set_option maxRecDepth 20000 in
theorem gX7_reached_X7_standing : GoodIn wsX7_reached (wsV RX7 174 RX7 yX7_standing wsX7_standing) := goodIn_app (goodIn_of _ (by decide +kernel)) ggX7_reached_X7_standing
set_option maxRecDepth 20000 in
theorem ggX7_reached_X7_measures : GoodIn wsX7_reached wsX7_measures := goodIn_r _ [18, 1, 19, 20, 21, 5, 22, 23, 24, 25, 26, 27, 28, 29, 30, 31, 12, 13, 14, 32, 33, 34, 35, 36, 37, 38, 39, 7, 40, 41, 42, 43, 44, 45, 46, 47, 48, 49, 50, 51, 52, 53, 54, 55, 56, 57, 58, 59, 60, 61, 62, 63, 64, 65, 66, 67] (by decide +kernel) (by decide +kernel)
set_option maxRecDepth 20000 in
theorem gX7_reached_X7_measures : GoodIn wsX7_reached (wsV RX7 177 RX7 yX7_measures wsX7_measures) := goodIn_app (goodIn_of _ (by decide +kernel)) ggX7_reached_X7_measures
theorem dX7_reached_0 : decode cX7_reached 0 = .ok (.aload_n 0, 1) := by decide +kernel
theorem dX7_reached_1 : decode cX7_reached 1 = .ok (.iload_n 1, 1) := by decide +kernel
theorem dX7_reached_2 : decode cX7_reached 2 = .ok (.aload_n 0, 1) := by decide +kernel
theorem dX7_reached_3 : decode cX7_reached 3 = .ok (.iload_n 1, 1) := by decide +kernel
theorem dX7_reached_4 : decode cX7_reached 4 = .ok (.invokevirtual 174, 3) := by decide +kernel
theorem dX7_reached_7 : decode cX7_reached 7 = .ok (.invokevirtual 177, 3) := by decide +kernel
theorem dX7_reached_10 : decode cX7_reached 10 = .ok (.iconst 0, 1) := by decide +kernel
theorem dX7_reached_11 : decode cX7_reached 11 = .ok (.istore_n 2, 1) := by decide +kernel
theorem dX7_reached_12 : decode cX7_reached 12 = .ok (.iconst 0, 1) := by decide +kernel
theorem dX7_reached_13 : decode cX7_reached 13 = .ok (.istore_n 3, 1) := by decide +kernel
theorem dX7_reached_14 : decode cX7_reached 14 = .ok (.iload_n 3, 1) := by decide +kernel
theorem dX7_reached_15 : decode cX7_reached 15 = .ok (.bipush 25, 2) := by decide +kernel
theorem dX7_reached_17 : decode cX7_reached 17 = .ok (.if_icmp .ge 27, 3) := by decide +kernel
theorem dX7_reached_20 : decode cX7_reached 20 = .ok (.iload_n 2, 1) := by decide +kernel
theorem dX7_reached_21 : decode cX7_reached 21 = .ok (.aload_n 0, 1) := by decide +kernel
theorem dX7_reached_22 : decode cX7_reached 22 = .ok (.getfield 35, 3) := by decide +kernel
theorem dX7_reached_25 : decode cX7_reached 25 = .ok (.iload_n 3, 1) := by decide +kernel
theorem dX7_reached_26 : decode cX7_reached 26 = .ok (.iaload, 1) := by decide +kernel
theorem dX7_reached_27 : decode cX7_reached 27 = .ok (.iconst (-1), 1) := by decide +kernel
theorem dX7_reached_28 : decode cX7_reached 28 = .ok (.if_icmp .ne 7, 3) := by decide +kernel
theorem dX7_reached_31 : decode cX7_reached 31 = .ok (.iconst 0, 1) := by decide +kernel
theorem dX7_reached_32 : decode cX7_reached 32 = .ok (.goto 4, 3) := by decide +kernel
theorem dX7_reached_35 : decode cX7_reached 35 = .ok (.iconst 1, 1) := by decide +kernel
theorem dX7_reached_36 : decode cX7_reached 36 = .ok (.iadd, 1) := by decide +kernel
theorem dX7_reached_37 : decode cX7_reached 37 = .ok (.istore_n 2, 1) := by decide +kernel
theorem dX7_reached_38 : decode cX7_reached 38 = .ok (.iinc 3 1, 3) := by decide +kernel
theorem dX7_reached_41 : decode cX7_reached 41 = .ok (.goto (-27), 3) := by decide +kernel
theorem dX7_reached_44 : decode cX7_reached 44 = .ok (.iload_n 2, 1) := by decide +kernel
theorem dX7_reached_45 : decode cX7_reached 45 = .ok (.ireturn, 1) := by decide +kernel
set_option maxRecDepth 20000 in
theorem ggX7_reachableCells_X7_isWalker : GoodIn wsX7_reachableCells wsX7_isWalker := goodIn_r _ [5, 6, 7, 8, 4, 9, 60, 61, 62, 63, 64, 65, 66, 67, 68, 69, 70, 71, 72, 73, 74, 75, 76, 77, 78, 79, 80] (by decide +kernel) (by decide +kernel)
set_option maxRecDepth 20000 in
theorem gX7_reachableCells_X7_isWalker : GoodIn wsX7_reachableCells (wsV RX7 91 RX7 yX7_isWalker wsX7_isWalker) := goodIn_app (goodIn_of _ (by decide +kernel)) ggX7_reachableCells_X7_isWalker
set_option maxRecDepth 20000 in
theorem ggX7_reachableCells_X7_goes : GoodIn wsX7_reachableCells wsX7_goes := goodIn_r _ [13, 14, 15, 16, 4, 17, 18, 60, 61, 62, 63, 64, 65, 66, 67, 68, 69, 70, 71, 72, 73, 74, 75, 76, 77, 78, 79, 80] (by decide +kernel) (by decide +kernel)
set_option maxRecDepth 20000 in
theorem gX7_reachableCells_X7_goes : GoodIn wsX7_reachableCells (wsV RX7 68 RX7 yX7_goes wsX7_goes) := goodIn_app (goodIn_of _ (by decide +kernel)) ggX7_reachableCells_X7_goes
set_option maxRecDepth 20000 in
theorem ggX7_reachableCells_X7_reached : GoodIn wsX7_reachableCells wsX7_reached := goodIn_r _ [22, 23, 24, 25, 26, 4, 27, 6, 1, 2, 3, 5, 7, 8, 9, 28, 29, 30, 31, 32, 33, 34, 35, 36, 37, 38, 39, 40, 41, 42, 43, 44, 45, 46, 47, 48, 49, 50, 51, 52, 53, 54, 55, 56, 57, 58, 59, 60, 61, 62, 63, 64, 65, 66, 67, 68, 69, 70, 71, 72, 73, 74, 75, 76, 77, 78, 79, 80] (by decide +kernel) (by decide +kernel)
set_option maxRecDepth 20000 in
theorem gX7_reachableCells_X7_reached : GoodIn wsX7_reachableCells (wsV RX7 208 RX7 yX7_reached wsX7_reached) := goodIn_app (goodIn_of _ (by decide +kernel)) ggX7_reachableCells_X7_reached
theorem dX7_reachableCells_0 : decode cX7_reachableCells 0 = .ok (.aload_n 0, 1) := by decide +kernel
theorem dX7_reachableCells_1 : decode cX7_reachableCells 1 = .ok (.aload_n 0, 1) := by decide +kernel
theorem dX7_reachableCells_2 : decode cX7_reachableCells 2 = .ok (.iload_n 1, 1) := by decide +kernel
theorem dX7_reachableCells_3 : decode cX7_reachableCells 3 = .ok (.invokevirtual 91, 3) := by decide +kernel
theorem dX7_reachableCells_6 : decode cX7_reachableCells 6 = .ok (.invokevirtual 68, 3) := by decide +kernel
theorem dX7_reachableCells_9 : decode cX7_reachableCells 9 = .ok (.ifCond .eq 11, 3) := by decide +kernel
theorem dX7_reachableCells_12 : decode cX7_reachableCells 12 = .ok (.aload_n 0, 1) := by decide +kernel
theorem dX7_reachableCells_13 : decode cX7_reachableCells 13 = .ok (.iload_n 1, 1) := by decide +kernel
theorem dX7_reachableCells_14 : decode cX7_reachableCells 14 = .ok (.invokevirtual 208, 3) := by decide +kernel
theorem dX7_reachableCells_17 : decode cX7_reachableCells 17 = .ok (.goto 4, 3) := by decide +kernel
theorem dX7_reachableCells_20 : decode cX7_reachableCells 20 = .ok (.iconst 0, 1) := by decide +kernel
theorem dX7_reachableCells_21 : decode cX7_reachableCells 21 = .ok (.ireturn, 1) := by decide +kernel
set_option maxRecDepth 20000 in
theorem ggX7_nearestKey_X7_isWalker : GoodIn wsX7_nearestKey wsX7_isWalker := goodIn_r _ [7, 1, 8, 9, 6, 10, 52, 53, 54, 55, 56, 57, 58, 59, 60, 61, 62, 63, 64, 65, 66, 67, 68, 69, 70, 71, 72] (by decide +kernel) (by decide +kernel)
set_option maxRecDepth 20000 in
theorem gX7_nearestKey_X7_isWalker : GoodIn wsX7_nearestKey (wsV RX7 91 RX7 yX7_isWalker wsX7_isWalker) := goodIn_app (goodIn_of _ (by decide +kernel)) ggX7_nearestKey_X7_isWalker
set_option maxRecDepth 20000 in
theorem ggX7_nearestKey_X7_standing : GoodIn wsX7_nearestKey wsX7_standing := goodIn_r _ [14, 1, 3, 4, 5, 6, 7, 8, 9, 10, 52, 53, 54, 55, 56, 57, 58, 59, 60, 61, 62, 63, 64, 65, 66, 67, 68, 69, 70, 71, 72] (by decide +kernel) (by decide +kernel)
set_option maxRecDepth 20000 in
theorem gX7_nearestKey_X7_standing : GoodIn wsX7_nearestKey (wsV RX7 174 RX7 yX7_standing wsX7_standing) := goodIn_app (goodIn_of _ (by decide +kernel)) ggX7_nearestKey_X7_standing
set_option maxRecDepth 20000 in
theorem ggX7_nearestKey_X7_measures : GoodIn wsX7_nearestKey wsX7_measures := goodIn_r _ [18, 2, 19, 20, 21, 6, 22, 23, 24, 25, 26, 27, 28, 29, 30, 31, 8, 9, 10, 32, 33, 34, 35, 36, 37, 38, 39, 1, 40, 41, 42, 43, 44, 45, 46, 52, 53, 54, 55, 56, 57, 58, 59, 60, 61, 62, 63, 64, 65, 66, 67, 68, 69, 70, 71, 72] (by decide +kernel) (by decide +kernel)
set_option maxRecDepth 20000 in
theorem gX7_nearestKey_X7_measures : GoodIn wsX7_nearestKey (wsV RX7 177 RX7 yX7_measures wsX7_measures) := goodIn_app (goodIn_of _ (by decide +kernel)) ggX7_nearestKey_X7_measures
set_option maxRecDepth 20000 in
theorem ggX7_nearestKey_X7_isIn : GoodIn wsX7_nearestKey wsX7_isIn := goodIn_r _ [10] (by decide +kernel) (by decide +kernel)
set_option maxRecDepth 20000 in
theorem gX7_nearestKey_X7_isIn : GoodIn wsX7_nearestKey (va_wsS RX7 76 yX7_isIn wsX7_isIn) := goodIn_app (goodIn_of _ (by decide +kernel)) ggX7_nearestKey_X7_isIn
set_option maxRecDepth 20000 in
theorem ggX7_nearestKey_X7_holds : GoodIn wsX7_nearestKey wsX7_holds := goodIn_r _ [50, 51, 52, 53, 54, 55, 56, 57, 58, 59, 60, 61, 62, 63, 64, 65, 66, 67, 68, 69, 70, 71, 72] (by decide +kernel) (by decide +kernel)
set_option maxRecDepth 20000 in
theorem gX7_nearestKey_X7_holds : GoodIn wsX7_nearestKey (wsV RX7 54 RX7 yX7_holds wsX7_holds) := goodIn_app (goodIn_of _ (by decide +kernel)) ggX7_nearestKey_X7_holds
theorem dX7_nearestKey_0 : decode cX7_nearestKey 0 = .ok (.iconst (-1), 1) := by decide +kernel
theorem dX7_nearestKey_1 : decode cX7_nearestKey 1 = .ok (.istore_n 2, 1) := by decide +kernel
theorem dX7_nearestKey_2 : decode cX7_nearestKey 2 = .ok (.aload_n 0, 1) := by decide +kernel
theorem dX7_nearestKey_3 : decode cX7_nearestKey 3 = .ok (.iload_n 1, 1) := by decide +kernel
theorem dX7_nearestKey_4 : decode cX7_nearestKey 4 = .ok (.invokevirtual 91, 3) := by decide +kernel
theorem dX7_nearestKey_7 : decode cX7_nearestKey 7 = .ok (.ifCond .eq 103, 3) := by decide +kernel
theorem dX7_nearestKey_10 : decode cX7_nearestKey 10 = .ok (.aload_n 0, 1) := by decide +kernel
theorem dX7_nearestKey_11 : decode cX7_nearestKey 11 = .ok (.iload_n 1, 1) := by decide +kernel
theorem dX7_nearestKey_12 : decode cX7_nearestKey 12 = .ok (.aload_n 0, 1) := by decide +kernel
theorem dX7_nearestKey_13 : decode cX7_nearestKey 13 = .ok (.iload_n 1, 1) := by decide +kernel
theorem dX7_nearestKey_14 : decode cX7_nearestKey 14 = .ok (.invokevirtual 174, 3) := by decide +kernel
theorem dX7_nearestKey_17 : decode cX7_nearestKey 17 = .ok (.invokevirtual 177, 3) := by decide +kernel
theorem dX7_nearestKey_20 : decode cX7_nearestKey 20 = .ok (.iconst 5, 1) := by decide +kernel
theorem dX7_nearestKey_21 : decode cX7_nearestKey 21 = .ok (.istore_n 3, 1) := by decide +kernel
theorem dX7_nearestKey_22 : decode cX7_nearestKey 22 = .ok (.iload_n 3, 1) := by decide +kernel
theorem dX7_nearestKey_23 : decode cX7_nearestKey 23 = .ok (.ifCond .lt 87, 3) := by decide +kernel
theorem dX7_nearestKey_26 : decode cX7_nearestKey 26 = .ok (.aload_n 0, 1) := by decide +kernel
theorem dX7_nearestKey_27 : decode cX7_nearestKey 27 = .ok (.getfield 9, 3) := by decide +kernel
theorem dX7_nearestKey_30 : decode cX7_nearestKey 30 = .ok (.iconst 3, 1) := by decide +kernel
theorem dX7_nearestKey_31 : decode cX7_nearestKey 31 = .ok (.iload_n 3, 1) := by decide +kernel
theorem dX7_nearestKey_32 : decode cX7_nearestKey 32 = .ok (.iadd, 1) := by decide +kernel
theorem dX7_nearestKey_33 : decode cX7_nearestKey 33 = .ok (.iaload, 1) := by decide +kernel
theorem dX7_nearestKey_34 : decode cX7_nearestKey 34 = .ok (.istore 4, 2) := by decide +kernel
theorem dX7_nearestKey_36 : decode cX7_nearestKey 36 = .ok (.iload 4, 2) := by decide +kernel
theorem dX7_nearestKey_38 : decode cX7_nearestKey 38 = .ok (.iconst 0, 1) := by decide +kernel
theorem dX7_nearestKey_39 : decode cX7_nearestKey 39 = .ok (.bipush 24, 2) := by decide +kernel
theorem dX7_nearestKey_41 : decode cX7_nearestKey 41 = .ok (.invokestatic 76, 3) := by decide +kernel
theorem dX7_nearestKey_44 : decode cX7_nearestKey 44 = .ok (.ifCond .eq 18, 3) := by decide +kernel
theorem dX7_nearestKey_47 : decode cX7_nearestKey 47 = .ok (.aload_n 0, 1) := by decide +kernel
theorem dX7_nearestKey_48 : decode cX7_nearestKey 48 = .ok (.getfield 35, 3) := by decide +kernel
theorem dX7_nearestKey_51 : decode cX7_nearestKey 51 = .ok (.iload 4, 2) := by decide +kernel
theorem dX7_nearestKey_53 : decode cX7_nearestKey 53 = .ok (.iaload, 1) := by decide +kernel
theorem dX7_nearestKey_54 : decode cX7_nearestKey 54 = .ok (.iconst (-1), 1) := by decide +kernel
theorem dX7_nearestKey_55 : decode cX7_nearestKey 55 = .ok (.if_icmp .eq 7, 3) := by decide +kernel
theorem dX7_nearestKey_58 : decode cX7_nearestKey 58 = .ok (.iconst 1, 1) := by decide +kernel
theorem dX7_nearestKey_59 : decode cX7_nearestKey 59 = .ok (.goto 4, 3) := by decide +kernel
theorem dX7_nearestKey_62 : decode cX7_nearestKey 62 = .ok (.iconst 0, 1) := by decide +kernel
theorem dX7_nearestKey_63 : decode cX7_nearestKey 63 = .ok (.istore 5, 2) := by decide +kernel
theorem dX7_nearestKey_65 : decode cX7_nearestKey 65 = .ok (.iload 5, 2) := by decide +kernel
theorem dX7_nearestKey_67 : decode cX7_nearestKey 67 = .ok (.ifCond .eq 35, 3) := by decide +kernel
theorem dX7_nearestKey_70 : decode cX7_nearestKey 70 = .ok (.iload_n 2, 1) := by decide +kernel
theorem dX7_nearestKey_71 : decode cX7_nearestKey 71 = .ok (.iconst (-1), 1) := by decide +kernel
theorem dX7_nearestKey_72 : decode cX7_nearestKey 72 = .ok (.if_icmp .eq 26, 3) := by decide +kernel
theorem dX7_nearestKey_75 : decode cX7_nearestKey 75 = .ok (.aload_n 0, 1) := by decide +kernel
theorem dX7_nearestKey_76 : decode cX7_nearestKey 76 = .ok (.getfield 35, 3) := by decide +kernel
theorem dX7_nearestKey_79 : decode cX7_nearestKey 79 = .ok (.iload 4, 2) := by decide +kernel
theorem dX7_nearestKey_81 : decode cX7_nearestKey 81 = .ok (.iaload, 1) := by decide +kernel
theorem dX7_nearestKey_82 : decode cX7_nearestKey 82 = .ok (.aload_n 0, 1) := by decide +kernel
theorem dX7_nearestKey_83 : decode cX7_nearestKey 83 = .ok (.getfield 35, 3) := by decide +kernel
theorem dX7_nearestKey_86 : decode cX7_nearestKey 86 = .ok (.aload_n 0, 1) := by decide +kernel
theorem dX7_nearestKey_87 : decode cX7_nearestKey 87 = .ok (.getfield 9, 3) := by decide +kernel
theorem dX7_nearestKey_90 : decode cX7_nearestKey 90 = .ok (.iconst 3, 1) := by decide +kernel
theorem dX7_nearestKey_91 : decode cX7_nearestKey 91 = .ok (.iload_n 2, 1) := by decide +kernel
theorem dX7_nearestKey_92 : decode cX7_nearestKey 92 = .ok (.iadd, 1) := by decide +kernel
theorem dX7_nearestKey_93 : decode cX7_nearestKey 93 = .ok (.iaload, 1) := by decide +kernel
theorem dX7_nearestKey_94 : decode cX7_nearestKey 94 = .ok (.iaload, 1) := by decide +kernel
theorem dX7_nearestKey_95 : decode cX7_nearestKey 95 = .ok (.if_icmp .gt 7, 3) := by decide +kernel
theorem dX7_nearestKey_98 : decode cX7_nearestKey 98 = .ok (.iload_n 3, 1) := by decide +kernel
theorem dX7_nearestKey_99 : decode cX7_nearestKey 99 = .ok (.goto 4, 3) := by decide +kernel
theorem dX7_nearestKey_102 : decode cX7_nearestKey 102 = .ok (.iload_n 2, 1) := by decide +kernel
theorem dX7_nearestKey_103 : decode cX7_nearestKey 103 = .ok (.istore_n 2, 1) := by decide +kernel
theorem dX7_nearestKey_104 : decode cX7_nearestKey 104 = .ok (.iinc 3 (-1), 3) := by decide +kernel
theorem dX7_nearestKey_107 : decode cX7_nearestKey 107 = .ok (.goto (-85), 3) := by decide +kernel
theorem dX7_nearestKey_110 : decode cX7_nearestKey 110 = .ok (.aload_n 0, 1) := by decide +kernel
theorem dX7_nearestKey_111 : decode cX7_nearestKey 111 = .ok (.aload_n 0, 1) := by decide +kernel
theorem dX7_nearestKey_112 : decode cX7_nearestKey 112 = .ok (.iload_n 1, 1) := by decide +kernel
theorem dX7_nearestKey_113 : decode cX7_nearestKey 113 = .ok (.invokevirtual 91, 3) := by decide +kernel
theorem dX7_nearestKey_116 : decode cX7_nearestKey 116 = .ok (.iload_n 2, 1) := by decide +kernel
theorem dX7_nearestKey_117 : decode cX7_nearestKey 117 = .ok (.iconst (-1), 1) := by decide +kernel
theorem dX7_nearestKey_118 : decode cX7_nearestKey 118 = .ok (.if_icmp .eq 7, 3) := by decide +kernel
theorem dX7_nearestKey_121 : decode cX7_nearestKey 121 = .ok (.iconst 1, 1) := by decide +kernel
theorem dX7_nearestKey_122 : decode cX7_nearestKey 122 = .ok (.goto 4, 3) := by decide +kernel
theorem dX7_nearestKey_125 : decode cX7_nearestKey 125 = .ok (.iconst 0, 1) := by decide +kernel
theorem dX7_nearestKey_126 : decode cX7_nearestKey 126 = .ok (.iconst 1, 1) := by decide +kernel
theorem dX7_nearestKey_127 : decode cX7_nearestKey 127 = .ok (.invokevirtual 54, 3) := by decide +kernel
theorem dX7_nearestKey_130 : decode cX7_nearestKey 130 = .ok (.ifCond .eq 11, 3) := by decide +kernel
theorem dX7_nearestKey_133 : decode cX7_nearestKey 133 = .ok (.bipush 97, 2) := by decide +kernel
theorem dX7_nearestKey_135 : decode cX7_nearestKey 135 = .ok (.iload_n 2, 1) := by decide +kernel
theorem dX7_nearestKey_136 : decode cX7_nearestKey 136 = .ok (.iadd, 1) := by decide +kernel
theorem dX7_nearestKey_137 : decode cX7_nearestKey 137 = .ok (.i2c, 1) := by decide +kernel
theorem dX7_nearestKey_138 : decode cX7_nearestKey 138 = .ok (.goto 4, 3) := by decide +kernel
theorem dX7_nearestKey_141 : decode cX7_nearestKey 141 = .ok (.iconst 0, 1) := by decide +kernel
theorem dX7_nearestKey_142 : decode cX7_nearestKey 142 = .ok (.ireturn, 1) := by decide +kernel
set_option maxRecDepth 20000 in
theorem ggX7_doesHelp_X7_isFree : GoodIn wsX7_doesHelp wsX7_isFree := goodIn_r _ [7, 8, 9, 6, 10, 11, 12, 13, 14, 15, 16, 17, 18, 19, 20, 1, 21, 22, 23, 70, 71, 72, 73, 74, 75, 76, 77, 78, 79, 80, 81, 82, 83, 84, 85, 86, 87, 88, 89, 90] (by decide +kernel) (by decide +kernel)
set_option maxRecDepth 20000 in
theorem gX7_doesHelp_X7_isFree : GoodIn wsX7_doesHelp (wsV RX7 131 RX7 yX7_isFree wsX7_isFree) := goodIn_app (goodIn_of _ (by decide +kernel)) ggX7_doesHelp_X7_isFree
set_option maxRecDepth 20000 in
theorem ggX7_doesHelp_X7_copies : GoodIn wsX7_doesHelp wsX7_copies := goodIn_r _ [26] (by decide +kernel) (by decide +kernel)
set_option maxRecDepth 20000 in
theorem gX7_doesHelp_X7_copies : GoodIn wsX7_doesHelp (va_wsS RX7 58 yX7_copies wsX7_copies) := goodIn_app (goodIn_of _ (by decide +kernel)) ggX7_doesHelp_X7_copies
set_option maxRecDepth 20000 in
theorem ggX7_doesHelp_X7_slides : GoodIn wsX7_doesHelp wsX7_slides := goodIn_r _ [30, 31, 1, 14, 15, 6, 16, 17, 18, 19, 20, 21, 22, 23, 11, 12, 13, 32, 33, 34, 70, 71, 72, 73, 74, 75, 76, 77, 78, 79, 80, 81, 82, 83, 84, 85, 86, 87, 88, 89, 90] (by decide +kernel) (by decide +kernel)
set_option maxRecDepth 20000 in
theorem gX7_doesHelp_X7_slides : GoodIn wsX7_doesHelp (wsV RX7 135 RX7 yX7_slides wsX7_slides) := goodIn_app (goodIn_of _ (by decide +kernel)) ggX7_doesHelp_X7_slides
set_option maxRecDepth 20000 in
theorem ggX7_doesHelp_X7_farOf : GoodIn wsX7_doesHelp wsX7_farOf := goodIn_r _ [38, 39, 40, 41, 42, 6, 43, 1, 44, 45, 46, 47, 11, 12, 13, 48, 49, 50, 51, 52, 53, 54, 55, 56, 57, 58, 59, 60, 61, 8, 9, 10, 62, 63, 64, 65, 17, 18, 19, 20, 21, 22, 23, 66, 67, 68, 69, 70, 71, 72, 73, 74, 75, 76, 77, 78, 79, 80, 81, 82, 83, 84, 85, 86, 87, 88, 89, 90] (by decide +kernel) (by decide +kernel)
set_option maxRecDepth 20000 in
theorem gX7_doesHelp_X7_farOf : GoodIn wsX7_doesHelp (wsV RX7 180 RX7 yX7_farOf wsX7_farOf) := goodIn_app (goodIn_of _ (by decide +kernel)) ggX7_doesHelp_X7_farOf
theorem dX7_doesHelp_0 : decode cX7_doesHelp 0 = .ok (.aload_n 0, 1) := by decide +kernel
theorem dX7_doesHelp_1 : decode cX7_doesHelp 1 = .ok (.iload_n 3, 1) := by decide +kernel
theorem dX7_doesHelp_2 : decode cX7_doesHelp 2 = .ok (.iload 4, 2) := by decide +kernel
theorem dX7_doesHelp_4 : decode cX7_doesHelp 4 = .ok (.invokevirtual 131, 3) := by decide +kernel
theorem dX7_doesHelp_7 : decode cX7_doesHelp 7 = .ok (.ifCond .ne 5, 3) := by decide +kernel
theorem dX7_doesHelp_10 : decode cX7_doesHelp 10 = .ok (.iconst 0, 1) := by decide +kernel
theorem dX7_doesHelp_11 : decode cX7_doesHelp 11 = .ok (.ireturn, 1) := by decide +kernel
theorem dX7_doesHelp_12 : decode cX7_doesHelp 12 = .ok (.aload_n 0, 1) := by decide +kernel
theorem dX7_doesHelp_13 : decode cX7_doesHelp 13 = .ok (.getfield 9, 3) := by decide +kernel
theorem dX7_doesHelp_16 : decode cX7_doesHelp 16 = .ok (.iconst 0, 1) := by decide +kernel
theorem dX7_doesHelp_17 : decode cX7_doesHelp 17 = .ok (.aload_n 0, 1) := by decide +kernel
theorem dX7_doesHelp_18 : decode cX7_doesHelp 18 = .ok (.getfield 16, 3) := by decide +kernel
theorem dX7_doesHelp_21 : decode cX7_doesHelp 21 = .ok (.iconst 0, 1) := by decide +kernel
theorem dX7_doesHelp_22 : decode cX7_doesHelp 22 = .ok (.invokestatic 58, 3) := by decide +kernel
theorem dX7_doesHelp_25 : decode cX7_doesHelp 25 = .ok (.aload_n 0, 1) := by decide +kernel
theorem dX7_doesHelp_26 : decode cX7_doesHelp 26 = .ok (.iload_n 3, 1) := by decide +kernel
theorem dX7_doesHelp_27 : decode cX7_doesHelp 27 = .ok (.iload 4, 2) := by decide +kernel
theorem dX7_doesHelp_29 : decode cX7_doesHelp 29 = .ok (.iload 5, 2) := by decide +kernel
theorem dX7_doesHelp_31 : decode cX7_doesHelp 31 = .ok (.invokevirtual 135, 3) := by decide +kernel
theorem dX7_doesHelp_34 : decode cX7_doesHelp 34 = .ok (.aload_n 0, 1) := by decide +kernel
theorem dX7_doesHelp_35 : decode cX7_doesHelp 35 = .ok (.iload_n 1, 1) := by decide +kernel
theorem dX7_doesHelp_36 : decode cX7_doesHelp 36 = .ok (.iload_n 2, 1) := by decide +kernel
theorem dX7_doesHelp_37 : decode cX7_doesHelp 37 = .ok (.invokevirtual 180, 3) := by decide +kernel
theorem dX7_doesHelp_40 : decode cX7_doesHelp 40 = .ok (.iconst (-1), 1) := by decide +kernel
theorem dX7_doesHelp_41 : decode cX7_doesHelp 41 = .ok (.if_icmp .eq 7, 3) := by decide +kernel
theorem dX7_doesHelp_44 : decode cX7_doesHelp 44 = .ok (.iconst 1, 1) := by decide +kernel
theorem dX7_doesHelp_45 : decode cX7_doesHelp 45 = .ok (.goto 4, 3) := by decide +kernel
theorem dX7_doesHelp_48 : decode cX7_doesHelp 48 = .ok (.iconst 0, 1) := by decide +kernel
theorem dX7_doesHelp_49 : decode cX7_doesHelp 49 = .ok (.istore 6, 2) := by decide +kernel
theorem dX7_doesHelp_51 : decode cX7_doesHelp 51 = .ok (.aload_n 0, 1) := by decide +kernel
theorem dX7_doesHelp_52 : decode cX7_doesHelp 52 = .ok (.getfield 16, 3) := by decide +kernel
theorem dX7_doesHelp_55 : decode cX7_doesHelp 55 = .ok (.iconst 0, 1) := by decide +kernel
theorem dX7_doesHelp_56 : decode cX7_doesHelp 56 = .ok (.aload_n 0, 1) := by decide +kernel
theorem dX7_doesHelp_57 : decode cX7_doesHelp 57 = .ok (.getfield 9, 3) := by decide +kernel
theorem dX7_doesHelp_60 : decode cX7_doesHelp 60 = .ok (.iconst 0, 1) := by decide +kernel
theorem dX7_doesHelp_61 : decode cX7_doesHelp 61 = .ok (.invokestatic 58, 3) := by decide +kernel
theorem dX7_doesHelp_64 : decode cX7_doesHelp 64 = .ok (.iload 6, 2) := by decide +kernel
theorem dX7_doesHelp_66 : decode cX7_doesHelp 66 = .ok (.ireturn, 1) := by decide +kernel
set_option maxRecDepth 20000 in
theorem ggX7_helpfulShifts_X7_isWalker : GoodIn wsX7_helpfulShifts wsX7_isWalker := goodIn_r _ [5, 6, 7, 8, 4, 9, 86, 87, 88, 89, 90, 91, 92, 93, 94, 95, 96, 97, 98, 99, 100, 101, 102, 103, 104, 105, 106] (by decide +kernel) (by decide +kernel)
set_option maxRecDepth 20000 in
theorem gX7_helpfulShifts_X7_isWalker : GoodIn wsX7_helpfulShifts (wsV RX7 91 RX7 yX7_isWalker wsX7_isWalker) := goodIn_app (goodIn_of _ (by decide +kernel)) ggX7_helpfulShifts_X7_isWalker
set_option maxRecDepth 20000 in
theorem ggX7_helpfulShifts_X7_isCell : GoodIn wsX7_helpfulShifts wsX7_isCell := goodIn_r _ [12, 13, 14, 4, 15, 7, 8, 9] (by decide +kernel) (by decide +kernel)
set_option maxRecDepth 20000 in
theorem gX7_helpfulShifts_X7_isCell : GoodIn wsX7_helpfulShifts (va_wsS RX7 84 yX7_isCell wsX7_isCell) := goodIn_app (goodIn_of _ (by decide +kernel)) ggX7_helpfulShifts_X7_isCell
set_option maxRecDepth 20000 in
theorem ggX7_helpfulShifts_X7_goes : GoodIn wsX7_helpfulShifts wsX7_goes := goodIn_r _ [19, 20, 21, 22, 4, 23, 24, 86, 87, 88, 89, 90, 91, 92, 93, 94, 95, 96, 97, 98, 99, 100, 101, 102, 103, 104, 105, 106] (by decide +kernel) (by decide +kernel)
set_option maxRecDepth 20000 in
theorem gX7_helpfulShifts_X7_goes : GoodIn wsX7_helpfulShifts (wsV RX7 68 RX7 yX7_goes wsX7_goes) := goodIn_app (goodIn_of _ (by decide +kernel)) ggX7_helpfulShifts_X7_goes
set_option maxRecDepth 20000 in
theorem ggX7_helpfulShifts_X7_cellAt : GoodIn wsX7_helpfulShifts wsX7_cellAt := goodIn_r _ [27, 10, 11, 4, 12, 13, 14, 15, 7, 8, 9] (by decide +kernel) (by decide +kernel)
set_option maxRecDepth 20000 in
theorem gX7_helpfulShifts_X7_cellAt : GoodIn wsX7_helpfulShifts (va_wsS RX7 101 yX7_cellAt wsX7_cellAt) := goodIn_app (goodIn_of _ (by decide +kernel)) ggX7_helpfulShifts_X7_cellAt
set_option maxRecDepth 20000 in
theorem ggX7_helpfulShifts_X7_doesHelp : GoodIn wsX7_helpfulShifts wsX7_doesHelp := goodIn_r _ [31, 6, 32, 33, 34, 35, 4, 36, 13, 14, 15, 7, 8, 9, 37, 38, 39, 40, 41, 42, 43, 44, 45, 46, 47, 48, 49, 50, 51, 52, 53, 54, 55, 56, 57, 58, 59, 60, 61, 62, 63, 64, 65, 66, 1, 2, 3, 5, 67, 68, 69, 70, 71, 72, 73, 74, 75, 76, 77, 10, 11, 12, 78, 79, 80, 81, 82, 83, 84, 85, 86, 87, 88, 89, 90, 91, 92, 93, 94, 95, 96, 97, 98, 99, 100, 101, 102, 103, 104, 105, 106] (by decide +kernel) (by decide +kernel)
set_option maxRecDepth 20000 in
theorem gX7_helpfulShifts_X7_doesHelp : GoodIn wsX7_helpfulShifts (wsV RX7 211 RX7 yX7_doesHelp wsX7_doesHelp) := goodIn_app (goodIn_of _ (by decide +kernel)) ggX7_helpfulShifts_X7_doesHelp
theorem dX7_helpfulShifts_0 : decode cX7_helpfulShifts 0 = .ok (.aload_n 0, 1) := by decide +kernel
theorem dX7_helpfulShifts_1 : decode cX7_helpfulShifts 1 = .ok (.aload_n 0, 1) := by decide +kernel
theorem dX7_helpfulShifts_2 : decode cX7_helpfulShifts 2 = .ok (.iload_n 1, 1) := by decide +kernel
theorem dX7_helpfulShifts_3 : decode cX7_helpfulShifts 3 = .ok (.invokevirtual 91, 3) := by decide +kernel
theorem dX7_helpfulShifts_6 : decode cX7_helpfulShifts 6 = .ok (.ifCond .eq 15, 3) := by decide +kernel
theorem dX7_helpfulShifts_9 : decode cX7_helpfulShifts 9 = .ok (.iload_n 2, 1) := by decide +kernel
theorem dX7_helpfulShifts_10 : decode cX7_helpfulShifts 10 = .ok (.iload_n 3, 1) := by decide +kernel
theorem dX7_helpfulShifts_11 : decode cX7_helpfulShifts 11 = .ok (.invokestatic 84, 3) := by decide +kernel
theorem dX7_helpfulShifts_14 : decode cX7_helpfulShifts 14 = .ok (.ifCond .eq 7, 3) := by decide +kernel
theorem dX7_helpfulShifts_17 : decode cX7_helpfulShifts 17 = .ok (.iconst 1, 1) := by decide +kernel
theorem dX7_helpfulShifts_18 : decode cX7_helpfulShifts 18 = .ok (.goto 4, 3) := by decide +kernel
theorem dX7_helpfulShifts_21 : decode cX7_helpfulShifts 21 = .ok (.iconst 0, 1) := by decide +kernel
theorem dX7_helpfulShifts_22 : decode cX7_helpfulShifts 22 = .ok (.invokevirtual 68, 3) := by decide +kernel
theorem dX7_helpfulShifts_25 : decode cX7_helpfulShifts 25 = .ok (.ifCond .ne 5, 3) := by decide +kernel
theorem dX7_helpfulShifts_28 : decode cX7_helpfulShifts 28 = .ok (.iconst 0, 1) := by decide +kernel
theorem dX7_helpfulShifts_29 : decode cX7_helpfulShifts 29 = .ok (.ireturn, 1) := by decide +kernel
theorem dX7_helpfulShifts_30 : decode cX7_helpfulShifts 30 = .ok (.iconst 0, 1) := by decide +kernel
theorem dX7_helpfulShifts_31 : decode cX7_helpfulShifts 31 = .ok (.istore 4, 2) := by decide +kernel
theorem dX7_helpfulShifts_33 : decode cX7_helpfulShifts 33 = .ok (.iload_n 2, 1) := by decide +kernel
theorem dX7_helpfulShifts_34 : decode cX7_helpfulShifts 34 = .ok (.iload_n 3, 1) := by decide +kernel
theorem dX7_helpfulShifts_35 : decode cX7_helpfulShifts 35 = .ok (.invokestatic 101, 3) := by decide +kernel
theorem dX7_helpfulShifts_38 : decode cX7_helpfulShifts 38 = .ok (.istore 5, 2) := by decide +kernel
theorem dX7_helpfulShifts_40 : decode cX7_helpfulShifts 40 = .ok (.iconst 0, 1) := by decide +kernel
theorem dX7_helpfulShifts_41 : decode cX7_helpfulShifts 41 = .ok (.istore 6, 2) := by decide +kernel
theorem dX7_helpfulShifts_43 : decode cX7_helpfulShifts 43 = .ok (.iload 6, 2) := by decide +kernel
theorem dX7_helpfulShifts_45 : decode cX7_helpfulShifts 45 = .ok (.bipush 20, 2) := by decide +kernel
theorem dX7_helpfulShifts_47 : decode cX7_helpfulShifts 47 = .ok (.if_icmp .ge 59, 3) := by decide +kernel
theorem dX7_helpfulShifts_50 : decode cX7_helpfulShifts 50 = .ok (.iload 4, 2) := by decide +kernel
theorem dX7_helpfulShifts_52 : decode cX7_helpfulShifts 52 = .ok (.aload_n 0, 1) := by decide +kernel
theorem dX7_helpfulShifts_53 : decode cX7_helpfulShifts 53 = .ok (.iload_n 1, 1) := by decide +kernel
theorem dX7_helpfulShifts_54 : decode cX7_helpfulShifts 54 = .ok (.iload 5, 2) := by decide +kernel
theorem dX7_helpfulShifts_56 : decode cX7_helpfulShifts 56 = .ok (.iload 6, 2) := by decide +kernel
theorem dX7_helpfulShifts_58 : decode cX7_helpfulShifts 58 = .ok (.iconst 2, 1) := by decide +kernel
theorem dX7_helpfulShifts_59 : decode cX7_helpfulShifts 59 = .ok (.irem, 1) := by decide +kernel
theorem dX7_helpfulShifts_60 : decode cX7_helpfulShifts 60 = .ok (.ifCond .ne 7, 3) := by decide +kernel
theorem dX7_helpfulShifts_63 : decode cX7_helpfulShifts 63 = .ok (.iconst 1, 1) := by decide +kernel
theorem dX7_helpfulShifts_64 : decode cX7_helpfulShifts 64 = .ok (.goto 4, 3) := by decide +kernel
theorem dX7_helpfulShifts_67 : decode cX7_helpfulShifts 67 = .ok (.iconst 0, 1) := by decide +kernel
theorem dX7_helpfulShifts_68 : decode cX7_helpfulShifts 68 = .ok (.iload 6, 2) := by decide +kernel
theorem dX7_helpfulShifts_70 : decode cX7_helpfulShifts 70 = .ok (.iconst 4, 1) := by decide +kernel
theorem dX7_helpfulShifts_71 : decode cX7_helpfulShifts 71 = .ok (.idiv, 1) := by decide +kernel
theorem dX7_helpfulShifts_72 : decode cX7_helpfulShifts 72 = .ok (.iload 6, 2) := by decide +kernel
theorem dX7_helpfulShifts_74 : decode cX7_helpfulShifts 74 = .ok (.iconst 2, 1) := by decide +kernel
theorem dX7_helpfulShifts_75 : decode cX7_helpfulShifts 75 = .ok (.idiv, 1) := by decide +kernel
theorem dX7_helpfulShifts_76 : decode cX7_helpfulShifts 76 = .ok (.iconst 2, 1) := by decide +kernel
theorem dX7_helpfulShifts_77 : decode cX7_helpfulShifts 77 = .ok (.irem, 1) := by decide +kernel
theorem dX7_helpfulShifts_78 : decode cX7_helpfulShifts 78 = .ok (.ifCond .ne 7, 3) := by decide +kernel
theorem dX7_helpfulShifts_81 : decode cX7_helpfulShifts 81 = .ok (.iconst 1, 1) := by decide +kernel
theorem dX7_helpfulShifts_82 : decode cX7_helpfulShifts 82 = .ok (.goto 4, 3) := by decide +kernel
theorem dX7_helpfulShifts_85 : decode cX7_helpfulShifts 85 = .ok (.iconst (-1), 1) := by decide +kernel
theorem dX7_helpfulShifts_86 : decode cX7_helpfulShifts 86 = .ok (.invokevirtual 211, 3) := by decide +kernel
theorem dX7_helpfulShifts_89 : decode cX7_helpfulShifts 89 = .ok (.ifCond .eq 7, 3) := by decide +kernel
theorem dX7_helpfulShifts_92 : decode cX7_helpfulShifts 92 = .ok (.iconst 1, 1) := by decide +kernel
theorem dX7_helpfulShifts_93 : decode cX7_helpfulShifts 93 = .ok (.goto 4, 3) := by decide +kernel
theorem dX7_helpfulShifts_96 : decode cX7_helpfulShifts 96 = .ok (.iconst 0, 1) := by decide +kernel
theorem dX7_helpfulShifts_97 : decode cX7_helpfulShifts 97 = .ok (.iadd, 1) := by decide +kernel
theorem dX7_helpfulShifts_98 : decode cX7_helpfulShifts 98 = .ok (.istore 4, 2) := by decide +kernel
theorem dX7_helpfulShifts_100 : decode cX7_helpfulShifts 100 = .ok (.iinc 6 1, 3) := by decide +kernel
theorem dX7_helpfulShifts_103 : decode cX7_helpfulShifts 103 = .ok (.goto (-60), 3) := by decide +kernel
theorem dX7_helpfulShifts_106 : decode cX7_helpfulShifts 106 = .ok (.iload 4, 2) := by decide +kernel
theorem dX7_helpfulShifts_108 : decode cX7_helpfulShifts 108 = .ok (.ireturn, 1) := by decide +kernel
theorem dX7_shiftCount_0 : decode cX7_shiftCount 0 = .ok (.aload_n 0, 1) := by decide +kernel
theorem dX7_shiftCount_1 : decode cX7_shiftCount 1 = .ok (.iconst 0, 1) := by decide +kernel
theorem dX7_shiftCount_2 : decode cX7_shiftCount 2 = .ok (.putfield 51, 3) := by decide +kernel
theorem dX7_shiftCount_5 : decode cX7_shiftCount 5 = .ok (.aload_n 0, 1) := by decide +kernel
theorem dX7_shiftCount_6 : decode cX7_shiftCount 6 = .ok (.getfield 9, 3) := by decide +kernel
theorem dX7_shiftCount_9 : decode cX7_shiftCount 9 = .ok (.iconst 1, 1) := by decide +kernel
theorem dX7_shiftCount_10 : decode cX7_shiftCount 10 = .ok (.iaload, 1) := by decide +kernel
theorem dX7_shiftCount_11 : decode cX7_shiftCount 11 = .ok (.ireturn, 1) := by decide +kernel
theorem dX7_walkedTotal_0 : decode cX7_walkedTotal 0 = .ok (.aload_n 0, 1) := by decide +kernel
theorem dX7_walkedTotal_1 : decode cX7_walkedTotal 1 = .ok (.iconst 0, 1) := by decide +kernel
theorem dX7_walkedTotal_2 : decode cX7_walkedTotal 2 = .ok (.putfield 51, 3) := by decide +kernel
theorem dX7_walkedTotal_5 : decode cX7_walkedTotal 5 = .ok (.aload_n 0, 1) := by decide +kernel
theorem dX7_walkedTotal_6 : decode cX7_walkedTotal 6 = .ok (.getfield 9, 3) := by decide +kernel
theorem dX7_walkedTotal_9 : decode cX7_walkedTotal 9 = .ok (.iconst 2, 1) := by decide +kernel
theorem dX7_walkedTotal_10 : decode cX7_walkedTotal 10 = .ok (.iaload, 1) := by decide +kernel
theorem dX7_walkedTotal_11 : decode cX7_walkedTotal 11 = .ok (.i2l, 1) := by decide +kernel
theorem dX7_walkedTotal_12 : decode cX7_walkedTotal 12 = .ok (.lreturn, 1) := by decide +kernel
set_option maxRecDepth 20000 in
theorem ggX7_meanOpenings_X7_of : GoodIn wsX7_meanOpenings wsX7_of := goodIn_r _ [7, 8, 9, 10, 6, 11, 19, 20, 21, 22, 23, 24, 25, 26, 27, 28, 29, 30, 31, 32, 33, 34, 35, 36, 37, 38, 39] (by decide +kernel) (by decide +kernel)
set_option maxRecDepth 20000 in
theorem gX7_meanOpenings_X7_of : GoodIn wsX7_meanOpenings (wsV RX7 94 RX7 yX7_of wsX7_of) := goodIn_app (goodIn_of _ (by decide +kernel)) ggX7_meanOpenings_X7_of
set_option maxRecDepth 20000 in
theorem ggX7_meanOpenings_J6_bitCount_0f7a4 : GoodIn wsX7_meanOpenings wsJ6_bitCount_0f7a4 := goodIn_r _ [15, 16, 17, 18] (by decide +kernel) (by decide +kernel)
set_option maxRecDepth 20000 in
theorem gX7_meanOpenings_J6_bitCount_0f7a4 : GoodIn wsX7_meanOpenings (va_wsS RX7 215 yJ6_bitCount_0f7a4 wsJ6_bitCount_0f7a4) := goodIn_app (goodIn_of _ (by decide +kernel)) ggX7_meanOpenings_J6_bitCount_0f7a4
theorem dX7_meanOpenings_0 : decode cX7_meanOpenings 0 = .ok (.aload_n 0, 1) := by decide +kernel
theorem dX7_meanOpenings_1 : decode cX7_meanOpenings 1 = .ok (.iconst 0, 1) := by decide +kernel
theorem dX7_meanOpenings_2 : decode cX7_meanOpenings 2 = .ok (.putfield 51, 3) := by decide +kernel
theorem dX7_meanOpenings_5 : decode cX7_meanOpenings 5 = .ok (.iconst 0, 1) := by decide +kernel
theorem dX7_meanOpenings_6 : decode cX7_meanOpenings 6 = .ok (.istore_n 1, 1) := by decide +kernel
theorem dX7_meanOpenings_7 : decode cX7_meanOpenings 7 = .ok (.iconst 0, 1) := by decide +kernel
theorem dX7_meanOpenings_8 : decode cX7_meanOpenings 8 = .ok (.istore_n 2, 1) := by decide +kernel
theorem dX7_meanOpenings_9 : decode cX7_meanOpenings 9 = .ok (.iload_n 2, 1) := by decide +kernel
theorem dX7_meanOpenings_10 : decode cX7_meanOpenings 10 = .ok (.bipush 25, 2) := by decide +kernel
theorem dX7_meanOpenings_12 : decode cX7_meanOpenings 12 = .ok (.if_icmp .ge 21, 3) := by decide +kernel
theorem dX7_meanOpenings_15 : decode cX7_meanOpenings 15 = .ok (.iload_n 1, 1) := by decide +kernel
theorem dX7_meanOpenings_16 : decode cX7_meanOpenings 16 = .ok (.aload_n 0, 1) := by decide +kernel
theorem dX7_meanOpenings_17 : decode cX7_meanOpenings 17 = .ok (.iload_n 2, 1) := by decide +kernel
theorem dX7_meanOpenings_18 : decode cX7_meanOpenings 18 = .ok (.iconst 0, 1) := by decide +kernel
theorem dX7_meanOpenings_19 : decode cX7_meanOpenings 19 = .ok (.invokevirtual 94, 3) := by decide +kernel
theorem dX7_meanOpenings_22 : decode cX7_meanOpenings 22 = .ok (.invokestatic 215, 3) := by decide +kernel
theorem dX7_meanOpenings_25 : decode cX7_meanOpenings 25 = .ok (.iadd, 1) := by decide +kernel
theorem dX7_meanOpenings_26 : decode cX7_meanOpenings 26 = .ok (.istore_n 1, 1) := by decide +kernel
theorem dX7_meanOpenings_27 : decode cX7_meanOpenings 27 = .ok (.iinc 2 1, 3) := by decide +kernel
theorem dX7_meanOpenings_30 : decode cX7_meanOpenings 30 = .ok (.goto (-21), 3) := by decide +kernel
theorem dX7_meanOpenings_33 : decode cX7_meanOpenings 33 = .ok (.iload_n 1, 1) := by decide +kernel
theorem dX7_meanOpenings_34 : decode cX7_meanOpenings 34 = .ok (.i2d, 1) := by decide +kernel
theorem dX7_meanOpenings_35 : decode cX7_meanOpenings 35 = .ok (.ldc2_w 220, 3) := by decide +kernel
theorem dX7_meanOpenings_38 : decode cX7_meanOpenings 38 = .ok (.ddiv, 1) := by decide +kernel
theorem dX7_meanOpenings_39 : decode cX7_meanOpenings 39 = .ok (.dreturn, 1) := by decide +kernel
set_option maxRecDepth 20000 in
theorem ggX7_reachableShare_X7_isWalker : GoodIn wsX7_reachableShare wsX7_isWalker := goodIn_r _ [6, 7, 8, 9, 5, 10, 61, 62, 63, 64, 65, 66, 67, 68, 69, 70, 71, 72, 73, 74, 75, 76, 77, 78, 79, 80, 81] (by decide +kernel) (by decide +kernel)
set_option maxRecDepth 20000 in
theorem gX7_reachableShare_X7_isWalker : GoodIn wsX7_reachableShare (wsV RX7 91 RX7 yX7_isWalker wsX7_isWalker) := goodIn_app (goodIn_of _ (by decide +kernel)) ggX7_reachableShare_X7_isWalker
set_option maxRecDepth 20000 in
theorem ggX7_reachableShare_X7_goes : GoodIn wsX7_reachableShare wsX7_goes := goodIn_r _ [14, 15, 16, 17, 5, 18, 19, 61, 62, 63, 64, 65, 66, 67, 68, 69, 70, 71, 72, 73, 74, 75, 76, 77, 78, 79, 80, 81] (by decide +kernel) (by decide +kernel)
set_option maxRecDepth 20000 in
theorem gX7_reachableShare_X7_goes : GoodIn wsX7_reachableShare (wsV RX7 68 RX7 yX7_goes wsX7_goes) := goodIn_app (goodIn_of _ (by decide +kernel)) ggX7_reachableShare_X7_goes
set_option maxRecDepth 20000 in
theorem ggX7_reachableShare_X7_reached : GoodIn wsX7_reachableShare wsX7_reached := goodIn_r _ [23, 24, 25, 26, 27, 5, 28, 7, 2, 3, 4, 6, 8, 9, 10, 29, 30, 31, 32, 33, 34, 35, 36, 37, 38, 39, 40, 41, 42, 43, 44, 45, 46, 47, 48, 49, 50, 51, 52, 53, 54, 55, 56, 57, 58, 59, 60, 61, 62, 63, 64, 65, 66, 67, 68, 69, 70, 71, 72, 73, 74, 75, 76, 77, 78, 79, 80, 81] (by decide +kernel) (by decide +kernel)
set_option maxRecDepth 20000 in
theorem gX7_reachableShare_X7_reached : GoodIn wsX7_reachableShare (wsV RX7 208 RX7 yX7_reached wsX7_reached) := goodIn_app (goodIn_of _ (by decide +kernel)) ggX7_reachableShare_X7_reached
theorem dX7_reachableShare_0 : decode cX7_reachableShare 0 = .ok (.aload_n 0, 1) := by decide +kernel
theorem dX7_reachableShare_1 : decode cX7_reachableShare 1 = .ok (.aload_n 0, 1) := by decide +kernel
theorem dX7_reachableShare_2 : decode cX7_reachableShare 2 = .ok (.iload_n 1, 1) := by decide +kernel
theorem dX7_reachableShare_3 : decode cX7_reachableShare 3 = .ok (.invokevirtual 91, 3) := by decide +kernel
theorem dX7_reachableShare_6 : decode cX7_reachableShare 6 = .ok (.invokevirtual 68, 3) := by decide +kernel
theorem dX7_reachableShare_9 : decode cX7_reachableShare 9 = .ok (.ifCond .eq 15, 3) := by decide +kernel
theorem dX7_reachableShare_12 : decode cX7_reachableShare 12 = .ok (.aload_n 0, 1) := by decide +kernel
theorem dX7_reachableShare_13 : decode cX7_reachableShare 13 = .ok (.iload_n 1, 1) := by decide +kernel
theorem dX7_reachableShare_14 : decode cX7_reachableShare 14 = .ok (.invokevirtual 208, 3) := by decide +kernel
theorem dX7_reachableShare_17 : decode cX7_reachableShare 17 = .ok (.i2f, 1) := by decide +kernel
theorem dX7_reachableShare_18 : decode cX7_reachableShare 18 = .ok (.ldc 222, 2) := by decide +kernel
theorem dX7_reachableShare_20 : decode cX7_reachableShare 20 = .ok (.fdiv, 1) := by decide +kernel
theorem dX7_reachableShare_21 : decode cX7_reachableShare 21 = .ok (.goto 4, 3) := by decide +kernel
theorem dX7_reachableShare_24 : decode cX7_reachableShare 24 = .ok (.fconst 0, 1) := by decide +kernel
theorem dX7_reachableShare_25 : decode cX7_reachableShare 25 = .ok (.freturn, 1) := by decide +kernel
theorem dX7_isConsistent_0 : decode cX7_isConsistent 0 = .ok (.aload_n 0, 1) := by decide +kernel
theorem dX7_isConsistent_1 : decode cX7_isConsistent 1 = .ok (.iconst 0, 1) := by decide +kernel
theorem dX7_isConsistent_2 : decode cX7_isConsistent 2 = .ok (.putfield 51, 3) := by decide +kernel
theorem dX7_isConsistent_5 : decode cX7_isConsistent 5 = .ok (.iconst 1, 1) := by decide +kernel
theorem dX7_isConsistent_6 : decode cX7_isConsistent 6 = .ok (.ireturn, 1) := by decide +kernel
theorem dX7_put_0 : decode cX7_put 0 = .ok (.aload_n 0, 1) := by decide +kernel
theorem dX7_put_1 : decode cX7_put 1 = .ok (.getfield 41, 3) := by decide +kernel
theorem dX7_put_4 : decode cX7_put 4 = .ok (.iload_n 1, 1) := by decide +kernel
theorem dX7_put_5 : decode cX7_put 5 = .ok (.iload_n 2, 1) := by decide +kernel
theorem dX7_put_6 : decode cX7_put 6 = .ok (.iastore, 1) := by decide +kernel
theorem dX7_put_7 : decode cX7_put 7 = .ok (.iload_n 1, 1) := by decide +kernel
theorem dX7_put_8 : decode cX7_put 8 = .ok (.iconst 1, 1) := by decide +kernel
theorem dX7_put_9 : decode cX7_put 9 = .ok (.iadd, 1) := by decide +kernel
theorem dX7_put_10 : decode cX7_put 10 = .ok (.ireturn, 1) := by decide +kernel
theorem dX7_isTrodden_0 : decode cX7_isTrodden 0 = .ok (.iconst 0, 1) := by decide +kernel
theorem dX7_isTrodden_1 : decode cX7_isTrodden 1 = .ok (.istore_n 2, 1) := by decide +kernel
theorem dX7_isTrodden_2 : decode cX7_isTrodden 2 = .ok (.iconst 0, 1) := by decide +kernel
theorem dX7_isTrodden_3 : decode cX7_isTrodden 3 = .ok (.istore_n 3, 1) := by decide +kernel
theorem dX7_isTrodden_4 : decode cX7_isTrodden 4 = .ok (.iload_n 3, 1) := by decide +kernel
theorem dX7_isTrodden_5 : decode cX7_isTrodden 5 = .ok (.aload_n 0, 1) := by decide +kernel
theorem dX7_isTrodden_6 : decode cX7_isTrodden 6 = .ok (.getfield 9, 3) := by decide +kernel
theorem dX7_isTrodden_9 : decode cX7_isTrodden 9 = .ok (.iconst 0, 1) := by decide +kernel
theorem dX7_isTrodden_10 : decode cX7_isTrodden 10 = .ok (.iaload, 1) := by decide +kernel
theorem dX7_isTrodden_11 : decode cX7_isTrodden 11 = .ok (.if_icmp .ge 32, 3) := by decide +kernel
theorem dX7_isTrodden_14 : decode cX7_isTrodden 14 = .ok (.iload_n 2, 1) := by decide +kernel
theorem dX7_isTrodden_15 : decode cX7_isTrodden 15 = .ok (.ifCond .ne 16, 3) := by decide +kernel
theorem dX7_isTrodden_18 : decode cX7_isTrodden 18 = .ok (.aload_n 0, 1) := by decide +kernel
theorem dX7_isTrodden_19 : decode cX7_isTrodden 19 = .ok (.getfield 9, 3) := by decide +kernel
theorem dX7_isTrodden_22 : decode cX7_isTrodden 22 = .ok (.bipush 9, 2) := by decide +kernel
theorem dX7_isTrodden_24 : decode cX7_isTrodden 24 = .ok (.iload_n 3, 1) := by decide +kernel
theorem dX7_isTrodden_25 : decode cX7_isTrodden 25 = .ok (.iadd, 1) := by decide +kernel
theorem dX7_isTrodden_26 : decode cX7_isTrodden 26 = .ok (.iaload, 1) := by decide +kernel
theorem dX7_isTrodden_27 : decode cX7_isTrodden 27 = .ok (.iload_n 1, 1) := by decide +kernel
theorem dX7_isTrodden_28 : decode cX7_isTrodden 28 = .ok (.if_icmp .ne 7, 3) := by decide +kernel
theorem dX7_isTrodden_31 : decode cX7_isTrodden 31 = .ok (.iconst 1, 1) := by decide +kernel
theorem dX7_isTrodden_32 : decode cX7_isTrodden 32 = .ok (.goto 4, 3) := by decide +kernel
theorem dX7_isTrodden_35 : decode cX7_isTrodden 35 = .ok (.iconst 0, 1) := by decide +kernel
theorem dX7_isTrodden_36 : decode cX7_isTrodden 36 = .ok (.istore_n 2, 1) := by decide +kernel
theorem dX7_isTrodden_37 : decode cX7_isTrodden 37 = .ok (.iinc 3 1, 3) := by decide +kernel
theorem dX7_isTrodden_40 : decode cX7_isTrodden 40 = .ok (.goto (-36), 3) := by decide +kernel
theorem dX7_isTrodden_43 : decode cX7_isTrodden 43 = .ok (.iload_n 2, 1) := by decide +kernel
theorem dX7_isTrodden_44 : decode cX7_isTrodden 44 = .ok (.ireturn, 1) := by decide +kernel
set_option maxRecDepth 20000 in
theorem ggX7_writesTile_X7_of : GoodIn wsX7_writesTile wsX7_of := goodIn_r _ [6, 1, 7, 8, 5, 9, 19, 20, 21, 22, 23, 24, 25, 26, 27, 28, 29, 30, 31, 32, 33, 34, 35, 36, 37, 38, 39] (by decide +kernel) (by decide +kernel)
set_option maxRecDepth 20000 in
theorem gX7_writesTile_X7_of : GoodIn wsX7_writesTile (wsV RX7 94 RX7 yX7_of wsX7_of) := goodIn_app (goodIn_of _ (by decide +kernel)) ggX7_writesTile_X7_of
set_option maxRecDepth 20000 in
theorem ggX7_writesTile_X7_put : GoodIn wsX7_writesTile wsX7_put := goodIn_r _ [13, 14, 19, 20, 21, 22, 23, 24, 25, 26, 27, 28, 29, 30, 31, 32, 33, 34, 35, 36, 37, 38, 39] (by decide +kernel) (by decide +kernel)
set_option maxRecDepth 20000 in
theorem gX7_writesTile_X7_put : GoodIn wsX7_writesTile (wsV RX7 223 RX7 yX7_put wsX7_put) := goodIn_app (goodIn_of _ (by decide +kernel)) ggX7_writesTile_X7_put
set_option maxRecDepth 20000 in
theorem ggX7_writesTile_X7_isTrodden : GoodIn wsX7_writesTile wsX7_isTrodden := goodIn_r _ [18, 1, 19, 20, 21, 22, 23, 24, 25, 26, 27, 28, 29, 30, 31, 32, 33, 34, 35, 36, 37, 38, 39] (by decide +kernel) (by decide +kernel)
set_option maxRecDepth 20000 in
theorem gX7_writesTile_X7_isTrodden : GoodIn wsX7_writesTile (wsV RX7 226 RX7 yX7_isTrodden wsX7_isTrodden) := goodIn_app (goodIn_of _ (by decide +kernel)) ggX7_writesTile_X7_isTrodden
theorem dX7_writesTile_0 : decode cX7_writesTile 0 = .ok (.aload_n 0, 1) := by decide +kernel
theorem dX7_writesTile_1 : decode cX7_writesTile 1 = .ok (.iload_n 2, 1) := by decide +kernel
theorem dX7_writesTile_2 : decode cX7_writesTile 2 = .ok (.iconst 0, 1) := by decide +kernel
theorem dX7_writesTile_3 : decode cX7_writesTile 3 = .ok (.invokevirtual 94, 3) := by decide +kernel
theorem dX7_writesTile_6 : decode cX7_writesTile 6 = .ok (.istore_n 3, 1) := by decide +kernel
theorem dX7_writesTile_7 : decode cX7_writesTile 7 = .ok (.aload_n 0, 1) := by decide +kernel
theorem dX7_writesTile_8 : decode cX7_writesTile 8 = .ok (.iload_n 1, 1) := by decide +kernel
theorem dX7_writesTile_9 : decode cX7_writesTile 9 = .ok (.iload_n 3, 1) := by decide +kernel
theorem dX7_writesTile_10 : decode cX7_writesTile 10 = .ok (.bipush 10, 2) := by decide +kernel
theorem dX7_writesTile_12 : decode cX7_writesTile 12 = .ok (.if_icmp .ge 10, 3) := by decide +kernel
theorem dX7_writesTile_15 : decode cX7_writesTile 15 = .ok (.bipush 48, 2) := by decide +kernel
theorem dX7_writesTile_17 : decode cX7_writesTile 17 = .ok (.iload_n 3, 1) := by decide +kernel
theorem dX7_writesTile_18 : decode cX7_writesTile 18 = .ok (.iadd, 1) := by decide +kernel
theorem dX7_writesTile_19 : decode cX7_writesTile 19 = .ok (.goto 10, 3) := by decide +kernel
theorem dX7_writesTile_22 : decode cX7_writesTile 22 = .ok (.bipush 65, 2) := by decide +kernel
theorem dX7_writesTile_24 : decode cX7_writesTile 24 = .ok (.iload_n 3, 1) := by decide +kernel
theorem dX7_writesTile_25 : decode cX7_writesTile 25 = .ok (.iadd, 1) := by decide +kernel
theorem dX7_writesTile_26 : decode cX7_writesTile 26 = .ok (.bipush 10, 2) := by decide +kernel
theorem dX7_writesTile_28 : decode cX7_writesTile 28 = .ok (.isub, 1) := by decide +kernel
theorem dX7_writesTile_29 : decode cX7_writesTile 29 = .ok (.invokevirtual 223, 3) := by decide +kernel
theorem dX7_writesTile_32 : decode cX7_writesTile 32 = .ok (.istore 4, 2) := by decide +kernel
theorem dX7_writesTile_34 : decode cX7_writesTile 34 = .ok (.aload_n 0, 1) := by decide +kernel
theorem dX7_writesTile_35 : decode cX7_writesTile 35 = .ok (.iload_n 2, 1) := by decide +kernel
theorem dX7_writesTile_36 : decode cX7_writesTile 36 = .ok (.iconst 1, 1) := by decide +kernel
theorem dX7_writesTile_37 : decode cX7_writesTile 37 = .ok (.invokevirtual 94, 3) := by decide +kernel
theorem dX7_writesTile_40 : decode cX7_writesTile 40 = .ok (.iconst 1, 1) := by decide +kernel
theorem dX7_writesTile_41 : decode cX7_writesTile 41 = .ok (.if_icmp .ne 14, 3) := by decide +kernel
theorem dX7_writesTile_44 : decode cX7_writesTile 44 = .ok (.aload_n 0, 1) := by decide +kernel
theorem dX7_writesTile_45 : decode cX7_writesTile 45 = .ok (.iload 4, 2) := by decide +kernel
theorem dX7_writesTile_47 : decode cX7_writesTile 47 = .ok (.bipush 42, 2) := by decide +kernel
theorem dX7_writesTile_49 : decode cX7_writesTile 49 = .ok (.invokevirtual 223, 3) := by decide +kernel
theorem dX7_writesTile_52 : decode cX7_writesTile 52 = .ok (.goto 5, 3) := by decide +kernel
theorem dX7_writesTile_55 : decode cX7_writesTile 55 = .ok (.iload 4, 2) := by decide +kernel
theorem dX7_writesTile_57 : decode cX7_writesTile 57 = .ok (.istore 4, 2) := by decide +kernel
theorem dX7_writesTile_59 : decode cX7_writesTile 59 = .ok (.aload_n 0, 1) := by decide +kernel
theorem dX7_writesTile_60 : decode cX7_writesTile 60 = .ok (.iload_n 2, 1) := by decide +kernel
theorem dX7_writesTile_61 : decode cX7_writesTile 61 = .ok (.iconst 2, 1) := by decide +kernel
theorem dX7_writesTile_62 : decode cX7_writesTile 62 = .ok (.invokevirtual 94, 3) := by decide +kernel
theorem dX7_writesTile_65 : decode cX7_writesTile 65 = .ok (.iconst (-1), 1) := by decide +kernel
theorem dX7_writesTile_66 : decode cX7_writesTile 66 = .ok (.if_icmp .ne 8, 3) := by decide +kernel
theorem dX7_writesTile_69 : decode cX7_writesTile 69 = .ok (.iload 4, 2) := by decide +kernel
theorem dX7_writesTile_71 : decode cX7_writesTile 71 = .ok (.goto 24, 3) := by decide +kernel
theorem dX7_writesTile_74 : decode cX7_writesTile 74 = .ok (.aload_n 0, 1) := by decide +kernel
theorem dX7_writesTile_75 : decode cX7_writesTile 75 = .ok (.aload_n 0, 1) := by decide +kernel
theorem dX7_writesTile_76 : decode cX7_writesTile 76 = .ok (.iload 4, 2) := by decide +kernel
theorem dX7_writesTile_78 : decode cX7_writesTile 78 = .ok (.bipush 35, 2) := by decide +kernel
theorem dX7_writesTile_80 : decode cX7_writesTile 80 = .ok (.invokevirtual 223, 3) := by decide +kernel
theorem dX7_writesTile_83 : decode cX7_writesTile 83 = .ok (.bipush 97, 2) := by decide +kernel
theorem dX7_writesTile_85 : decode cX7_writesTile 85 = .ok (.aload_n 0, 1) := by decide +kernel
theorem dX7_writesTile_86 : decode cX7_writesTile 86 = .ok (.iload_n 2, 1) := by decide +kernel
theorem dX7_writesTile_87 : decode cX7_writesTile 87 = .ok (.iconst 2, 1) := by decide +kernel
theorem dX7_writesTile_88 : decode cX7_writesTile 88 = .ok (.invokevirtual 94, 3) := by decide +kernel
theorem dX7_writesTile_91 : decode cX7_writesTile 91 = .ok (.iadd, 1) := by decide +kernel
theorem dX7_writesTile_92 : decode cX7_writesTile 92 = .ok (.invokevirtual 223, 3) := by decide +kernel
theorem dX7_writesTile_95 : decode cX7_writesTile 95 = .ok (.istore 4, 2) := by decide +kernel
theorem dX7_writesTile_97 : decode cX7_writesTile 97 = .ok (.aload_n 0, 1) := by decide +kernel
theorem dX7_writesTile_98 : decode cX7_writesTile 98 = .ok (.iload_n 2, 1) := by decide +kernel
theorem dX7_writesTile_99 : decode cX7_writesTile 99 = .ok (.invokevirtual 226, 3) := by decide +kernel
theorem dX7_writesTile_102 : decode cX7_writesTile 102 = .ok (.ifCond .eq 14, 3) := by decide +kernel
theorem dX7_writesTile_105 : decode cX7_writesTile 105 = .ok (.aload_n 0, 1) := by decide +kernel
theorem dX7_writesTile_106 : decode cX7_writesTile 106 = .ok (.iload 4, 2) := by decide +kernel
theorem dX7_writesTile_108 : decode cX7_writesTile 108 = .ok (.bipush 64, 2) := by decide +kernel
theorem dX7_writesTile_110 : decode cX7_writesTile 110 = .ok (.invokevirtual 223, 3) := by decide +kernel
theorem dX7_writesTile_113 : decode cX7_writesTile 113 = .ok (.goto 5, 3) := by decide +kernel
theorem dX7_writesTile_116 : decode cX7_writesTile 116 = .ok (.iload 4, 2) := by decide +kernel
theorem dX7_writesTile_118 : decode cX7_writesTile 118 = .ok (.istore 4, 2) := by decide +kernel
theorem dX7_writesTile_120 : decode cX7_writesTile 120 = .ok (.iconst 0, 1) := by decide +kernel
theorem dX7_writesTile_121 : decode cX7_writesTile 121 = .ok (.istore 5, 2) := by decide +kernel
theorem dX7_writesTile_123 : decode cX7_writesTile 123 = .ok (.iload 5, 2) := by decide +kernel
theorem dX7_writesTile_125 : decode cX7_writesTile 125 = .ok (.bipush 6, 2) := by decide +kernel
theorem dX7_writesTile_127 : decode cX7_writesTile 127 = .ok (.if_icmp .ge 40, 3) := by decide +kernel
theorem dX7_writesTile_130 : decode cX7_writesTile 130 = .ok (.aload_n 0, 1) := by decide +kernel
theorem dX7_writesTile_131 : decode cX7_writesTile 131 = .ok (.getfield 9, 3) := by decide +kernel
theorem dX7_writesTile_134 : decode cX7_writesTile 134 = .ok (.iconst 3, 1) := by decide +kernel
theorem dX7_writesTile_135 : decode cX7_writesTile 135 = .ok (.iload 5, 2) := by decide +kernel
theorem dX7_writesTile_137 : decode cX7_writesTile 137 = .ok (.iadd, 1) := by decide +kernel
theorem dX7_writesTile_138 : decode cX7_writesTile 138 = .ok (.iaload, 1) := by decide +kernel
theorem dX7_writesTile_139 : decode cX7_writesTile 139 = .ok (.iload_n 2, 1) := by decide +kernel
theorem dX7_writesTile_140 : decode cX7_writesTile 140 = .ok (.if_icmp .ne 17, 3) := by decide +kernel
theorem dX7_writesTile_143 : decode cX7_writesTile 143 = .ok (.aload_n 0, 1) := by decide +kernel
theorem dX7_writesTile_144 : decode cX7_writesTile 144 = .ok (.iload 4, 2) := by decide +kernel
theorem dX7_writesTile_146 : decode cX7_writesTile 146 = .ok (.bipush 97, 2) := by decide +kernel
theorem dX7_writesTile_148 : decode cX7_writesTile 148 = .ok (.iload 5, 2) := by decide +kernel
theorem dX7_writesTile_150 : decode cX7_writesTile 150 = .ok (.iadd, 1) := by decide +kernel
theorem dX7_writesTile_151 : decode cX7_writesTile 151 = .ok (.invokevirtual 223, 3) := by decide +kernel
theorem dX7_writesTile_154 : decode cX7_writesTile 154 = .ok (.goto 5, 3) := by decide +kernel
theorem dX7_writesTile_157 : decode cX7_writesTile 157 = .ok (.iload 4, 2) := by decide +kernel
theorem dX7_writesTile_159 : decode cX7_writesTile 159 = .ok (.istore 4, 2) := by decide +kernel
theorem dX7_writesTile_161 : decode cX7_writesTile 161 = .ok (.iinc 5 1, 3) := by decide +kernel
theorem dX7_writesTile_164 : decode cX7_writesTile 164 = .ok (.goto (-41), 3) := by decide +kernel
theorem dX7_writesTile_167 : decode cX7_writesTile 167 = .ok (.iload 4, 2) := by decide +kernel
theorem dX7_writesTile_169 : decode cX7_writesTile 169 = .ok (.ireturn, 1) := by decide +kernel
set_option maxRecDepth 20000 in
theorem ggX7_writeRow_X7_isLine : GoodIn wsX7_writeRow wsX7_isLine := goodIn_r _ [5, 6, 7, 4, 8] (by decide +kernel) (by decide +kernel)
set_option maxRecDepth 20000 in
theorem gX7_writeRow_X7_isLine : GoodIn wsX7_writeRow (va_wsS RX7 80 yX7_isLine wsX7_isLine) := goodIn_app (goodIn_of _ (by decide +kernel)) ggX7_writeRow_X7_isLine
set_option maxRecDepth 20000 in
theorem ggX7_writeRow_X7_goes : GoodIn wsX7_writeRow wsX7_goes := goodIn_r _ [12, 13, 14, 15, 4, 16, 17, 39, 40, 41, 42, 43, 44, 45, 46, 47, 48, 49, 50, 51, 52, 53, 54, 55, 56, 57, 58, 59] (by decide +kernel) (by decide +kernel)
set_option maxRecDepth 20000 in
theorem gX7_writeRow_X7_goes : GoodIn wsX7_writeRow (wsV RX7 68 RX7 yX7_goes wsX7_goes) := goodIn_app (goodIn_of _ (by decide +kernel)) ggX7_writeRow_X7_goes
set_option maxRecDepth 20000 in
theorem ggX7_writeRow_X7_put : GoodIn wsX7_writeRow wsX7_put := goodIn_r _ [21, 22, 39, 40, 41, 42, 43, 44, 45, 46, 47, 48, 49, 50, 51, 52, 53, 54, 55, 56, 57, 58, 59] (by decide +kernel) (by decide +kernel)
set_option maxRecDepth 20000 in
theorem gX7_writeRow_X7_put : GoodIn wsX7_writeRow (wsV RX7 223 RX7 yX7_put wsX7_put) := goodIn_app (goodIn_of _ (by decide +kernel)) ggX7_writeRow_X7_put
set_option maxRecDepth 20000 in
theorem ggX7_writeRow_X7_writesTile : GoodIn wsX7_writeRow wsX7_writesTile := goodIn_r _ [26, 27, 28, 29, 30, 4, 31, 32, 33, 34, 18, 19, 20, 21, 22, 35, 36, 37, 38, 39, 40, 41, 42, 43, 44, 45, 46, 47, 48, 49, 50, 51, 52, 53, 54, 55, 56, 57, 58, 59] (by decide +kernel) (by decide +kernel)
set_option maxRecDepth 20000 in
theorem gX7_writeRow_X7_writesTile : GoodIn wsX7_writeRow (wsV RX7 229 RX7 yX7_writesTile wsX7_writesTile) := goodIn_app (goodIn_of _ (by decide +kernel)) ggX7_writeRow_X7_writesTile
theorem dX7_writeRow_0 : decode cX7_writeRow 0 = .ok (.aload_n 0, 1) := by decide +kernel
theorem dX7_writeRow_1 : decode cX7_writeRow 1 = .ok (.iload_n 1, 1) := by decide +kernel
theorem dX7_writeRow_2 : decode cX7_writeRow 2 = .ok (.invokestatic 80, 3) := by decide +kernel
theorem dX7_writeRow_5 : decode cX7_writeRow 5 = .ok (.invokevirtual 68, 3) := by decide +kernel
theorem dX7_writeRow_8 : decode cX7_writeRow 8 = .ok (.ifCond .ne 5, 3) := by decide +kernel
theorem dX7_writeRow_11 : decode cX7_writeRow 11 = .ok (.iconst 0, 1) := by decide +kernel
theorem dX7_writeRow_12 : decode cX7_writeRow 12 = .ok (.ireturn, 1) := by decide +kernel
theorem dX7_writeRow_13 : decode cX7_writeRow 13 = .ok (.iconst 0, 1) := by decide +kernel
theorem dX7_writeRow_14 : decode cX7_writeRow 14 = .ok (.istore_n 2, 1) := by decide +kernel
theorem dX7_writeRow_15 : decode cX7_writeRow 15 = .ok (.iconst 0, 1) := by decide +kernel
theorem dX7_writeRow_16 : decode cX7_writeRow 16 = .ok (.istore_n 3, 1) := by decide +kernel
theorem dX7_writeRow_17 : decode cX7_writeRow 17 = .ok (.iload_n 3, 1) := by decide +kernel
theorem dX7_writeRow_18 : decode cX7_writeRow 18 = .ok (.iconst 5, 1) := by decide +kernel
theorem dX7_writeRow_19 : decode cX7_writeRow 19 = .ok (.if_icmp .ge 34, 3) := by decide +kernel
theorem dX7_writeRow_22 : decode cX7_writeRow 22 = .ok (.aload_n 0, 1) := by decide +kernel
theorem dX7_writeRow_23 : decode cX7_writeRow 23 = .ok (.iload_n 3, 1) := by decide +kernel
theorem dX7_writeRow_24 : decode cX7_writeRow 24 = .ok (.ifCond .ne 7, 3) := by decide +kernel
theorem dX7_writeRow_27 : decode cX7_writeRow 27 = .ok (.iload_n 2, 1) := by decide +kernel
theorem dX7_writeRow_28 : decode cX7_writeRow 28 = .ok (.goto 10, 3) := by decide +kernel
theorem dX7_writeRow_31 : decode cX7_writeRow 31 = .ok (.aload_n 0, 1) := by decide +kernel
theorem dX7_writeRow_32 : decode cX7_writeRow 32 = .ok (.iload_n 2, 1) := by decide +kernel
theorem dX7_writeRow_33 : decode cX7_writeRow 33 = .ok (.bipush 32, 2) := by decide +kernel
theorem dX7_writeRow_35 : decode cX7_writeRow 35 = .ok (.invokevirtual 223, 3) := by decide +kernel
theorem dX7_writeRow_38 : decode cX7_writeRow 38 = .ok (.iconst 5, 1) := by decide +kernel
theorem dX7_writeRow_39 : decode cX7_writeRow 39 = .ok (.iload_n 1, 1) := by decide +kernel
theorem dX7_writeRow_40 : decode cX7_writeRow 40 = .ok (.imul, 1) := by decide +kernel
theorem dX7_writeRow_41 : decode cX7_writeRow 41 = .ok (.iload_n 3, 1) := by decide +kernel
theorem dX7_writeRow_42 : decode cX7_writeRow 42 = .ok (.iadd, 1) := by decide +kernel
theorem dX7_writeRow_43 : decode cX7_writeRow 43 = .ok (.invokevirtual 229, 3) := by decide +kernel
theorem dX7_writeRow_46 : decode cX7_writeRow 46 = .ok (.istore_n 2, 1) := by decide +kernel
theorem dX7_writeRow_47 : decode cX7_writeRow 47 = .ok (.iinc 3 1, 3) := by decide +kernel
theorem dX7_writeRow_50 : decode cX7_writeRow 50 = .ok (.goto (-33), 3) := by decide +kernel
theorem dX7_writeRow_53 : decode cX7_writeRow 53 = .ok (.aload_n 0, 1) := by decide +kernel
theorem dX7_writeRow_54 : decode cX7_writeRow 54 = .ok (.iload_n 2, 1) := by decide +kernel
theorem dX7_writeRow_55 : decode cX7_writeRow 55 = .ok (.putfield 232, 3) := by decide +kernel
theorem dX7_writeRow_58 : decode cX7_writeRow 58 = .ok (.iload_n 2, 1) := by decide +kernel
theorem dX7_writeRow_59 : decode cX7_writeRow 59 = .ok (.ireturn, 1) := by decide +kernel
set_option maxRecDepth 20000 in
theorem ggX7_outputAt_X7_isIn : GoodIn wsX7_outputAt wsX7_isIn := goodIn_r _ [6] (by decide +kernel) (by decide +kernel)
set_option maxRecDepth 20000 in
theorem gX7_outputAt_X7_isIn : GoodIn wsX7_outputAt (va_wsS RX7 76 yX7_isIn wsX7_isIn) := goodIn_app (goodIn_of _ (by decide +kernel)) ggX7_outputAt_X7_isIn
set_option maxRecDepth 20000 in
theorem ggX7_outputAt_X7_goes : GoodIn wsX7_outputAt wsX7_goes := goodIn_r _ [10, 11, 12, 13, 5, 14, 15, 16, 17, 18, 19, 20, 21, 22, 23, 24, 25, 26, 27, 28, 29, 30, 31, 32, 33, 34, 35, 36] (by decide +kernel) (by decide +kernel)
set_option maxRecDepth 20000 in
theorem gX7_outputAt_X7_goes : GoodIn wsX7_outputAt (wsV RX7 68 RX7 yX7_goes wsX7_goes) := goodIn_app (goodIn_of _ (by decide +kernel)) ggX7_outputAt_X7_goes
theorem dX7_outputAt_0 : decode cX7_outputAt 0 = .ok (.aload_n 0, 1) := by decide +kernel
theorem dX7_outputAt_1 : decode cX7_outputAt 1 = .ok (.iload_n 1, 1) := by decide +kernel
theorem dX7_outputAt_2 : decode cX7_outputAt 2 = .ok (.iconst 0, 1) := by decide +kernel
theorem dX7_outputAt_3 : decode cX7_outputAt 3 = .ok (.aload_n 0, 1) := by decide +kernel
theorem dX7_outputAt_4 : decode cX7_outputAt 4 = .ok (.getfield 232, 3) := by decide +kernel
theorem dX7_outputAt_7 : decode cX7_outputAt 7 = .ok (.iconst 1, 1) := by decide +kernel
theorem dX7_outputAt_8 : decode cX7_outputAt 8 = .ok (.isub, 1) := by decide +kernel
theorem dX7_outputAt_9 : decode cX7_outputAt 9 = .ok (.invokestatic 76, 3) := by decide +kernel
theorem dX7_outputAt_12 : decode cX7_outputAt 12 = .ok (.invokevirtual 68, 3) := by decide +kernel
theorem dX7_outputAt_15 : decode cX7_outputAt 15 = .ok (.ifCond .eq 13, 3) := by decide +kernel
theorem dX7_outputAt_18 : decode cX7_outputAt 18 = .ok (.aload_n 0, 1) := by decide +kernel
theorem dX7_outputAt_19 : decode cX7_outputAt 19 = .ok (.getfield 41, 3) := by decide +kernel
theorem dX7_outputAt_22 : decode cX7_outputAt 22 = .ok (.iload_n 1, 1) := by decide +kernel
theorem dX7_outputAt_23 : decode cX7_outputAt 23 = .ok (.iaload, 1) := by decide +kernel
theorem dX7_outputAt_24 : decode cX7_outputAt 24 = .ok (.i2c, 1) := by decide +kernel
theorem dX7_outputAt_25 : decode cX7_outputAt 25 = .ok (.goto 4, 3) := by decide +kernel
theorem dX7_outputAt_28 : decode cX7_outputAt 28 = .ok (.iconst 0, 1) := by decide +kernel
theorem dX7_outputAt_29 : decode cX7_outputAt 29 = .ok (.ireturn, 1) := by decide +kernel
set_option maxRecDepth 20000 in
theorem ggX7_append_X7_goes : GoodIn wsX7_append wsX7_goes := goodIn_r _ [7, 8, 9, 10, 6, 11, 12, 13, 14, 15, 16, 17, 18, 19, 20, 21, 22, 23, 24, 25, 26, 27, 28, 29, 30, 31, 32, 33] (by decide +kernel) (by decide +kernel)
set_option maxRecDepth 20000 in
theorem gX7_append_X7_goes : GoodIn wsX7_append (wsV RX7 68 RX7 yX7_goes wsX7_goes) := goodIn_app (goodIn_of _ (by decide +kernel)) ggX7_append_X7_goes
theorem dX7_append_0 : decode cX7_append 0 = .ok (.aload_n 0, 1) := by decide +kernel
theorem dX7_append_1 : decode cX7_append 1 = .ok (.aload_n 0, 1) := by decide +kernel
theorem dX7_append_2 : decode cX7_append 2 = .ok (.getfield 235, 3) := by decide +kernel
theorem dX7_append_5 : decode cX7_append 5 = .ok (.bipush 60, 2) := by decide +kernel
theorem dX7_append_7 : decode cX7_append 7 = .ok (.if_icmp .ge 7, 3) := by decide +kernel
theorem dX7_append_10 : decode cX7_append 10 = .ok (.iconst 1, 1) := by decide +kernel
theorem dX7_append_11 : decode cX7_append 11 = .ok (.goto 4, 3) := by decide +kernel
theorem dX7_append_14 : decode cX7_append 14 = .ok (.iconst 0, 1) := by decide +kernel
theorem dX7_append_15 : decode cX7_append 15 = .ok (.invokevirtual 68, 3) := by decide +kernel
theorem dX7_append_18 : decode cX7_append 18 = .ok (.ifCond .ne 5, 3) := by decide +kernel
theorem dX7_append_21 : decode cX7_append 21 = .ok (.iconst 0, 1) := by decide +kernel
theorem dX7_append_22 : decode cX7_append 22 = .ok (.ireturn, 1) := by decide +kernel
theorem dX7_append_23 : decode cX7_append 23 = .ok (.aload_n 0, 1) := by decide +kernel
theorem dX7_append_24 : decode cX7_append 24 = .ok (.getfield 38, 3) := by decide +kernel
theorem dX7_append_27 : decode cX7_append 27 = .ok (.aload_n 0, 1) := by decide +kernel
theorem dX7_append_28 : decode cX7_append 28 = .ok (.getfield 235, 3) := by decide +kernel
theorem dX7_append_31 : decode cX7_append 31 = .ok (.iload_n 1, 1) := by decide +kernel
theorem dX7_append_32 : decode cX7_append 32 = .ok (.iastore, 1) := by decide +kernel
theorem dX7_append_33 : decode cX7_append 33 = .ok (.aload_n 0, 1) := by decide +kernel
theorem dX7_append_34 : decode cX7_append 34 = .ok (.dup, 1) := by decide +kernel
theorem dX7_append_35 : decode cX7_append 35 = .ok (.getfield 235, 3) := by decide +kernel
theorem dX7_append_38 : decode cX7_append 38 = .ok (.iconst 1, 1) := by decide +kernel
theorem dX7_append_39 : decode cX7_append 39 = .ok (.iadd, 1) := by decide +kernel
theorem dX7_append_40 : decode cX7_append 40 = .ok (.putfield 235, 3) := by decide +kernel
theorem dX7_append_43 : decode cX7_append 43 = .ok (.aload_n 0, 1) := by decide +kernel
theorem dX7_append_44 : decode cX7_append 44 = .ok (.getfield 235, 3) := by decide +kernel
theorem dX7_append_47 : decode cX7_append 47 = .ok (.ireturn, 1) := by decide +kernel
theorem dX7_letterHere_0 : decode cX7_letterHere 0 = .ok (.aload_n 0, 1) := by decide +kernel
theorem dX7_letterHere_1 : decode cX7_letterHere 1 = .ok (.getfield 238, 3) := by decide +kernel
theorem dX7_letterHere_4 : decode cX7_letterHere 4 = .ok (.aload_n 0, 1) := by decide +kernel
theorem dX7_letterHere_5 : decode cX7_letterHere 5 = .ok (.getfield 241, 3) := by decide +kernel
theorem dX7_letterHere_8 : decode cX7_letterHere 8 = .ok (.if_icmp .ge 15, 3) := by decide +kernel
theorem dX7_letterHere_11 : decode cX7_letterHere 11 = .ok (.aload_n 0, 1) := by decide +kernel
theorem dX7_letterHere_12 : decode cX7_letterHere 12 = .ok (.getfield 38, 3) := by decide +kernel
theorem dX7_letterHere_15 : decode cX7_letterHere 15 = .ok (.aload_n 0, 1) := by decide +kernel
theorem dX7_letterHere_16 : decode cX7_letterHere 16 = .ok (.getfield 238, 3) := by decide +kernel
theorem dX7_letterHere_19 : decode cX7_letterHere 19 = .ok (.iaload, 1) := by decide +kernel
theorem dX7_letterHere_20 : decode cX7_letterHere 20 = .ok (.goto 4, 3) := by decide +kernel
theorem dX7_letterHere_23 : decode cX7_letterHere 23 = .ok (.iconst (-1), 1) := by decide +kernel
theorem dX7_letterHere_24 : decode cX7_letterHere 24 = .ok (.ireturn, 1) := by decide +kernel
set_option maxRecDepth 20000 in
theorem ggX7_reads_X7_letterHere : GoodIn wsX7_reads wsX7_letterHere := goodIn_r _ [8, 2, 9, 3, 13, 14, 15, 16, 17, 18, 19, 20, 21, 22, 23, 24, 25, 26, 27, 28, 29, 30, 31, 32, 33] (by decide +kernel) (by decide +kernel)
set_option maxRecDepth 20000 in
theorem gX7_reads_X7_letterHere : GoodIn wsX7_reads (wsV RX7 247 RX7 yX7_letterHere wsX7_letterHere) := goodIn_app (goodIn_of _ (by decide +kernel)) ggX7_reads_X7_letterHere
set_option maxRecDepth 20000 in
theorem ggX7_reads_X7_isIn : GoodIn wsX7_reads wsX7_isIn := goodIn_r _ [12] (by decide +kernel) (by decide +kernel)
set_option maxRecDepth 20000 in
theorem gX7_reads_X7_isIn : GoodIn wsX7_reads (va_wsS RX7 76 yX7_isIn wsX7_isIn) := goodIn_app (goodIn_of _ (by decide +kernel)) ggX7_reads_X7_isIn
theorem dX7_reads_0 : decode cX7_reads 0 = .ok (.aload_n 0, 1) := by decide +kernel
theorem dX7_reads_1 : decode cX7_reads 1 = .ok (.getfield 244, 3) := by decide +kernel
theorem dX7_reads_4 : decode cX7_reads 4 = .ok (.iconst (-1), 1) := by decide +kernel
theorem dX7_reads_5 : decode cX7_reads 5 = .ok (.if_icmp .ne 39, 3) := by decide +kernel
theorem dX7_reads_8 : decode cX7_reads 8 = .ok (.aload_n 0, 1) := by decide +kernel
theorem dX7_reads_9 : decode cX7_reads 9 = .ok (.invokevirtual 247, 3) := by decide +kernel
theorem dX7_reads_12 : decode cX7_reads 12 = .ok (.iload_n 1, 1) := by decide +kernel
theorem dX7_reads_13 : decode cX7_reads 13 = .ok (.iload_n 2, 1) := by decide +kernel
theorem dX7_reads_14 : decode cX7_reads 14 = .ok (.invokestatic 76, 3) := by decide +kernel
theorem dX7_reads_17 : decode cX7_reads 17 = .ok (.ifCond .eq 27, 3) := by decide +kernel
theorem dX7_reads_20 : decode cX7_reads 20 = .ok (.aload_n 0, 1) := by decide +kernel
theorem dX7_reads_21 : decode cX7_reads 21 = .ok (.dup, 1) := by decide +kernel
theorem dX7_reads_22 : decode cX7_reads 22 = .ok (.getfield 238, 3) := by decide +kernel
theorem dX7_reads_25 : decode cX7_reads 25 = .ok (.iconst 1, 1) := by decide +kernel
theorem dX7_reads_26 : decode cX7_reads 26 = .ok (.iadd, 1) := by decide +kernel
theorem dX7_reads_27 : decode cX7_reads 27 = .ok (.putfield 238, 3) := by decide +kernel
theorem dX7_reads_30 : decode cX7_reads 30 = .ok (.aload_n 0, 1) := by decide +kernel
theorem dX7_reads_31 : decode cX7_reads 31 = .ok (.getfield 38, 3) := by decide +kernel
theorem dX7_reads_34 : decode cX7_reads 34 = .ok (.aload_n 0, 1) := by decide +kernel
theorem dX7_reads_35 : decode cX7_reads 35 = .ok (.getfield 238, 3) := by decide +kernel
theorem dX7_reads_38 : decode cX7_reads 38 = .ok (.iconst 1, 1) := by decide +kernel
theorem dX7_reads_39 : decode cX7_reads 39 = .ok (.isub, 1) := by decide +kernel
theorem dX7_reads_40 : decode cX7_reads 40 = .ok (.iaload, 1) := by decide +kernel
theorem dX7_reads_41 : decode cX7_reads 41 = .ok (.iload_n 1, 1) := by decide +kernel
theorem dX7_reads_42 : decode cX7_reads 42 = .ok (.isub, 1) := by decide +kernel
theorem dX7_reads_43 : decode cX7_reads 43 = .ok (.ireturn, 1) := by decide +kernel
theorem dX7_reads_44 : decode cX7_reads 44 = .ok (.aload_n 0, 1) := by decide +kernel
theorem dX7_reads_45 : decode cX7_reads 45 = .ok (.aload_n 0, 1) := by decide +kernel
theorem dX7_reads_46 : decode cX7_reads 46 = .ok (.getfield 244, 3) := by decide +kernel
theorem dX7_reads_49 : decode cX7_reads 49 = .ok (.iconst (-1), 1) := by decide +kernel
theorem dX7_reads_50 : decode cX7_reads 50 = .ok (.if_icmp .ne 10, 3) := by decide +kernel
theorem dX7_reads_53 : decode cX7_reads 53 = .ok (.aload_n 0, 1) := by decide +kernel
theorem dX7_reads_54 : decode cX7_reads 54 = .ok (.getfield 238, 3) := by decide +kernel
theorem dX7_reads_57 : decode cX7_reads 57 = .ok (.goto 7, 3) := by decide +kernel
theorem dX7_reads_60 : decode cX7_reads 60 = .ok (.aload_n 0, 1) := by decide +kernel
theorem dX7_reads_61 : decode cX7_reads 61 = .ok (.getfield 244, 3) := by decide +kernel
theorem dX7_reads_64 : decode cX7_reads 64 = .ok (.putfield 244, 3) := by decide +kernel
theorem dX7_reads_67 : decode cX7_reads 67 = .ok (.iconst 0, 1) := by decide +kernel
theorem dX7_reads_68 : decode cX7_reads 68 = .ok (.ireturn, 1) := by decide +kernel
set_option maxRecDepth 20000 in
theorem ggX7_digit_X7_reads : GoodIn wsX7_digit wsX7_reads := goodIn_r _ [5, 6, 7, 8, 9, 10, 11, 4, 12, 13, 14, 15, 16, 17, 18, 19, 20, 21, 22, 23, 24, 25, 26, 27, 28, 29, 30, 31, 32, 33, 34, 35, 36, 37] (by decide +kernel) (by decide +kernel)
set_option maxRecDepth 20000 in
theorem gX7_digit_X7_reads : GoodIn wsX7_digit (wsV RX7 250 RX7 yX7_reads wsX7_reads) := goodIn_app (goodIn_of _ (by decide +kernel)) ggX7_digit_X7_reads
theorem dX7_digit_0 : decode cX7_digit 0 = .ok (.aload_n 0, 1) := by decide +kernel
theorem dX7_digit_1 : decode cX7_digit 1 = .ok (.bipush 48, 2) := by decide +kernel
theorem dX7_digit_3 : decode cX7_digit 3 = .ok (.bipush 57, 2) := by decide +kernel
theorem dX7_digit_5 : decode cX7_digit 5 = .ok (.invokevirtual 250, 3) := by decide +kernel
theorem dX7_digit_8 : decode cX7_digit 8 = .ok (.ireturn, 1) := by decide +kernel
set_option maxRecDepth 20000 in
theorem ggX7_number_X7_digit : GoodIn wsX7_number wsX7_digit := goodIn_r _ [6, 7, 8, 9, 5, 10, 1, 11, 12, 13, 14, 15, 16, 17, 18, 19, 20, 21, 22, 23, 24, 25, 26, 27, 28, 29, 30, 31, 32, 33, 34, 35, 36, 37, 38, 39, 40, 41] (by decide +kernel) (by decide +kernel)
set_option maxRecDepth 20000 in
theorem gX7_number_X7_digit : GoodIn wsX7_number (wsV RX7 253 RX7 yX7_digit wsX7_digit) := goodIn_app (goodIn_of _ (by decide +kernel)) ggX7_number_X7_digit
set_option maxRecDepth 20000 in
theorem ggX7_number_X7_letterHere : GoodIn wsX7_number wsX7_letterHere := goodIn_r _ [16, 11, 17, 12, 21, 22, 23, 24, 25, 26, 27, 28, 29, 30, 31, 32, 33, 34, 35, 36, 37, 38, 39, 40, 41] (by decide +kernel) (by decide +kernel)
set_option maxRecDepth 20000 in
theorem gX7_number_X7_letterHere : GoodIn wsX7_number (wsV RX7 247 RX7 yX7_letterHere wsX7_letterHere) := goodIn_app (goodIn_of _ (by decide +kernel)) ggX7_number_X7_letterHere
set_option maxRecDepth 20000 in
theorem ggX7_number_X7_isIn : GoodIn wsX7_number wsX7_isIn := goodIn_r _ [20] (by decide +kernel) (by decide +kernel)
set_option maxRecDepth 20000 in
theorem gX7_number_X7_isIn : GoodIn wsX7_number (va_wsS RX7 76 yX7_isIn wsX7_isIn) := goodIn_app (goodIn_of _ (by decide +kernel)) ggX7_number_X7_isIn
theorem dX7_number_0 : decode cX7_number 0 = .ok (.aload_n 0, 1) := by decide +kernel
theorem dX7_number_1 : decode cX7_number 1 = .ok (.invokevirtual 253, 3) := by decide +kernel
theorem dX7_number_4 : decode cX7_number 4 = .ok (.istore_n 1, 1) := by decide +kernel
theorem dX7_number_5 : decode cX7_number 5 = .ok (.aload_n 0, 1) := by decide +kernel
theorem dX7_number_6 : decode cX7_number 6 = .ok (.getfield 244, 3) := by decide +kernel
theorem dX7_number_9 : decode cX7_number 9 = .ok (.iconst (-1), 1) := by decide +kernel
theorem dX7_number_10 : decode cX7_number 10 = .ok (.if_icmp .ne 29, 3) := by decide +kernel
theorem dX7_number_13 : decode cX7_number 13 = .ok (.aload_n 0, 1) := by decide +kernel
theorem dX7_number_14 : decode cX7_number 14 = .ok (.invokevirtual 247, 3) := by decide +kernel
theorem dX7_number_17 : decode cX7_number 17 = .ok (.bipush 48, 2) := by decide +kernel
theorem dX7_number_19 : decode cX7_number 19 = .ok (.bipush 57, 2) := by decide +kernel
theorem dX7_number_21 : decode cX7_number 21 = .ok (.invokestatic 76, 3) := by decide +kernel
theorem dX7_number_24 : decode cX7_number 24 = .ok (.ifCond .eq 15, 3) := by decide +kernel
theorem dX7_number_27 : decode cX7_number 27 = .ok (.bipush 10, 2) := by decide +kernel
theorem dX7_number_29 : decode cX7_number 29 = .ok (.iload_n 1, 1) := by decide +kernel
theorem dX7_number_30 : decode cX7_number 30 = .ok (.imul, 1) := by decide +kernel
theorem dX7_number_31 : decode cX7_number 31 = .ok (.aload_n 0, 1) := by decide +kernel
theorem dX7_number_32 : decode cX7_number 32 = .ok (.invokevirtual 253, 3) := by decide +kernel
theorem dX7_number_35 : decode cX7_number 35 = .ok (.iadd, 1) := by decide +kernel
theorem dX7_number_36 : decode cX7_number 36 = .ok (.goto 4, 3) := by decide +kernel
theorem dX7_number_39 : decode cX7_number 39 = .ok (.iload_n 1, 1) := by decide +kernel
theorem dX7_number_40 : decode cX7_number 40 = .ok (.ireturn, 1) := by decide +kernel
set_option maxRecDepth 20000 in
theorem ggX7_blank_X7_reads : GoodIn wsX7_blank wsX7_reads := goodIn_r _ [5, 6, 7, 8, 9, 10, 11, 4, 12, 13, 14, 15, 16, 17, 18, 19, 20, 21, 22, 23, 24, 25, 26, 27, 28, 29, 30, 31, 32, 33, 34, 35, 36, 37] (by decide +kernel) (by decide +kernel)
set_option maxRecDepth 20000 in
theorem gX7_blank_X7_reads : GoodIn wsX7_blank (wsV RX7 250 RX7 yX7_reads wsX7_reads) := goodIn_app (goodIn_of _ (by decide +kernel)) ggX7_blank_X7_reads
theorem dX7_blank_0 : decode cX7_blank 0 = .ok (.aload_n 0, 1) := by decide +kernel
theorem dX7_blank_1 : decode cX7_blank 1 = .ok (.bipush 32, 2) := by decide +kernel
theorem dX7_blank_3 : decode cX7_blank 3 = .ok (.bipush 32, 2) := by decide +kernel
theorem dX7_blank_5 : decode cX7_blank 5 = .ok (.invokevirtual 250, 3) := by decide +kernel
theorem dX7_blank_8 : decode cX7_blank 8 = .ok (.istore_n 1, 1) := by decide +kernel
theorem dX7_blank_9 : decode cX7_blank 9 = .ok (.return_, 1) := by decide +kernel
theorem dX7_startOf_0 : decode cX7_startOf 0 = .ok (.iload_n 0, 1) := by decide +kernel
theorem dX7_startOf_1 : decode cX7_startOf 1 = .ok (.tableswitch 91 0 10 #[59, 59, 59, 63, 66, 69, 72, 75, 75, 85, 88], 59) := by decide +kernel
theorem dX7_startOf_60 : decode cX7_startOf 60 = .ok (.iconst 5, 1) := by decide +kernel
theorem dX7_startOf_61 : decode cX7_startOf 61 = .ok (.iload_n 0, 1) := by decide +kernel
theorem dX7_startOf_62 : decode cX7_startOf 62 = .ok (.imul, 1) := by decide +kernel
theorem dX7_startOf_63 : decode cX7_startOf 63 = .ok (.ireturn, 1) := by decide +kernel
theorem dX7_startOf_64 : decode cX7_startOf 64 = .ok (.bipush 14, 2) := by decide +kernel
theorem dX7_startOf_66 : decode cX7_startOf 66 = .ok (.ireturn, 1) := by decide +kernel
theorem dX7_startOf_67 : decode cX7_startOf 67 = .ok (.bipush 20, 2) := by decide +kernel
theorem dX7_startOf_69 : decode cX7_startOf 69 = .ok (.ireturn, 1) := by decide +kernel
theorem dX7_startOf_70 : decode cX7_startOf 70 = .ok (.bipush 24, 2) := by decide +kernel
theorem dX7_startOf_72 : decode cX7_startOf 72 = .ok (.ireturn, 1) := by decide +kernel
theorem dX7_startOf_73 : decode cX7_startOf 73 = .ok (.bipush 31, 2) := by decide +kernel
theorem dX7_startOf_75 : decode cX7_startOf 75 = .ok (.ireturn, 1) := by decide +kernel
theorem dX7_startOf_76 : decode cX7_startOf 76 = .ok (.bipush 35, 2) := by decide +kernel
theorem dX7_startOf_78 : decode cX7_startOf 78 = .ok (.iconst 5, 1) := by decide +kernel
theorem dX7_startOf_79 : decode cX7_startOf 79 = .ok (.iload_n 0, 1) := by decide +kernel
theorem dX7_startOf_80 : decode cX7_startOf 80 = .ok (.bipush 7, 2) := by decide +kernel
theorem dX7_startOf_82 : decode cX7_startOf 82 = .ok (.isub, 1) := by decide +kernel
theorem dX7_startOf_83 : decode cX7_startOf 83 = .ok (.imul, 1) := by decide +kernel
theorem dX7_startOf_84 : decode cX7_startOf 84 = .ok (.iadd, 1) := by decide +kernel
theorem dX7_startOf_85 : decode cX7_startOf 85 = .ok (.ireturn, 1) := by decide +kernel
theorem dX7_startOf_86 : decode cX7_startOf 86 = .ok (.bipush 45, 2) := by decide +kernel
theorem dX7_startOf_88 : decode cX7_startOf 88 = .ok (.ireturn, 1) := by decide +kernel
theorem dX7_startOf_89 : decode cX7_startOf 89 = .ok (.bipush 51, 2) := by decide +kernel
theorem dX7_startOf_91 : decode cX7_startOf 91 = .ok (.ireturn, 1) := by decide +kernel
theorem dX7_startOf_92 : decode cX7_startOf 92 = .ok (.bipush 56, 2) := by decide +kernel
theorem dX7_startOf_94 : decode cX7_startOf 94 = .ok (.ireturn, 1) := by decide +kernel
set_option maxRecDepth 20000 in
theorem ggX7_kindHere_X7_startOf : GoodIn wsX7_kindHere wsX7_startOf := goodIn_r _ [12] (by decide +kernel) (by decide +kernel)
set_option maxRecDepth 20000 in
theorem gX7_kindHere_X7_startOf : GoodIn wsX7_kindHere (va_wsS RX7 256 yX7_startOf wsX7_startOf) := goodIn_app (goodIn_of _ (by decide +kernel)) ggX7_kindHere_X7_startOf
set_option maxRecDepth 20000 in
theorem ggX7_kindHere_J0_charAt_5068e : GoodIn wsX7_kindHere wsJ0_charAt_5068e := goodIn_r _ [17, 18, 19, 20, 21, 16, 22, 23, 24, 25, 26, 27, 28, 29, 30, 31, 32, 33, 34, 35, 36, 37, 38, 39, 40, 41, 42, 43, 44, 45, 46, 47, 48, 49, 50, 51, 52, 53] (by decide +kernel) (by decide +kernel)
set_option maxRecDepth 20000 in
theorem gX7_kindHere_J0_charAt_5068e : GoodIn wsX7_kindHere (wsV RX7 261 RJ0 yJ0_charAt_5068e wsJ0_charAt_5068e) := goodIn_app (goodIn_of _ (by decide +kernel)) ggX7_kindHere_J0_charAt_5068e
theorem dX7_kindHere_0 : decode cX7_kindHere 0 = .ok (.aload_n 0, 1) := by decide +kernel
theorem dX7_kindHere_1 : decode cX7_kindHere 1 = .ok (.getfield 238, 3) := by decide +kernel
theorem dX7_kindHere_4 : decode cX7_kindHere 4 = .ok (.istore_n 1, 1) := by decide +kernel
theorem dX7_kindHere_5 : decode cX7_kindHere 5 = .ok (.iconst (-1), 1) := by decide +kernel
theorem dX7_kindHere_6 : decode cX7_kindHere 6 = .ok (.istore_n 2, 1) := by decide +kernel
theorem dX7_kindHere_7 : decode cX7_kindHere 7 = .ok (.iconst 0, 1) := by decide +kernel
theorem dX7_kindHere_8 : decode cX7_kindHere 8 = .ok (.istore_n 3, 1) := by decide +kernel
theorem dX7_kindHere_9 : decode cX7_kindHere 9 = .ok (.iload_n 3, 1) := by decide +kernel
theorem dX7_kindHere_10 : decode cX7_kindHere 10 = .ok (.bipush 11, 2) := by decide +kernel
theorem dX7_kindHere_12 : decode cX7_kindHere 12 = .ok (.if_icmp .ge 110, 3) := by decide +kernel
theorem dX7_kindHere_15 : decode cX7_kindHere 15 = .ok (.iload_n 2, 1) := by decide +kernel
theorem dX7_kindHere_16 : decode cX7_kindHere 16 = .ok (.iconst (-1), 1) := by decide +kernel
theorem dX7_kindHere_17 : decode cX7_kindHere 17 = .ok (.if_icmp .ne 105, 3) := by decide +kernel
theorem dX7_kindHere_20 : decode cX7_kindHere 20 = .ok (.iload_n 3, 1) := by decide +kernel
theorem dX7_kindHere_21 : decode cX7_kindHere 21 = .ok (.iconst 1, 1) := by decide +kernel
theorem dX7_kindHere_22 : decode cX7_kindHere 22 = .ok (.iadd, 1) := by decide +kernel
theorem dX7_kindHere_23 : decode cX7_kindHere 23 = .ok (.invokestatic 256, 3) := by decide +kernel
theorem dX7_kindHere_26 : decode cX7_kindHere 26 = .ok (.iload_n 3, 1) := by decide +kernel
theorem dX7_kindHere_27 : decode cX7_kindHere 27 = .ok (.invokestatic 256, 3) := by decide +kernel
theorem dX7_kindHere_30 : decode cX7_kindHere 30 = .ok (.isub, 1) := by decide +kernel
theorem dX7_kindHere_31 : decode cX7_kindHere 31 = .ok (.istore 4, 2) := by decide +kernel
theorem dX7_kindHere_33 : decode cX7_kindHere 33 = .ok (.iconst 0, 1) := by decide +kernel
theorem dX7_kindHere_34 : decode cX7_kindHere 34 = .ok (.istore 5, 2) := by decide +kernel
theorem dX7_kindHere_36 : decode cX7_kindHere 36 = .ok (.iload 5, 2) := by decide +kernel
theorem dX7_kindHere_38 : decode cX7_kindHere 38 = .ok (.iload 4, 2) := by decide +kernel
theorem dX7_kindHere_40 : decode cX7_kindHere 40 = .ok (.if_icmp .ge 51, 3) := by decide +kernel
theorem dX7_kindHere_43 : decode cX7_kindHere 43 = .ok (.aload_n 0, 1) := by decide +kernel
theorem dX7_kindHere_44 : decode cX7_kindHere 44 = .ok (.getfield 238, 3) := by decide +kernel
theorem dX7_kindHere_47 : decode cX7_kindHere 47 = .ok (.iload 5, 2) := by decide +kernel
theorem dX7_kindHere_49 : decode cX7_kindHere 49 = .ok (.iadd, 1) := by decide +kernel
theorem dX7_kindHere_50 : decode cX7_kindHere 50 = .ok (.aload_n 0, 1) := by decide +kernel
theorem dX7_kindHere_51 : decode cX7_kindHere 51 = .ok (.getfield 241, 3) := by decide +kernel
theorem dX7_kindHere_54 : decode cX7_kindHere 54 = .ok (.if_icmp .ge 37, 3) := by decide +kernel
theorem dX7_kindHere_57 : decode cX7_kindHere 57 = .ok (.aload_n 0, 1) := by decide +kernel
theorem dX7_kindHere_58 : decode cX7_kindHere 58 = .ok (.getfield 38, 3) := by decide +kernel
theorem dX7_kindHere_61 : decode cX7_kindHere 61 = .ok (.aload_n 0, 1) := by decide +kernel
theorem dX7_kindHere_62 : decode cX7_kindHere 62 = .ok (.getfield 238, 3) := by decide +kernel
theorem dX7_kindHere_65 : decode cX7_kindHere 65 = .ok (.iload 5, 2) := by decide +kernel
theorem dX7_kindHere_67 : decode cX7_kindHere 67 = .ok (.iadd, 1) := by decide +kernel
theorem dX7_kindHere_68 : decode cX7_kindHere 68 = .ok (.iaload, 1) := by decide +kernel
theorem dX7_kindHere_69 : decode cX7_kindHere 69 = .ok (.ldc_w 259, 3) := by decide +kernel
theorem dX7_kindHere_72 : decode cX7_kindHere 72 = .ok (.iload_n 3, 1) := by decide +kernel
theorem dX7_kindHere_73 : decode cX7_kindHere 73 = .ok (.invokestatic 256, 3) := by decide +kernel
theorem dX7_kindHere_76 : decode cX7_kindHere 76 = .ok (.iload 5, 2) := by decide +kernel
theorem dX7_kindHere_78 : decode cX7_kindHere 78 = .ok (.iadd, 1) := by decide +kernel
theorem dX7_kindHere_79 : decode cX7_kindHere 79 = .ok (.invokevirtual 261, 3) := by decide +kernel
theorem dX7_kindHere_82 : decode cX7_kindHere 82 = .ok (.if_icmp .ne 9, 3) := by decide +kernel
theorem dX7_kindHere_85 : decode cX7_kindHere 85 = .ok (.iinc 5 1, 3) := by decide +kernel
theorem dX7_kindHere_88 : decode cX7_kindHere 88 = .ok (.goto (-52), 3) := by decide +kernel
theorem dX7_kindHere_91 : decode cX7_kindHere 91 = .ok (.iload_n 1, 1) := by decide +kernel
theorem dX7_kindHere_92 : decode cX7_kindHere 92 = .ok (.aload_n 0, 1) := by decide +kernel
theorem dX7_kindHere_93 : decode cX7_kindHere 93 = .ok (.getfield 238, 3) := by decide +kernel
theorem dX7_kindHere_96 : decode cX7_kindHere 96 = .ok (.iload 5, 2) := by decide +kernel
theorem dX7_kindHere_98 : decode cX7_kindHere 98 = .ok (.iadd, 1) := by decide +kernel
theorem dX7_kindHere_99 : decode cX7_kindHere 99 = .ok (.invokestatic 267, 3) := by decide +kernel
theorem dX7_kindHere_102 : decode cX7_kindHere 102 = .ok (.istore_n 1, 1) := by decide +kernel
theorem dX7_kindHere_103 : decode cX7_kindHere 103 = .ok (.iload 5, 2) := by decide +kernel
theorem dX7_kindHere_105 : decode cX7_kindHere 105 = .ok (.iload 4, 2) := by decide +kernel
theorem dX7_kindHere_107 : decode cX7_kindHere 107 = .ok (.if_icmp .ne 7, 3) := by decide +kernel
theorem dX7_kindHere_110 : decode cX7_kindHere 110 = .ok (.iload_n 3, 1) := by decide +kernel
theorem dX7_kindHere_111 : decode cX7_kindHere 111 = .ok (.goto 4, 3) := by decide +kernel
theorem dX7_kindHere_114 : decode cX7_kindHere 114 = .ok (.iload_n 2, 1) := by decide +kernel
theorem dX7_kindHere_115 : decode cX7_kindHere 115 = .ok (.istore_n 2, 1) := by decide +kernel
theorem dX7_kindHere_116 : decode cX7_kindHere 116 = .ok (.iinc 3 1, 3) := by decide +kernel
theorem dX7_kindHere_119 : decode cX7_kindHere 119 = .ok (.goto (-110), 3) := by decide +kernel
theorem dX7_kindHere_122 : decode cX7_kindHere 122 = .ok (.aload_n 0, 1) := by decide +kernel
theorem dX7_kindHere_123 : decode cX7_kindHere 123 = .ok (.iload_n 2, 1) := by decide +kernel
theorem dX7_kindHere_124 : decode cX7_kindHere 124 = .ok (.iconst (-1), 1) := by decide +kernel
theorem dX7_kindHere_125 : decode cX7_kindHere 125 = .ok (.if_icmp .ne 7, 3) := by decide +kernel
theorem dX7_kindHere_128 : decode cX7_kindHere 128 = .ok (.iload_n 1, 1) := by decide +kernel
theorem dX7_kindHere_129 : decode cX7_kindHere 129 = .ok (.goto 7, 3) := by decide +kernel
theorem dX7_kindHere_132 : decode cX7_kindHere 132 = .ok (.aload_n 0, 1) := by decide +kernel
theorem dX7_kindHere_133 : decode cX7_kindHere 133 = .ok (.getfield 244, 3) := by decide +kernel
theorem dX7_kindHere_136 : decode cX7_kindHere 136 = .ok (.putfield 244, 3) := by decide +kernel
theorem dX7_kindHere_139 : decode cX7_kindHere 139 = .ok (.aload_n 0, 1) := by decide +kernel
theorem dX7_kindHere_140 : decode cX7_kindHere 140 = .ok (.dup, 1) := by decide +kernel
theorem dX7_kindHere_141 : decode cX7_kindHere 141 = .ok (.getfield 238, 3) := by decide +kernel
theorem dX7_kindHere_144 : decode cX7_kindHere 144 = .ok (.iload_n 2, 1) := by decide +kernel
theorem dX7_kindHere_145 : decode cX7_kindHere 145 = .ok (.iconst (-1), 1) := by decide +kernel
theorem dX7_kindHere_146 : decode cX7_kindHere 146 = .ok (.if_icmp .ne 7, 3) := by decide +kernel
theorem dX7_kindHere_149 : decode cX7_kindHere 149 = .ok (.iconst 0, 1) := by decide +kernel
theorem dX7_kindHere_150 : decode cX7_kindHere 150 = .ok (.goto 14, 3) := by decide +kernel
theorem dX7_kindHere_153 : decode cX7_kindHere 153 = .ok (.iload_n 2, 1) := by decide +kernel
theorem dX7_kindHere_154 : decode cX7_kindHere 154 = .ok (.iconst 1, 1) := by decide +kernel
theorem dX7_kindHere_155 : decode cX7_kindHere 155 = .ok (.iadd, 1) := by decide +kernel
theorem dX7_kindHere_156 : decode cX7_kindHere 156 = .ok (.invokestatic 256, 3) := by decide +kernel
theorem dX7_kindHere_159 : decode cX7_kindHere 159 = .ok (.iload_n 2, 1) := by decide +kernel
theorem dX7_kindHere_160 : decode cX7_kindHere 160 = .ok (.invokestatic 256, 3) := by decide +kernel
theorem dX7_kindHere_163 : decode cX7_kindHere 163 = .ok (.isub, 1) := by decide +kernel
theorem dX7_kindHere_164 : decode cX7_kindHere 164 = .ok (.iadd, 1) := by decide +kernel
theorem dX7_kindHere_165 : decode cX7_kindHere 165 = .ok (.putfield 238, 3) := by decide +kernel
theorem dX7_kindHere_168 : decode cX7_kindHere 168 = .ok (.iload_n 2, 1) := by decide +kernel
theorem dX7_kindHere_169 : decode cX7_kindHere 169 = .ok (.ireturn, 1) := by decide +kernel
set_option maxRecDepth 20000 in
theorem ggX7_letter_X7_reads : GoodIn wsX7_letter wsX7_reads := goodIn_r _ [5, 6, 7, 8, 9, 10, 11, 4, 12, 13, 14, 15, 16, 17, 18, 19, 20, 21, 22, 23, 24, 25, 26, 27, 28, 29, 30, 31, 32, 33, 34, 35, 36, 37] (by decide +kernel) (by decide +kernel)
set_option maxRecDepth 20000 in
theorem gX7_letter_X7_reads : GoodIn wsX7_letter (wsV RX7 250 RX7 yX7_reads wsX7_reads) := goodIn_app (goodIn_of _ (by decide +kernel)) ggX7_letter_X7_reads
theorem dX7_letter_0 : decode cX7_letter 0 = .ok (.bipush 97, 2) := by decide +kernel
theorem dX7_letter_2 : decode cX7_letter 2 = .ok (.aload_n 0, 1) := by decide +kernel
theorem dX7_letter_3 : decode cX7_letter 3 = .ok (.bipush 97, 2) := by decide +kernel
theorem dX7_letter_5 : decode cX7_letter 5 = .ok (.bipush 102, 2) := by decide +kernel
theorem dX7_letter_7 : decode cX7_letter 7 = .ok (.invokevirtual 250, 3) := by decide +kernel
theorem dX7_letter_10 : decode cX7_letter 10 = .ok (.iadd, 1) := by decide +kernel
theorem dX7_letter_11 : decode cX7_letter 11 = .ok (.ireturn, 1) := by decide +kernel
set_option maxRecDepth 20000 in
theorem ggX7_cell_X7_digit : GoodIn wsX7_cell wsX7_digit := goodIn_r _ [6, 7, 8, 9, 5, 10, 11, 12, 13, 14, 15, 16, 17, 18, 19, 20, 21, 22, 23, 24, 25, 26, 27, 28, 29, 30, 31, 32, 33, 34, 35, 36, 37, 38, 39, 40, 41, 42] (by decide +kernel) (by decide +kernel)
set_option maxRecDepth 20000 in
theorem gX7_cell_X7_digit : GoodIn wsX7_cell (wsV RX7 253 RX7 yX7_digit wsX7_digit) := goodIn_app (goodIn_of _ (by decide +kernel)) ggX7_cell_X7_digit
theorem dX7_cell_0 : decode cX7_cell 0 = .ok (.aload_n 0, 1) := by decide +kernel
theorem dX7_cell_1 : decode cX7_cell 1 = .ok (.getfield 44, 3) := by decide +kernel
theorem dX7_cell_4 : decode cX7_cell 4 = .ok (.iload_n 1, 1) := by decide +kernel
theorem dX7_cell_5 : decode cX7_cell 5 = .ok (.aload_n 0, 1) := by decide +kernel
theorem dX7_cell_6 : decode cX7_cell 6 = .ok (.invokevirtual 253, 3) := by decide +kernel
theorem dX7_cell_9 : decode cX7_cell 9 = .ok (.iastore, 1) := by decide +kernel
theorem dX7_cell_10 : decode cX7_cell 10 = .ok (.aload_n 0, 1) := by decide +kernel
theorem dX7_cell_11 : decode cX7_cell 11 = .ok (.getfield 44, 3) := by decide +kernel
theorem dX7_cell_14 : decode cX7_cell 14 = .ok (.iload_n 1, 1) := by decide +kernel
theorem dX7_cell_15 : decode cX7_cell 15 = .ok (.iconst 1, 1) := by decide +kernel
theorem dX7_cell_16 : decode cX7_cell 16 = .ok (.iadd, 1) := by decide +kernel
theorem dX7_cell_17 : decode cX7_cell 17 = .ok (.aload_n 0, 1) := by decide +kernel
theorem dX7_cell_18 : decode cX7_cell 18 = .ok (.invokevirtual 253, 3) := by decide +kernel
theorem dX7_cell_21 : decode cX7_cell 21 = .ok (.iastore, 1) := by decide +kernel
theorem dX7_cell_22 : decode cX7_cell 22 = .ok (.return_, 1) := by decide +kernel
set_option maxRecDepth 20000 in
theorem ggX7_steps_X7_digit : GoodIn wsX7_steps wsX7_digit := goodIn_r _ [6, 7, 8, 9, 5, 10, 11, 12, 13, 14, 15, 16, 17, 18, 19, 20, 21, 22, 23, 24, 25, 26, 27, 28, 29, 30, 31, 32, 33, 34, 35, 36, 37, 38, 39, 40, 41, 42] (by decide +kernel) (by decide +kernel)
set_option maxRecDepth 20000 in
theorem gX7_steps_X7_digit : GoodIn wsX7_steps (wsV RX7 253 RX7 yX7_digit wsX7_digit) := goodIn_app (goodIn_of _ (by decide +kernel)) ggX7_steps_X7_digit
set_option maxRecDepth 20000 in
theorem ggX7_steps_X7_letterHere : GoodIn wsX7_steps wsX7_letterHere := goodIn_r _ [17, 12, 18, 13, 22, 23, 24, 25, 26, 27, 28, 29, 30, 31, 32, 33, 34, 35, 36, 37, 38, 39, 40, 41, 42] (by decide +kernel) (by decide +kernel)
set_option maxRecDepth 20000 in
theorem gX7_steps_X7_letterHere : GoodIn wsX7_steps (wsV RX7 247 RX7 yX7_letterHere wsX7_letterHere) := goodIn_app (goodIn_of _ (by decide +kernel)) ggX7_steps_X7_letterHere
set_option maxRecDepth 20000 in
theorem ggX7_steps_X7_reads : GoodIn wsX7_steps wsX7_reads := goodIn_r _ [10, 11, 12, 13, 14, 15, 16, 5, 17, 18, 19, 20, 21, 22, 23, 24, 25, 26, 27, 28, 29, 30, 31, 32, 33, 34, 35, 36, 37, 38, 39, 40, 41, 42] (by decide +kernel) (by decide +kernel)
set_option maxRecDepth 20000 in
theorem gX7_steps_X7_reads : GoodIn wsX7_steps (wsV RX7 250 RX7 yX7_reads wsX7_reads) := goodIn_app (goodIn_of _ (by decide +kernel)) ggX7_steps_X7_reads
theorem dX7_steps_0 : decode cX7_steps 0 = .ok (.aload_n 0, 1) := by decide +kernel
theorem dX7_steps_1 : decode cX7_steps 1 = .ok (.getfield 44, 3) := by decide +kernel
theorem dX7_steps_4 : decode cX7_steps 4 = .ok (.iload_n 1, 1) := by decide +kernel
theorem dX7_steps_5 : decode cX7_steps 5 = .ok (.iconst 1, 1) := by decide +kernel
theorem dX7_steps_6 : decode cX7_steps 6 = .ok (.iadd, 1) := by decide +kernel
theorem dX7_steps_7 : decode cX7_steps 7 = .ok (.aload_n 0, 1) := by decide +kernel
theorem dX7_steps_8 : decode cX7_steps 8 = .ok (.invokevirtual 253, 3) := by decide +kernel
theorem dX7_steps_11 : decode cX7_steps 11 = .ok (.iastore, 1) := by decide +kernel
theorem dX7_steps_12 : decode cX7_steps 12 = .ok (.aload_n 0, 1) := by decide +kernel
theorem dX7_steps_13 : decode cX7_steps 13 = .ok (.invokevirtual 247, 3) := by decide +kernel
theorem dX7_steps_16 : decode cX7_steps 16 = .ok (.bipush 43, 2) := by decide +kernel
theorem dX7_steps_18 : decode cX7_steps 18 = .ok (.if_icmp .ne 7, 3) := by decide +kernel
theorem dX7_steps_21 : decode cX7_steps 21 = .ok (.iconst 1, 1) := by decide +kernel
theorem dX7_steps_22 : decode cX7_steps 22 = .ok (.goto 4, 3) := by decide +kernel
theorem dX7_steps_25 : decode cX7_steps 25 = .ok (.iconst 0, 1) := by decide +kernel
theorem dX7_steps_26 : decode cX7_steps 26 = .ok (.istore_n 2, 1) := by decide +kernel
theorem dX7_steps_27 : decode cX7_steps 27 = .ok (.iload_n 2, 1) := by decide +kernel
theorem dX7_steps_28 : decode cX7_steps 28 = .ok (.ifCond .eq 14, 3) := by decide +kernel
theorem dX7_steps_31 : decode cX7_steps 31 = .ok (.aload_n 0, 1) := by decide +kernel
theorem dX7_steps_32 : decode cX7_steps 32 = .ok (.bipush 43, 2) := by decide +kernel
theorem dX7_steps_34 : decode cX7_steps 34 = .ok (.bipush 43, 2) := by decide +kernel
theorem dX7_steps_36 : decode cX7_steps 36 = .ok (.invokevirtual 250, 3) := by decide +kernel
theorem dX7_steps_39 : decode cX7_steps 39 = .ok (.goto 11, 3) := by decide +kernel
theorem dX7_steps_42 : decode cX7_steps 42 = .ok (.aload_n 0, 1) := by decide +kernel
theorem dX7_steps_43 : decode cX7_steps 43 = .ok (.bipush 45, 2) := by decide +kernel
theorem dX7_steps_45 : decode cX7_steps 45 = .ok (.bipush 45, 2) := by decide +kernel
theorem dX7_steps_47 : decode cX7_steps 47 = .ok (.invokevirtual 250, 3) := by decide +kernel
theorem dX7_steps_50 : decode cX7_steps 50 = .ok (.istore_n 3, 1) := by decide +kernel
theorem dX7_steps_51 : decode cX7_steps 51 = .ok (.aload_n 0, 1) := by decide +kernel
theorem dX7_steps_52 : decode cX7_steps 52 = .ok (.invokevirtual 253, 3) := by decide +kernel
theorem dX7_steps_55 : decode cX7_steps 55 = .ok (.istore 4, 2) := by decide +kernel
theorem dX7_steps_57 : decode cX7_steps 57 = .ok (.aload_n 0, 1) := by decide +kernel
theorem dX7_steps_58 : decode cX7_steps 58 = .ok (.getfield 44, 3) := by decide +kernel
theorem dX7_steps_61 : decode cX7_steps 61 = .ok (.iload_n 1, 1) := by decide +kernel
theorem dX7_steps_62 : decode cX7_steps 62 = .ok (.iconst 2, 1) := by decide +kernel
theorem dX7_steps_63 : decode cX7_steps 63 = .ok (.iadd, 1) := by decide +kernel
theorem dX7_steps_64 : decode cX7_steps 64 = .ok (.iload_n 2, 1) := by decide +kernel
theorem dX7_steps_65 : decode cX7_steps 65 = .ok (.ifCond .eq 8, 3) := by decide +kernel
theorem dX7_steps_68 : decode cX7_steps 68 = .ok (.iload 4, 2) := by decide +kernel
theorem dX7_steps_70 : decode cX7_steps 70 = .ok (.goto 6, 3) := by decide +kernel
theorem dX7_steps_73 : decode cX7_steps 73 = .ok (.iload 4, 2) := by decide +kernel
theorem dX7_steps_75 : decode cX7_steps 75 = .ok (.ineg, 1) := by decide +kernel
theorem dX7_steps_76 : decode cX7_steps 76 = .ok (.iastore, 1) := by decide +kernel
theorem dX7_steps_77 : decode cX7_steps 77 = .ok (.return_, 1) := by decide +kernel
set_option maxRecDepth 20000 in
theorem ggX7_readsCommand_X7_kindHere : GoodIn wsX7_readsCommand wsX7_kindHere := goodIn_r _ [8, 9, 10, 11, 12, 13, 14, 15, 3, 16, 17, 7, 18, 19, 20, 21, 22, 23, 24, 25, 26, 27, 28, 29, 30, 31, 32, 33, 34, 35, 36, 37, 38, 39, 40, 41, 42, 43, 44, 45, 46, 47, 48, 49, 50, 51, 52, 53, 54, 55, 56, 57, 58, 59, 95, 96, 97, 98, 99, 100, 101, 102, 103, 104, 105, 106, 107, 108, 109, 110, 111, 112, 113, 114, 115] (by decide +kernel) (by decide +kernel)
set_option maxRecDepth 20000 in
theorem gX7_readsCommand_X7_kindHere : GoodIn wsX7_readsCommand (wsV RX7 273 RX7 yX7_kindHere wsX7_kindHere) := goodIn_app (goodIn_of _ (by decide +kernel)) ggX7_readsCommand_X7_kindHere
set_option maxRecDepth 20000 in
theorem ggX7_readsCommand_X7_steps : GoodIn wsX7_readsCommand wsX7_steps := goodIn_r _ [63, 2, 64, 65, 66, 7, 67, 68, 69, 70, 71, 3, 9, 11, 72, 73, 74, 75, 10, 76, 77, 78, 95, 96, 97, 98, 99, 100, 101, 102, 103, 104, 105, 106, 107, 108, 109, 110, 111, 112, 113, 114, 115] (by decide +kernel) (by decide +kernel)
set_option maxRecDepth 20000 in
theorem gX7_readsCommand_X7_steps : GoodIn wsX7_readsCommand (wsV RX7 276 RX7 yX7_steps wsX7_steps) := goodIn_app (goodIn_of _ (by decide +kernel)) ggX7_readsCommand_X7_steps
set_option maxRecDepth 20000 in
theorem ggX7_readsCommand_X7_letter : GoodIn wsX7_readsCommand wsX7_letter := goodIn_r _ [82, 68, 69, 70, 7, 71, 3, 9, 11, 72, 73, 74, 75, 10, 76, 77, 78, 95, 96, 97, 98, 99, 100, 101, 102, 103, 104, 105, 106, 107, 108, 109, 110, 111, 112, 113, 114, 115] (by decide +kernel) (by decide +kernel)
set_option maxRecDepth 20000 in
theorem gX7_readsCommand_X7_letter : GoodIn wsX7_readsCommand (wsV RX7 279 RX7 yX7_letter wsX7_letter) := goodIn_app (goodIn_of _ (by decide +kernel)) ggX7_readsCommand_X7_letter
set_option maxRecDepth 20000 in
theorem ggX7_readsCommand_X7_digit : GoodIn wsX7_readsCommand wsX7_digit := goodIn_r _ [67, 68, 69, 70, 7, 71, 3, 9, 11, 72, 73, 74, 75, 10, 76, 77, 78, 95, 96, 97, 98, 99, 100, 101, 102, 103, 104, 105, 106, 107, 108, 109, 110, 111, 112, 113, 114, 115] (by decide +kernel) (by decide +kernel)
set_option maxRecDepth 20000 in
theorem gX7_readsCommand_X7_digit : GoodIn wsX7_readsCommand (wsV RX7 253 RX7 yX7_digit wsX7_digit) := goodIn_app (goodIn_of _ (by decide +kernel)) ggX7_readsCommand_X7_digit
set_option maxRecDepth 20000 in
theorem ggX7_readsCommand_X7_blank : GoodIn wsX7_readsCommand wsX7_blank := goodIn_r _ [86, 68, 69, 70, 7, 71, 3, 9, 11, 72, 73, 74, 75, 10, 76, 77, 78, 95, 96, 97, 98, 99, 100, 101, 102, 103, 104, 105, 106, 107, 108, 109, 110, 111, 112, 113, 114, 115] (by decide +kernel) (by decide +kernel)
set_option maxRecDepth 20000 in
theorem gX7_readsCommand_X7_blank : GoodIn wsX7_readsCommand (wsV RX7 282 RX7 yX7_blank wsX7_blank) := goodIn_app (goodIn_of _ (by decide +kernel)) ggX7_readsCommand_X7_blank
set_option maxRecDepth 20000 in
theorem ggX7_readsCommand_X7_cell : GoodIn wsX7_readsCommand wsX7_cell := goodIn_r _ [90, 2, 64, 65, 66, 7, 67, 68, 69, 70, 71, 3, 9, 11, 72, 73, 74, 75, 10, 76, 77, 78, 95, 96, 97, 98, 99, 100, 101, 102, 103, 104, 105, 106, 107, 108, 109, 110, 111, 112, 113, 114, 115] (by decide +kernel) (by decide +kernel)
set_option maxRecDepth 20000 in
theorem gX7_readsCommand_X7_cell : GoodIn wsX7_readsCommand (wsV RX7 285 RX7 yX7_cell wsX7_cell) := goodIn_app (goodIn_of _ (by decide +kernel)) ggX7_readsCommand_X7_cell
set_option maxRecDepth 20000 in
theorem ggX7_readsCommand_X7_number : GoodIn wsX7_readsCommand wsX7_number := goodIn_r _ [94, 3, 64, 65, 66, 7, 67, 68, 69, 70, 71, 9, 11, 72, 73, 74, 75, 10, 76, 77, 78, 95, 96, 97, 98, 99, 100, 101, 102, 103, 104, 105, 106, 107, 108, 109, 110, 111, 112, 113, 114, 115] (by decide +kernel) (by decide +kernel)
set_option maxRecDepth 20000 in
theorem gX7_readsCommand_X7_number : GoodIn wsX7_readsCommand (wsV RX7 288 RX7 yX7_number wsX7_number) := goodIn_app (goodIn_of _ (by decide +kernel)) ggX7_readsCommand_X7_number
theorem dX7_readsCommand_0 : decode cX7_readsCommand 0 = .ok (.iconst 4, 1) := by decide +kernel
theorem dX7_readsCommand_1 : decode cX7_readsCommand 1 = .ok (.aload_n 0, 1) := by decide +kernel
theorem dX7_readsCommand_2 : decode cX7_readsCommand 2 = .ok (.getfield 270, 3) := by decide +kernel
theorem dX7_readsCommand_5 : decode cX7_readsCommand 5 = .ok (.imul, 1) := by decide +kernel
theorem dX7_readsCommand_6 : decode cX7_readsCommand 6 = .ok (.istore_n 1, 1) := by decide +kernel
theorem dX7_readsCommand_7 : decode cX7_readsCommand 7 = .ok (.aload_n 0, 1) := by decide +kernel
theorem dX7_readsCommand_8 : decode cX7_readsCommand 8 = .ok (.invokevirtual 273, 3) := by decide +kernel
theorem dX7_readsCommand_11 : decode cX7_readsCommand 11 = .ok (.istore_n 2, 1) := by decide +kernel
theorem dX7_readsCommand_12 : decode cX7_readsCommand 12 = .ok (.aload_n 0, 1) := by decide +kernel
theorem dX7_readsCommand_13 : decode cX7_readsCommand 13 = .ok (.getfield 44, 3) := by decide +kernel
theorem dX7_readsCommand_16 : decode cX7_readsCommand 16 = .ok (.iload_n 1, 1) := by decide +kernel
theorem dX7_readsCommand_17 : decode cX7_readsCommand 17 = .ok (.iload_n 2, 1) := by decide +kernel
theorem dX7_readsCommand_18 : decode cX7_readsCommand 18 = .ok (.iastore, 1) := by decide +kernel
theorem dX7_readsCommand_19 : decode cX7_readsCommand 19 = .ok (.aload_n 0, 1) := by decide +kernel
theorem dX7_readsCommand_20 : decode cX7_readsCommand 20 = .ok (.dup, 1) := by decide +kernel
theorem dX7_readsCommand_21 : decode cX7_readsCommand 21 = .ok (.getfield 270, 3) := by decide +kernel
theorem dX7_readsCommand_24 : decode cX7_readsCommand 24 = .ok (.iconst 1, 1) := by decide +kernel
theorem dX7_readsCommand_25 : decode cX7_readsCommand 25 = .ok (.iadd, 1) := by decide +kernel
theorem dX7_readsCommand_26 : decode cX7_readsCommand 26 = .ok (.putfield 270, 3) := by decide +kernel
theorem dX7_readsCommand_29 : decode cX7_readsCommand 29 = .ok (.aload_n 0, 1) := by decide +kernel
theorem dX7_readsCommand_30 : decode cX7_readsCommand 30 = .ok (.getfield 244, 3) := by decide +kernel
theorem dX7_readsCommand_33 : decode cX7_readsCommand 33 = .ok (.iconst (-1), 1) := by decide +kernel
theorem dX7_readsCommand_34 : decode cX7_readsCommand 34 = .ok (.if_icmp .eq 4, 3) := by decide +kernel
theorem dX7_readsCommand_37 : decode cX7_readsCommand 37 = .ok (.return_, 1) := by decide +kernel
theorem dX7_readsCommand_38 : decode cX7_readsCommand 38 = .ok (.iload_n 2, 1) := by decide +kernel
theorem dX7_readsCommand_39 : decode cX7_readsCommand 39 = .ok (.iconst 4, 1) := by decide +kernel
theorem dX7_readsCommand_40 : decode cX7_readsCommand 40 = .ok (.if_icmp .eq 8, 3) := by decide +kernel
theorem dX7_readsCommand_43 : decode cX7_readsCommand 43 = .ok (.iload_n 2, 1) := by decide +kernel
theorem dX7_readsCommand_44 : decode cX7_readsCommand 44 = .ok (.iconst 5, 1) := by decide +kernel
theorem dX7_readsCommand_45 : decode cX7_readsCommand 45 = .ok (.if_icmp .ne 9, 3) := by decide +kernel
theorem dX7_readsCommand_48 : decode cX7_readsCommand 48 = .ok (.aload_n 0, 1) := by decide +kernel
theorem dX7_readsCommand_49 : decode cX7_readsCommand 49 = .ok (.iload_n 1, 1) := by decide +kernel
theorem dX7_readsCommand_50 : decode cX7_readsCommand 50 = .ok (.invokevirtual 276, 3) := by decide +kernel
theorem dX7_readsCommand_53 : decode cX7_readsCommand 53 = .ok (.return_, 1) := by decide +kernel
theorem dX7_readsCommand_54 : decode cX7_readsCommand 54 = .ok (.iload_n 2, 1) := by decide +kernel
theorem dX7_readsCommand_55 : decode cX7_readsCommand 55 = .ok (.bipush 6, 2) := by decide +kernel
theorem dX7_readsCommand_57 : decode cX7_readsCommand 57 = .ok (.if_icmp .eq 9, 3) := by decide +kernel
theorem dX7_readsCommand_60 : decode cX7_readsCommand 60 = .ok (.iload_n 2, 1) := by decide +kernel
theorem dX7_readsCommand_61 : decode cX7_readsCommand 61 = .ok (.bipush 10, 2) := by decide +kernel
theorem dX7_readsCommand_63 : decode cX7_readsCommand 63 = .ok (.if_icmp .ne 32, 3) := by decide +kernel
theorem dX7_readsCommand_66 : decode cX7_readsCommand 66 = .ok (.aload_n 0, 1) := by decide +kernel
theorem dX7_readsCommand_67 : decode cX7_readsCommand 67 = .ok (.getfield 44, 3) := by decide +kernel
theorem dX7_readsCommand_70 : decode cX7_readsCommand 70 = .ok (.iload_n 1, 1) := by decide +kernel
theorem dX7_readsCommand_71 : decode cX7_readsCommand 71 = .ok (.iconst 3, 1) := by decide +kernel
theorem dX7_readsCommand_72 : decode cX7_readsCommand 72 = .ok (.iadd, 1) := by decide +kernel
theorem dX7_readsCommand_73 : decode cX7_readsCommand 73 = .ok (.iload_n 2, 1) := by decide +kernel
theorem dX7_readsCommand_74 : decode cX7_readsCommand 74 = .ok (.bipush 6, 2) := by decide +kernel
theorem dX7_readsCommand_76 : decode cX7_readsCommand 76 = .ok (.if_icmp .ne 10, 3) := by decide +kernel
theorem dX7_readsCommand_79 : decode cX7_readsCommand 79 = .ok (.aload_n 0, 1) := by decide +kernel
theorem dX7_readsCommand_80 : decode cX7_readsCommand 80 = .ok (.invokevirtual 279, 3) := by decide +kernel
theorem dX7_readsCommand_83 : decode cX7_readsCommand 83 = .ok (.goto 7, 3) := by decide +kernel
theorem dX7_readsCommand_86 : decode cX7_readsCommand 86 = .ok (.aload_n 0, 1) := by decide +kernel
theorem dX7_readsCommand_87 : decode cX7_readsCommand 87 = .ok (.invokevirtual 253, 3) := by decide +kernel
theorem dX7_readsCommand_90 : decode cX7_readsCommand 90 = .ok (.iastore, 1) := by decide +kernel
theorem dX7_readsCommand_91 : decode cX7_readsCommand 91 = .ok (.aload_n 0, 1) := by decide +kernel
theorem dX7_readsCommand_92 : decode cX7_readsCommand 92 = .ok (.invokevirtual 282, 3) := by decide +kernel
theorem dX7_readsCommand_95 : decode cX7_readsCommand 95 = .ok (.aload_n 0, 1) := by decide +kernel
theorem dX7_readsCommand_96 : decode cX7_readsCommand 96 = .ok (.iload_n 1, 1) := by decide +kernel
theorem dX7_readsCommand_97 : decode cX7_readsCommand 97 = .ok (.iconst 1, 1) := by decide +kernel
theorem dX7_readsCommand_98 : decode cX7_readsCommand 98 = .ok (.iadd, 1) := by decide +kernel
theorem dX7_readsCommand_99 : decode cX7_readsCommand 99 = .ok (.invokevirtual 285, 3) := by decide +kernel
theorem dX7_readsCommand_102 : decode cX7_readsCommand 102 = .ok (.iload_n 2, 1) := by decide +kernel
theorem dX7_readsCommand_103 : decode cX7_readsCommand 103 = .ok (.iconst 2, 1) := by decide +kernel
theorem dX7_readsCommand_104 : decode cX7_readsCommand 104 = .ok (.if_icmp .lt 9, 3) := by decide +kernel
theorem dX7_readsCommand_107 : decode cX7_readsCommand 107 = .ok (.iload_n 2, 1) := by decide +kernel
theorem dX7_readsCommand_108 : decode cX7_readsCommand 108 = .ok (.bipush 7, 2) := by decide +kernel
theorem dX7_readsCommand_110 : decode cX7_readsCommand 110 = .ok (.if_icmp .ne 42, 3) := by decide +kernel
theorem dX7_readsCommand_113 : decode cX7_readsCommand 113 = .ok (.aload_n 0, 1) := by decide +kernel
theorem dX7_readsCommand_114 : decode cX7_readsCommand 114 = .ok (.invokevirtual 282, 3) := by decide +kernel
theorem dX7_readsCommand_117 : decode cX7_readsCommand 117 = .ok (.aload_n 0, 1) := by decide +kernel
theorem dX7_readsCommand_118 : decode cX7_readsCommand 118 = .ok (.getfield 44, 3) := by decide +kernel
theorem dX7_readsCommand_121 : decode cX7_readsCommand 121 = .ok (.iload_n 1, 1) := by decide +kernel
theorem dX7_readsCommand_122 : decode cX7_readsCommand 122 = .ok (.iconst 3, 1) := by decide +kernel
theorem dX7_readsCommand_123 : decode cX7_readsCommand 123 = .ok (.iadd, 1) := by decide +kernel
theorem dX7_readsCommand_124 : decode cX7_readsCommand 124 = .ok (.iload_n 2, 1) := by decide +kernel
theorem dX7_readsCommand_125 : decode cX7_readsCommand 125 = .ok (.ifCond .ne 10, 3) := by decide +kernel
theorem dX7_readsCommand_128 : decode cX7_readsCommand 128 = .ok (.aload_n 0, 1) := by decide +kernel
theorem dX7_readsCommand_129 : decode cX7_readsCommand 129 = .ok (.invokevirtual 288, 3) := by decide +kernel
theorem dX7_readsCommand_132 : decode cX7_readsCommand 132 = .ok (.goto 19, 3) := by decide +kernel
theorem dX7_readsCommand_135 : decode cX7_readsCommand 135 = .ok (.iload_n 2, 1) := by decide +kernel
theorem dX7_readsCommand_136 : decode cX7_readsCommand 136 = .ok (.iconst 1, 1) := by decide +kernel
theorem dX7_readsCommand_137 : decode cX7_readsCommand 137 = .ok (.if_icmp .ne 10, 3) := by decide +kernel
theorem dX7_readsCommand_140 : decode cX7_readsCommand 140 = .ok (.aload_n 0, 1) := by decide +kernel
theorem dX7_readsCommand_141 : decode cX7_readsCommand 141 = .ok (.invokevirtual 253, 3) := by decide +kernel
theorem dX7_readsCommand_144 : decode cX7_readsCommand 144 = .ok (.goto 7, 3) := by decide +kernel
theorem dX7_readsCommand_147 : decode cX7_readsCommand 147 = .ok (.aload_n 0, 1) := by decide +kernel
theorem dX7_readsCommand_148 : decode cX7_readsCommand 148 = .ok (.invokevirtual 279, 3) := by decide +kernel
theorem dX7_readsCommand_151 : decode cX7_readsCommand 151 = .ok (.iastore, 1) := by decide +kernel
theorem dX7_readsCommand_152 : decode cX7_readsCommand 152 = .ok (.return_, 1) := by decide +kernel
set_option maxRecDepth 20000 in
theorem ggX7_readsAll_X7_readsCommand : GoodIn wsX7_readsAll wsX7_readsCommand := goodIn_r _ [10, 5, 11, 4, 12, 13, 14, 9, 15, 3, 2, 16, 17, 18, 19, 20, 21, 22, 23, 24, 25, 26, 27, 28, 29, 30, 31, 32, 33, 34, 35, 36, 37, 38, 39, 40, 41, 42, 43, 44, 45, 46, 47, 48, 49, 50, 51, 52, 53, 54, 55, 56, 57, 58, 59, 60, 61, 62, 63, 64, 65, 66, 67, 68, 69, 70, 71, 72, 73, 74, 75, 76, 77, 78, 79, 80, 81, 82, 83, 84, 85, 86, 87, 88, 89, 90, 91, 92, 93, 94, 95, 96, 97, 98, 99, 100, 101, 102, 103, 104, 105, 106, 107, 108, 109, 110, 111, 112, 113, 114, 115, 116, 117, 118, 119, 120] (by decide +kernel) (by decide +kernel)
set_option maxRecDepth 20000 in
theorem gX7_readsAll_X7_readsCommand : GoodIn wsX7_readsAll (wsV RX7 291 RX7 yX7_readsCommand wsX7_readsCommand) := goodIn_app (goodIn_of _ (by decide +kernel)) ggX7_readsAll_X7_readsCommand
set_option maxRecDepth 20000 in
theorem ggX7_readsAll_X7_reads : GoodIn wsX7_readsAll wsX7_reads := goodIn_r _ [76, 4, 3, 16, 77, 78, 79, 9, 80, 2, 81, 82, 83, 100, 101, 102, 103, 104, 105, 106, 107, 108, 109, 110, 111, 112, 113, 114, 115, 116, 117, 118, 119, 120] (by decide +kernel) (by decide +kernel)
set_option maxRecDepth 20000 in
theorem gX7_readsAll_X7_reads : GoodIn wsX7_readsAll (wsV RX7 250 RX7 yX7_reads wsX7_reads) := goodIn_app (goodIn_of _ (by decide +kernel)) ggX7_readsAll_X7_reads
theorem dX7_readsAll_0 : decode cX7_readsAll 0 = .ok (.aload_n 0, 1) := by decide +kernel
theorem dX7_readsAll_1 : decode cX7_readsAll 1 = .ok (.aload_n 0, 1) := by decide +kernel
theorem dX7_readsAll_2 : decode cX7_readsAll 2 = .ok (.getfield 235, 3) := by decide +kernel
theorem dX7_readsAll_5 : decode cX7_readsAll 5 = .ok (.putfield 241, 3) := by decide +kernel
theorem dX7_readsAll_8 : decode cX7_readsAll 8 = .ok (.aload_n 0, 1) := by decide +kernel
theorem dX7_readsAll_9 : decode cX7_readsAll 9 = .ok (.iconst 0, 1) := by decide +kernel
theorem dX7_readsAll_10 : decode cX7_readsAll 10 = .ok (.putfield 235, 3) := by decide +kernel
theorem dX7_readsAll_13 : decode cX7_readsAll 13 = .ok (.aload_n 0, 1) := by decide +kernel
theorem dX7_readsAll_14 : decode cX7_readsAll 14 = .ok (.iconst 0, 1) := by decide +kernel
theorem dX7_readsAll_15 : decode cX7_readsAll 15 = .ok (.putfield 238, 3) := by decide +kernel
theorem dX7_readsAll_18 : decode cX7_readsAll 18 = .ok (.aload_n 0, 1) := by decide +kernel
theorem dX7_readsAll_19 : decode cX7_readsAll 19 = .ok (.iconst (-1), 1) := by decide +kernel
theorem dX7_readsAll_20 : decode cX7_readsAll 20 = .ok (.putfield 244, 3) := by decide +kernel
theorem dX7_readsAll_23 : decode cX7_readsAll 23 = .ok (.aload_n 0, 1) := by decide +kernel
theorem dX7_readsAll_24 : decode cX7_readsAll 24 = .ok (.iconst 0, 1) := by decide +kernel
theorem dX7_readsAll_25 : decode cX7_readsAll 25 = .ok (.putfield 270, 3) := by decide +kernel
theorem dX7_readsAll_28 : decode cX7_readsAll 28 = .ok (.aload_n 0, 1) := by decide +kernel
theorem dX7_readsAll_29 : decode cX7_readsAll 29 = .ok (.invokevirtual 291, 3) := by decide +kernel
theorem dX7_readsAll_32 : decode cX7_readsAll 32 = .ok (.aload_n 0, 1) := by decide +kernel
theorem dX7_readsAll_33 : decode cX7_readsAll 33 = .ok (.getfield 244, 3) := by decide +kernel
theorem dX7_readsAll_36 : decode cX7_readsAll 36 = .ok (.iconst (-1), 1) := by decide +kernel
theorem dX7_readsAll_37 : decode cX7_readsAll 37 = .ok (.if_icmp .ne 38, 3) := by decide +kernel
theorem dX7_readsAll_40 : decode cX7_readsAll 40 = .ok (.aload_n 0, 1) := by decide +kernel
theorem dX7_readsAll_41 : decode cX7_readsAll 41 = .ok (.getfield 238, 3) := by decide +kernel
theorem dX7_readsAll_44 : decode cX7_readsAll 44 = .ok (.aload_n 0, 1) := by decide +kernel
theorem dX7_readsAll_45 : decode cX7_readsAll 45 = .ok (.getfield 241, 3) := by decide +kernel
theorem dX7_readsAll_48 : decode cX7_readsAll 48 = .ok (.if_icmp .ge 27, 3) := by decide +kernel
theorem dX7_readsAll_51 : decode cX7_readsAll 51 = .ok (.aload_n 0, 1) := by decide +kernel
theorem dX7_readsAll_52 : decode cX7_readsAll 52 = .ok (.bipush 59, 2) := by decide +kernel
theorem dX7_readsAll_54 : decode cX7_readsAll 54 = .ok (.bipush 59, 2) := by decide +kernel
theorem dX7_readsAll_56 : decode cX7_readsAll 56 = .ok (.invokevirtual 250, 3) := by decide +kernel
theorem dX7_readsAll_59 : decode cX7_readsAll 59 = .ok (.istore_n 1, 1) := by decide +kernel
theorem dX7_readsAll_60 : decode cX7_readsAll 60 = .ok (.aload_n 0, 1) := by decide +kernel
theorem dX7_readsAll_61 : decode cX7_readsAll 61 = .ok (.getfield 244, 3) := by decide +kernel
theorem dX7_readsAll_64 : decode cX7_readsAll 64 = .ok (.iconst (-1), 1) := by decide +kernel
theorem dX7_readsAll_65 : decode cX7_readsAll 65 = .ok (.if_icmp .ne 7, 3) := by decide +kernel
theorem dX7_readsAll_68 : decode cX7_readsAll 68 = .ok (.aload_n 0, 1) := by decide +kernel
theorem dX7_readsAll_69 : decode cX7_readsAll 69 = .ok (.invokevirtual 291, 3) := by decide +kernel
theorem dX7_readsAll_72 : decode cX7_readsAll 72 = .ok (.goto (-40), 3) := by decide +kernel
theorem dX7_readsAll_75 : decode cX7_readsAll 75 = .ok (.return_, 1) := by decide +kernel
set_option maxRecDepth 20000 in
theorem ggX7_does_X7_sets : GoodIn wsX7_does wsX7_sets := goodIn_r _ [6, 7, 8, 9, 5, 10, 11, 12, 13, 14, 15, 16, 17, 18, 19, 20, 21, 22, 23, 24, 25, 26, 27, 28, 29, 30, 31, 130, 131, 132, 133, 134, 135, 136, 137, 138, 139, 140, 141, 142, 143, 144, 145, 146, 147, 148, 149, 150] (by decide +kernel) (by decide +kernel)
set_option maxRecDepth 20000 in
theorem gX7_does_X7_sets : GoodIn wsX7_does (wsV RX7 107 RX7 yX7_sets wsX7_sets) := goodIn_app (goodIn_of _ (by decide +kernel)) ggX7_does_X7_sets
set_option maxRecDepth 20000 in
theorem ggX7_does_X7_turns : GoodIn wsX7_does wsX7_turns := goodIn_r _ [35, 7, 8, 9, 5, 10, 11, 12, 13, 14, 15, 16, 17, 18, 19, 20, 21, 22, 23, 24, 25, 26, 27, 28, 29, 30, 31, 130, 131, 132, 133, 134, 135, 136, 137, 138, 139, 140, 141, 142, 143, 144, 145, 146, 147, 148, 149, 150] (by decide +kernel) (by decide +kernel)
set_option maxRecDepth 20000 in
theorem gX7_does_X7_turns : GoodIn wsX7_does (wsV RX7 114 RX7 yX7_turns wsX7_turns) := goodIn_app (goodIn_of _ (by decide +kernel)) ggX7_does_X7_turns
set_option maxRecDepth 20000 in
theorem ggX7_does_X7_pins : GoodIn wsX7_does wsX7_pins := goodIn_r _ [39, 7, 8, 9, 5, 10, 11, 12, 13, 14, 15, 16, 17, 18, 19, 20, 21, 22, 23, 24, 25, 26, 27, 28, 29, 30, 31, 40, 41, 42, 43, 130, 131, 132, 133, 134, 135, 136, 137, 138, 139, 140, 141, 142, 143, 144, 145, 146, 147, 148, 149, 150] (by decide +kernel) (by decide +kernel)
set_option maxRecDepth 20000 in
theorem gX7_does_X7_pins : GoodIn wsX7_does (wsV RX7 120 RX7 yX7_pins wsX7_pins) := goodIn_app (goodIn_of _ (by decide +kernel)) ggX7_does_X7_pins
set_option maxRecDepth 20000 in
theorem ggX7_does_X7_shifts : GoodIn wsX7_does wsX7_shifts := goodIn_r _ [47, 7, 14, 15, 5, 16, 17, 18, 19, 48, 49, 50, 51, 52, 53, 54, 20, 21, 22, 23, 24, 25, 26, 27, 28, 29, 30, 31, 55, 56, 57, 58, 59, 60, 61, 62, 130, 131, 132, 133, 134, 135, 136, 137, 138, 139, 140, 141, 142, 143, 144, 145, 146, 147, 148, 149, 150] (by decide +kernel) (by decide +kernel)
set_option maxRecDepth 20000 in
theorem gX7_does_X7_shifts : GoodIn wsX7_does (wsV RX7 139 RX7 yX7_shifts wsX7_shifts) := goodIn_app (goodIn_of _ (by decide +kernel)) ggX7_does_X7_shifts
set_option maxRecDepth 20000 in
theorem ggX7_does_X7_lays : GoodIn wsX7_does wsX7_lays := goodIn_r _ [66, 7, 8, 9, 5, 10, 11, 12, 13, 14, 15, 16, 17, 18, 19, 67, 68, 69, 70, 71, 72, 73, 27, 28, 29, 30, 31, 74, 75, 76, 77, 130, 131, 132, 133, 134, 135, 136, 137, 138, 139, 140, 141, 142, 143, 144, 145, 146, 147, 148, 149, 150] (by decide +kernel) (by decide +kernel)
set_option maxRecDepth 20000 in
theorem gX7_does_X7_lays : GoodIn wsX7_does (wsV RX7 148 RX7 yX7_lays wsX7_lays) := goodIn_app (goodIn_of _ (by decide +kernel)) ggX7_does_X7_lays
set_option maxRecDepth 20000 in
theorem ggX7_does_X7_locks : GoodIn wsX7_does wsX7_locks := goodIn_r _ [81, 7, 8, 9, 5, 10, 11, 12, 13, 14, 15, 16, 17, 18, 19, 67, 68, 69, 20, 21, 22, 23, 24, 25, 26, 27, 28, 29, 30, 31, 40, 41, 42, 43, 130, 131, 132, 133, 134, 135, 136, 137, 138, 139, 140, 141, 142, 143, 144, 145, 146, 147, 148, 149, 150] (by decide +kernel) (by decide +kernel)
set_option maxRecDepth 20000 in
theorem gX7_does_X7_locks : GoodIn wsX7_does (wsV RX7 151 RX7 yX7_locks wsX7_locks) := goodIn_app (goodIn_of _ (by decide +kernel)) ggX7_does_X7_locks
set_option maxRecDepth 20000 in
theorem ggX7_does_X7_unlocks : GoodIn wsX7_does wsX7_unlocks := goodIn_r _ [85, 7, 8, 9, 5, 10, 11, 12, 13, 14, 15, 16, 17, 18, 19, 20, 21, 22, 23, 24, 25, 26, 27, 28, 29, 30, 31, 130, 131, 132, 133, 134, 135, 136, 137, 138, 139, 140, 141, 142, 143, 144, 145, 146, 147, 148, 149, 150] (by decide +kernel) (by decide +kernel)
set_option maxRecDepth 20000 in
theorem gX7_does_X7_unlocks : GoodIn wsX7_does (wsV RX7 154 RX7 yX7_unlocks wsX7_unlocks) := goodIn_app (goodIn_of _ (by decide +kernel)) ggX7_does_X7_unlocks
set_option maxRecDepth 20000 in
theorem ggX7_does_X7_enters : GoodIn wsX7_does wsX7_enters := goodIn_r _ [89, 7, 8, 9, 5, 10, 11, 12, 13, 14, 15, 16, 17, 18, 19, 20, 21, 22, 23, 24, 25, 26, 27, 28, 29, 30, 31, 90, 91, 92, 93, 130, 131, 132, 133, 134, 135, 136, 137, 138, 139, 140, 141, 142, 143, 144, 145, 146, 147, 148, 149, 150] (by decide +kernel) (by decide +kernel)
set_option maxRecDepth 20000 in
theorem gX7_does_X7_enters : GoodIn wsX7_does (wsV RX7 161 RX7 yX7_enters wsX7_enters) := goodIn_app (goodIn_of _ (by decide +kernel)) ggX7_does_X7_enters
set_option maxRecDepth 20000 in
theorem ggX7_does_X7_walks : GoodIn wsX7_does wsX7_walks := goodIn_r _ [97, 7, 8, 9, 5, 10, 11, 12, 13, 14, 15, 16, 17, 18, 19, 98, 99, 100, 101, 102, 103, 104, 105, 106, 107, 108, 109, 110, 111, 112, 113, 114, 115, 116, 117, 118, 119, 120, 121, 122, 123, 124, 125, 20, 21, 22, 23, 24, 25, 26, 126, 127, 128, 129, 27, 28, 29, 30, 31, 90, 91, 92, 93, 130, 131, 132, 133, 134, 135, 136, 137, 138, 139, 140, 141, 142, 143, 144, 145, 146, 147, 148, 149, 150] (by decide +kernel) (by decide +kernel)
set_option maxRecDepth 20000 in
theorem gX7_does_X7_walks : GoodIn wsX7_does (wsV RX7 183 RX7 yX7_walks wsX7_walks) := goodIn_app (goodIn_of _ (by decide +kernel)) ggX7_does_X7_walks
theorem dX7_does_0 : decode cX7_does 0 = .ok (.aload_n 0, 1) := by decide +kernel
theorem dX7_does_1 : decode cX7_does 1 = .ok (.getfield 44, 3) := by decide +kernel
theorem dX7_does_4 : decode cX7_does 4 = .ok (.iload_n 1, 1) := by decide +kernel
theorem dX7_does_5 : decode cX7_does 5 = .ok (.iconst 1, 1) := by decide +kernel
theorem dX7_does_6 : decode cX7_does 6 = .ok (.iadd, 1) := by decide +kernel
theorem dX7_does_7 : decode cX7_does 7 = .ok (.iaload, 1) := by decide +kernel
theorem dX7_does_8 : decode cX7_does 8 = .ok (.istore_n 2, 1) := by decide +kernel
theorem dX7_does_9 : decode cX7_does 9 = .ok (.aload_n 0, 1) := by decide +kernel
theorem dX7_does_10 : decode cX7_does 10 = .ok (.getfield 44, 3) := by decide +kernel
theorem dX7_does_13 : decode cX7_does 13 = .ok (.iload_n 1, 1) := by decide +kernel
theorem dX7_does_14 : decode cX7_does 14 = .ok (.iconst 2, 1) := by decide +kernel
theorem dX7_does_15 : decode cX7_does 15 = .ok (.iadd, 1) := by decide +kernel
theorem dX7_does_16 : decode cX7_does 16 = .ok (.iaload, 1) := by decide +kernel
theorem dX7_does_17 : decode cX7_does 17 = .ok (.istore_n 3, 1) := by decide +kernel
theorem dX7_does_18 : decode cX7_does 18 = .ok (.aload_n 0, 1) := by decide +kernel
theorem dX7_does_19 : decode cX7_does 19 = .ok (.getfield 44, 3) := by decide +kernel
theorem dX7_does_22 : decode cX7_does 22 = .ok (.iload_n 1, 1) := by decide +kernel
theorem dX7_does_23 : decode cX7_does 23 = .ok (.iconst 3, 1) := by decide +kernel
theorem dX7_does_24 : decode cX7_does 24 = .ok (.iadd, 1) := by decide +kernel
theorem dX7_does_25 : decode cX7_does 25 = .ok (.iaload, 1) := by decide +kernel
theorem dX7_does_26 : decode cX7_does 26 = .ok (.istore 4, 2) := by decide +kernel
theorem dX7_does_28 : decode cX7_does 28 = .ok (.aload_n 0, 1) := by decide +kernel
theorem dX7_does_29 : decode cX7_does 29 = .ok (.getfield 44, 3) := by decide +kernel
theorem dX7_does_32 : decode cX7_does 32 = .ok (.iload_n 1, 1) := by decide +kernel
theorem dX7_does_33 : decode cX7_does 33 = .ok (.iaload, 1) := by decide +kernel
theorem dX7_does_34 : decode cX7_does 34 = .ok (.tableswitch 141 0 9 #[54, 63, 72, 72, 87, 87, 109, 118, 127, 134], 54) := by decide +kernel
theorem dX7_does_88 : decode cX7_does 88 = .ok (.aload_n 0, 1) := by decide +kernel
theorem dX7_does_89 : decode cX7_does 89 = .ok (.iload_n 2, 1) := by decide +kernel
theorem dX7_does_90 : decode cX7_does 90 = .ok (.iload_n 3, 1) := by decide +kernel
theorem dX7_does_91 : decode cX7_does 91 = .ok (.iload 4, 2) := by decide +kernel
theorem dX7_does_93 : decode cX7_does 93 = .ok (.invokevirtual 107, 3) := by decide +kernel
theorem dX7_does_96 : decode cX7_does 96 = .ok (.ireturn, 1) := by decide +kernel
theorem dX7_does_97 : decode cX7_does 97 = .ok (.aload_n 0, 1) := by decide +kernel
theorem dX7_does_98 : decode cX7_does 98 = .ok (.iload_n 2, 1) := by decide +kernel
theorem dX7_does_99 : decode cX7_does 99 = .ok (.iload_n 3, 1) := by decide +kernel
theorem dX7_does_100 : decode cX7_does 100 = .ok (.iload 4, 2) := by decide +kernel
theorem dX7_does_102 : decode cX7_does 102 = .ok (.invokevirtual 114, 3) := by decide +kernel
theorem dX7_does_105 : decode cX7_does 105 = .ok (.ireturn, 1) := by decide +kernel
theorem dX7_does_106 : decode cX7_does 106 = .ok (.aload_n 0, 1) := by decide +kernel
theorem dX7_does_107 : decode cX7_does 107 = .ok (.iload_n 2, 1) := by decide +kernel
theorem dX7_does_108 : decode cX7_does 108 = .ok (.iload_n 3, 1) := by decide +kernel
theorem dX7_does_109 : decode cX7_does 109 = .ok (.iconst 3, 1) := by decide +kernel
theorem dX7_does_110 : decode cX7_does 110 = .ok (.aload_n 0, 1) := by decide +kernel
theorem dX7_does_111 : decode cX7_does 111 = .ok (.getfield 44, 3) := by decide +kernel
theorem dX7_does_114 : decode cX7_does 114 = .ok (.iload_n 1, 1) := by decide +kernel
theorem dX7_does_115 : decode cX7_does 115 = .ok (.iaload, 1) := by decide +kernel
theorem dX7_does_116 : decode cX7_does 116 = .ok (.isub, 1) := by decide +kernel
theorem dX7_does_117 : decode cX7_does 117 = .ok (.invokevirtual 120, 3) := by decide +kernel
theorem dX7_does_120 : decode cX7_does 120 = .ok (.ireturn, 1) := by decide +kernel
theorem dX7_does_121 : decode cX7_does 121 = .ok (.aload_n 0, 1) := by decide +kernel
theorem dX7_does_122 : decode cX7_does 122 = .ok (.aload_n 0, 1) := by decide +kernel
theorem dX7_does_123 : decode cX7_does 123 = .ok (.getfield 44, 3) := by decide +kernel
theorem dX7_does_126 : decode cX7_does 126 = .ok (.iload_n 1, 1) := by decide +kernel
theorem dX7_does_127 : decode cX7_does 127 = .ok (.iaload, 1) := by decide +kernel
theorem dX7_does_128 : decode cX7_does 128 = .ok (.iconst 4, 1) := by decide +kernel
theorem dX7_does_129 : decode cX7_does 129 = .ok (.if_icmp .ne 7, 3) := by decide +kernel
theorem dX7_does_132 : decode cX7_does 132 = .ok (.iconst 1, 1) := by decide +kernel
theorem dX7_does_133 : decode cX7_does 133 = .ok (.goto 4, 3) := by decide +kernel
theorem dX7_does_136 : decode cX7_does 136 = .ok (.iconst 0, 1) := by decide +kernel
theorem dX7_does_137 : decode cX7_does 137 = .ok (.iload_n 2, 1) := by decide +kernel
theorem dX7_does_138 : decode cX7_does 138 = .ok (.iload_n 3, 1) := by decide +kernel
theorem dX7_does_139 : decode cX7_does 139 = .ok (.invokevirtual 139, 3) := by decide +kernel
theorem dX7_does_142 : decode cX7_does 142 = .ok (.ireturn, 1) := by decide +kernel
theorem dX7_does_143 : decode cX7_does 143 = .ok (.aload_n 0, 1) := by decide +kernel
theorem dX7_does_144 : decode cX7_does 144 = .ok (.iload 4, 2) := by decide +kernel
theorem dX7_does_146 : decode cX7_does 146 = .ok (.iload_n 2, 1) := by decide +kernel
theorem dX7_does_147 : decode cX7_does 147 = .ok (.iload_n 3, 1) := by decide +kernel
theorem dX7_does_148 : decode cX7_does 148 = .ok (.invokevirtual 148, 3) := by decide +kernel
theorem dX7_does_151 : decode cX7_does 151 = .ok (.ireturn, 1) := by decide +kernel
theorem dX7_does_152 : decode cX7_does 152 = .ok (.aload_n 0, 1) := by decide +kernel
theorem dX7_does_153 : decode cX7_does 153 = .ok (.iload_n 2, 1) := by decide +kernel
theorem dX7_does_154 : decode cX7_does 154 = .ok (.iload_n 3, 1) := by decide +kernel
theorem dX7_does_155 : decode cX7_does 155 = .ok (.iload 4, 2) := by decide +kernel
theorem dX7_does_157 : decode cX7_does 157 = .ok (.invokevirtual 151, 3) := by decide +kernel
theorem dX7_does_160 : decode cX7_does 160 = .ok (.ireturn, 1) := by decide +kernel
theorem dX7_does_161 : decode cX7_does 161 = .ok (.aload_n 0, 1) := by decide +kernel
theorem dX7_does_162 : decode cX7_does 162 = .ok (.iload_n 2, 1) := by decide +kernel
theorem dX7_does_163 : decode cX7_does 163 = .ok (.iload_n 3, 1) := by decide +kernel
theorem dX7_does_164 : decode cX7_does 164 = .ok (.invokevirtual 154, 3) := by decide +kernel
theorem dX7_does_167 : decode cX7_does 167 = .ok (.ireturn, 1) := by decide +kernel
theorem dX7_does_168 : decode cX7_does 168 = .ok (.aload_n 0, 1) := by decide +kernel
theorem dX7_does_169 : decode cX7_does 169 = .ok (.iload_n 2, 1) := by decide +kernel
theorem dX7_does_170 : decode cX7_does 170 = .ok (.iload_n 3, 1) := by decide +kernel
theorem dX7_does_171 : decode cX7_does 171 = .ok (.invokevirtual 161, 3) := by decide +kernel
theorem dX7_does_174 : decode cX7_does 174 = .ok (.ireturn, 1) := by decide +kernel
theorem dX7_does_175 : decode cX7_does 175 = .ok (.aload_n 0, 1) := by decide +kernel
theorem dX7_does_176 : decode cX7_does 176 = .ok (.iload 4, 2) := by decide +kernel
theorem dX7_does_178 : decode cX7_does 178 = .ok (.iload_n 2, 1) := by decide +kernel
theorem dX7_does_179 : decode cX7_does 179 = .ok (.iload_n 3, 1) := by decide +kernel
theorem dX7_does_180 : decode cX7_does 180 = .ok (.invokevirtual 183, 3) := by decide +kernel
theorem dX7_does_183 : decode cX7_does 183 = .ok (.ireturn, 1) := by decide +kernel
set_option maxRecDepth 20000 in
theorem ggX7_run_X7_readsAll : GoodIn wsX7_run wsX7_readsAll := goodIn_r _ [12, 13, 14, 15, 1, 4, 16, 17, 18, 11, 19, 20, 21, 22, 23, 24, 25, 26, 27, 28, 29, 30, 31, 32, 33, 34, 35, 36, 37, 38, 39, 40, 41, 42, 43, 44, 45, 46, 47, 48, 49, 50, 51, 52, 53, 54, 55, 56, 57, 58, 59, 60, 61, 62, 63, 64, 65, 66, 67, 68, 69, 70, 71, 72, 73, 74, 75, 76, 77, 78, 79, 80, 81, 82, 83, 84, 85, 86, 87, 88, 89, 90, 91, 92, 93, 94, 95, 96, 97, 98, 99, 100, 101, 102, 103, 104, 105, 106, 107, 108, 252, 253, 254, 255, 256, 257, 258, 259, 260, 261, 262, 263, 264, 265, 266, 267, 268, 269, 270, 271, 272] (by decide +kernel) (by decide +kernel)
set_option maxRecDepth 20000 in
theorem gX7_run_X7_readsAll : GoodIn wsX7_run (wsV RX7 294 RX7 yX7_readsAll wsX7_readsAll) := goodIn_app (goodIn_of _ (by decide +kernel)) ggX7_run_X7_readsAll
set_option maxRecDepth 20000 in
theorem ggX7_run_X7_begins : GoodIn wsX7_run wsX7_begins := goodIn_r _ [112, 7, 6, 113, 114, 11, 115, 252, 253, 254, 255, 256, 257, 258, 259, 260, 261, 262, 263, 264, 265, 266, 267, 268, 269, 270, 271, 272] (by decide +kernel) (by decide +kernel)
set_option maxRecDepth 20000 in
theorem gX7_run_X7_begins : GoodIn wsX7_run (wsV RX7 104 RX7 yX7_begins wsX7_begins) := goodIn_app (goodIn_of _ (by decide +kernel)) ggX7_run_X7_begins
set_option maxRecDepth 20000 in
theorem ggX7_run_X7_does : GoodIn wsX7_run wsX7_does := goodIn_r _ [119, 20, 120, 121, 122, 11, 123, 7, 124, 125, 126, 127, 128, 129, 130, 131, 132, 90, 91, 92, 133, 134, 135, 136, 137, 138, 139, 140, 141, 142, 143, 3, 144, 145, 146, 147, 148, 149, 150, 151, 152, 153, 154, 155, 156, 157, 158, 159, 160, 161, 162, 163, 164, 165, 166, 167, 168, 169, 170, 171, 172, 173, 174, 175, 176, 177, 178, 179, 180, 181, 182, 183, 184, 185, 186, 187, 188, 189, 190, 191, 192, 193, 194, 195, 196, 197, 198, 199, 200, 201, 202, 203, 204, 205, 206, 207, 208, 209, 210, 211, 212, 213, 214, 215, 216, 217, 218, 219, 220, 221, 222, 223, 224, 225, 226, 227, 228, 229, 230, 231, 232, 233, 234, 235, 236, 237, 238, 239, 240, 241, 252, 253, 254, 255, 256, 257, 258, 259, 260, 261, 262, 263, 264, 265, 266, 267, 268, 269, 270, 271, 272] (by decide +kernel) (by decide +kernel)
set_option maxRecDepth 20000 in
theorem gX7_run_X7_does : GoodIn wsX7_run (wsV RX7 297 RX7 yX7_does wsX7_does) := goodIn_app (goodIn_of _ (by decide +kernel)) ggX7_run_X7_does
set_option maxRecDepth 20000 in
theorem ggX7_run_X7_copies : GoodIn wsX7_run wsX7_copies := goodIn_r _ [115] (by decide +kernel) (by decide +kernel)
set_option maxRecDepth 20000 in
theorem gX7_run_X7_copies : GoodIn wsX7_run (va_wsS RX7 58 yX7_copies wsX7_copies) := goodIn_app (goodIn_of _ (by decide +kernel)) ggX7_run_X7_copies
set_option maxRecDepth 20000 in
theorem ggX7_run_X7_ends : GoodIn wsX7_run wsX7_ends := goodIn_r _ [245, 3, 6, 7, 113, 114, 11, 115, 246, 247, 248, 249, 250, 251, 252, 253, 254, 255, 256, 257, 258, 259, 260, 261, 262, 263, 264, 265, 266, 267, 268, 269, 270, 271, 272] (by decide +kernel) (by decide +kernel)
set_option maxRecDepth 20000 in
theorem gX7_run_X7_ends : GoodIn wsX7_run (wsV RX7 111 RX7 yX7_ends wsX7_ends) := goodIn_app (goodIn_of _ (by decide +kernel)) ggX7_run_X7_ends
theorem dX7_run_0 : decode cX7_run 0 = .ok (.aload_n 0, 1) := by decide +kernel
theorem dX7_run_1 : decode cX7_run 1 = .ok (.invokevirtual 294, 3) := by decide +kernel
theorem dX7_run_4 : decode cX7_run 4 = .ok (.aload_n 0, 1) := by decide +kernel
theorem dX7_run_5 : decode cX7_run 5 = .ok (.getfield 244, 3) := by decide +kernel
theorem dX7_run_8 : decode cX7_run 8 = .ok (.iconst (-1), 1) := by decide +kernel
theorem dX7_run_9 : decode cX7_run 9 = .ok (.if_icmp .eq 18, 3) := by decide +kernel
theorem dX7_run_12 : decode cX7_run 12 = .ok (.aload_n 0, 1) := by decide +kernel
theorem dX7_run_13 : decode cX7_run 13 = .ok (.aload_n 0, 1) := by decide +kernel
theorem dX7_run_14 : decode cX7_run 14 = .ok (.getfield 244, 3) := by decide +kernel
theorem dX7_run_17 : decode cX7_run 17 = .ok (.putfield 25, 3) := by decide +kernel
theorem dX7_run_20 : decode cX7_run 20 = .ok (.aload_n 0, 1) := by decide +kernel
theorem dX7_run_21 : decode cX7_run 21 = .ok (.iconst 1, 1) := by decide +kernel
theorem dX7_run_22 : decode cX7_run 22 = .ok (.putfield 51, 3) := by decide +kernel
theorem dX7_run_25 : decode cX7_run 25 = .ok (.iconst 0, 1) := by decide +kernel
theorem dX7_run_26 : decode cX7_run 26 = .ok (.ireturn, 1) := by decide +kernel
theorem dX7_run_27 : decode cX7_run 27 = .ok (.aload_n 0, 1) := by decide +kernel
theorem dX7_run_28 : decode cX7_run 28 = .ok (.invokevirtual 104, 3) := by decide +kernel
theorem dX7_run_31 : decode cX7_run 31 = .ok (.aload_n 0, 1) := by decide +kernel
theorem dX7_run_32 : decode cX7_run 32 = .ok (.iconst 0, 1) := by decide +kernel
theorem dX7_run_33 : decode cX7_run 33 = .ok (.putfield 51, 3) := by decide +kernel
theorem dX7_run_36 : decode cX7_run 36 = .ok (.iconst 0, 1) := by decide +kernel
theorem dX7_run_37 : decode cX7_run 37 = .ok (.istore_n 1, 1) := by decide +kernel
theorem dX7_run_38 : decode cX7_run 38 = .ok (.iload_n 1, 1) := by decide +kernel
theorem dX7_run_39 : decode cX7_run 39 = .ok (.aload_n 0, 1) := by decide +kernel
theorem dX7_run_40 : decode cX7_run 40 = .ok (.getfield 270, 3) := by decide +kernel
theorem dX7_run_43 : decode cX7_run 43 = .ok (.if_icmp .ge 49, 3) := by decide +kernel
theorem dX7_run_46 : decode cX7_run 46 = .ok (.aload_n 0, 1) := by decide +kernel
theorem dX7_run_47 : decode cX7_run 47 = .ok (.iconst 4, 1) := by decide +kernel
theorem dX7_run_48 : decode cX7_run 48 = .ok (.iload_n 1, 1) := by decide +kernel
theorem dX7_run_49 : decode cX7_run 49 = .ok (.imul, 1) := by decide +kernel
theorem dX7_run_50 : decode cX7_run 50 = .ok (.invokevirtual 297, 3) := by decide +kernel
theorem dX7_run_53 : decode cX7_run 53 = .ok (.istore_n 2, 1) := by decide +kernel
theorem dX7_run_54 : decode cX7_run 54 = .ok (.aload_n 0, 1) := by decide +kernel
theorem dX7_run_55 : decode cX7_run 55 = .ok (.getfield 51, 3) := by decide +kernel
theorem dX7_run_58 : decode cX7_run 58 = .ok (.ifCond .eq 28, 3) := by decide +kernel
theorem dX7_run_61 : decode cX7_run 61 = .ok (.aload_n 0, 1) := by decide +kernel
theorem dX7_run_62 : decode cX7_run 62 = .ok (.iload_n 1, 1) := by decide +kernel
theorem dX7_run_63 : decode cX7_run 63 = .ok (.putfield 29, 3) := by decide +kernel
theorem dX7_run_66 : decode cX7_run 66 = .ok (.aload_n 0, 1) := by decide +kernel
theorem dX7_run_67 : decode cX7_run 67 = .ok (.iconst 2, 1) := by decide +kernel
theorem dX7_run_68 : decode cX7_run 68 = .ok (.putfield 51, 3) := by decide +kernel
theorem dX7_run_71 : decode cX7_run 71 = .ok (.aload_n 0, 1) := by decide +kernel
theorem dX7_run_72 : decode cX7_run 72 = .ok (.getfield 13, 3) := by decide +kernel
theorem dX7_run_75 : decode cX7_run 75 = .ok (.iconst 0, 1) := by decide +kernel
theorem dX7_run_76 : decode cX7_run 76 = .ok (.aload_n 0, 1) := by decide +kernel
theorem dX7_run_77 : decode cX7_run 77 = .ok (.getfield 9, 3) := by decide +kernel
theorem dX7_run_80 : decode cX7_run 80 = .ok (.iconst 0, 1) := by decide +kernel
theorem dX7_run_81 : decode cX7_run 81 = .ok (.invokestatic 58, 3) := by decide +kernel
theorem dX7_run_84 : decode cX7_run 84 = .ok (.iconst 0, 1) := by decide +kernel
theorem dX7_run_85 : decode cX7_run 85 = .ok (.ireturn, 1) := by decide +kernel
theorem dX7_run_86 : decode cX7_run 86 = .ok (.iinc 1 1, 3) := by decide +kernel
theorem dX7_run_89 : decode cX7_run 89 = .ok (.goto (-51), 3) := by decide +kernel
theorem dX7_run_92 : decode cX7_run 92 = .ok (.aload_n 0, 1) := by decide +kernel
theorem dX7_run_93 : decode cX7_run 93 = .ok (.aload_n 0, 1) := by decide +kernel
theorem dX7_run_94 : decode cX7_run 94 = .ok (.getfield 270, 3) := by decide +kernel
theorem dX7_run_97 : decode cX7_run 97 = .ok (.invokevirtual 111, 3) := by decide +kernel
theorem dX7_run_100 : decode cX7_run 100 = .ok (.ireturn, 1) := by decide +kernel
set_option maxRecDepth 20000 in
theorem ggX7_errorPosition_X7_goes : GoodIn wsX7_errorPosition wsX7_goes := goodIn_r _ [6, 7, 8, 9, 5, 10, 11, 12, 13, 14, 15, 16, 17, 18, 19, 20, 21, 22, 23, 24, 25, 26, 27, 28, 29, 30, 31, 32] (by decide +kernel) (by decide +kernel)
set_option maxRecDepth 20000 in
theorem gX7_errorPosition_X7_goes : GoodIn wsX7_errorPosition (wsV RX7 68 RX7 yX7_goes wsX7_goes) := goodIn_app (goodIn_of _ (by decide +kernel)) ggX7_errorPosition_X7_goes
theorem dX7_errorPosition_0 : decode cX7_errorPosition 0 = .ok (.aload_n 0, 1) := by decide +kernel
theorem dX7_errorPosition_1 : decode cX7_errorPosition 1 = .ok (.aload_n 0, 1) := by decide +kernel
theorem dX7_errorPosition_2 : decode cX7_errorPosition 2 = .ok (.getfield 25, 3) := by decide +kernel
theorem dX7_errorPosition_5 : decode cX7_errorPosition 5 = .ok (.iconst (-1), 1) := by decide +kernel
theorem dX7_errorPosition_6 : decode cX7_errorPosition 6 = .ok (.if_icmp .eq 7, 3) := by decide +kernel
theorem dX7_errorPosition_9 : decode cX7_errorPosition 9 = .ok (.iconst 1, 1) := by decide +kernel
theorem dX7_errorPosition_10 : decode cX7_errorPosition 10 = .ok (.goto 4, 3) := by decide +kernel
theorem dX7_errorPosition_13 : decode cX7_errorPosition 13 = .ok (.iconst 0, 1) := by decide +kernel
theorem dX7_errorPosition_14 : decode cX7_errorPosition 14 = .ok (.invokevirtual 68, 3) := by decide +kernel
theorem dX7_errorPosition_17 : decode cX7_errorPosition 17 = .ok (.ifCond .eq 10, 3) := by decide +kernel
theorem dX7_errorPosition_20 : decode cX7_errorPosition 20 = .ok (.aload_n 0, 1) := by decide +kernel
theorem dX7_errorPosition_21 : decode cX7_errorPosition 21 = .ok (.getfield 25, 3) := by decide +kernel
theorem dX7_errorPosition_24 : decode cX7_errorPosition 24 = .ok (.goto 4, 3) := by decide +kernel
theorem dX7_errorPosition_27 : decode cX7_errorPosition 27 = .ok (.iconst 0, 1) := by decide +kernel
theorem dX7_errorPosition_28 : decode cX7_errorPosition 28 = .ok (.ireturn, 1) := by decide +kernel
set_option maxRecDepth 20000 in
theorem ggX7_failedCommand_X7_goes : GoodIn wsX7_failedCommand wsX7_goes := goodIn_r _ [6, 7, 8, 9, 5, 10, 11, 12, 13, 14, 15, 16, 17, 18, 19, 20, 21, 22, 23, 24, 25, 26, 27, 28, 29, 30, 31, 32] (by decide +kernel) (by decide +kernel)
set_option maxRecDepth 20000 in
theorem gX7_failedCommand_X7_goes : GoodIn wsX7_failedCommand (wsV RX7 68 RX7 yX7_goes wsX7_goes) := goodIn_app (goodIn_of _ (by decide +kernel)) ggX7_failedCommand_X7_goes
theorem dX7_failedCommand_0 : decode cX7_failedCommand 0 = .ok (.aload_n 0, 1) := by decide +kernel
theorem dX7_failedCommand_1 : decode cX7_failedCommand 1 = .ok (.aload_n 0, 1) := by decide +kernel
theorem dX7_failedCommand_2 : decode cX7_failedCommand 2 = .ok (.getfield 29, 3) := by decide +kernel
theorem dX7_failedCommand_5 : decode cX7_failedCommand 5 = .ok (.iconst (-1), 1) := by decide +kernel
theorem dX7_failedCommand_6 : decode cX7_failedCommand 6 = .ok (.if_icmp .eq 7, 3) := by decide +kernel
theorem dX7_failedCommand_9 : decode cX7_failedCommand 9 = .ok (.iconst 1, 1) := by decide +kernel
theorem dX7_failedCommand_10 : decode cX7_failedCommand 10 = .ok (.goto 4, 3) := by decide +kernel
theorem dX7_failedCommand_13 : decode cX7_failedCommand 13 = .ok (.iconst 0, 1) := by decide +kernel
theorem dX7_failedCommand_14 : decode cX7_failedCommand 14 = .ok (.invokevirtual 68, 3) := by decide +kernel
theorem dX7_failedCommand_17 : decode cX7_failedCommand 17 = .ok (.ifCond .eq 10, 3) := by decide +kernel
theorem dX7_failedCommand_20 : decode cX7_failedCommand 20 = .ok (.aload_n 0, 1) := by decide +kernel
theorem dX7_failedCommand_21 : decode cX7_failedCommand 21 = .ok (.getfield 29, 3) := by decide +kernel
theorem dX7_failedCommand_24 : decode cX7_failedCommand 24 = .ok (.goto 4, 3) := by decide +kernel
theorem dX7_failedCommand_27 : decode cX7_failedCommand 27 = .ok (.iconst 0, 1) := by decide +kernel
theorem dX7_failedCommand_28 : decode cX7_failedCommand 28 = .ok (.ireturn, 1) := by decide +kernel
theorem dJx29ce0_ordinal_8abf5_0 : decode cJx29ce0_ordinal_8abf5 0 = .ok (.aload_n 0, 1) := by decide +kernel
theorem dJx29ce0_ordinal_8abf5_1 : decode cJx29ce0_ordinal_8abf5 1 = .ok (.getfield 7, 3) := by decide +kernel
theorem dJx29ce0_ordinal_8abf5_4 : decode cJx29ce0_ordinal_8abf5 4 = .ok (.ireturn, 1) := by decide +kernel
theorem dJ6_bitCount_0f7a4_0 : decode cJ6_bitCount_0f7a4 0 = .ok (.iload_n 0, 1) := by decide +kernel
theorem dJ6_bitCount_0f7a4_1 : decode cJ6_bitCount_0f7a4 1 = .ok (.iload_n 0, 1) := by decide +kernel
theorem dJ6_bitCount_0f7a4_2 : decode cJ6_bitCount_0f7a4 2 = .ok (.iconst 1, 1) := by decide +kernel
theorem dJ6_bitCount_0f7a4_3 : decode cJ6_bitCount_0f7a4 3 = .ok (.iushr, 1) := by decide +kernel
theorem dJ6_bitCount_0f7a4_4 : decode cJ6_bitCount_0f7a4 4 = .ok (.ldc_w 265, 3) := by decide +kernel
theorem dJ6_bitCount_0f7a4_7 : decode cJ6_bitCount_0f7a4 7 = .ok (.iand, 1) := by decide +kernel
theorem dJ6_bitCount_0f7a4_8 : decode cJ6_bitCount_0f7a4 8 = .ok (.isub, 1) := by decide +kernel
theorem dJ6_bitCount_0f7a4_9 : decode cJ6_bitCount_0f7a4 9 = .ok (.istore_n 0, 1) := by decide +kernel
theorem dJ6_bitCount_0f7a4_10 : decode cJ6_bitCount_0f7a4 10 = .ok (.iload_n 0, 1) := by decide +kernel
theorem dJ6_bitCount_0f7a4_11 : decode cJ6_bitCount_0f7a4 11 = .ok (.ldc_w 266, 3) := by decide +kernel
theorem dJ6_bitCount_0f7a4_14 : decode cJ6_bitCount_0f7a4 14 = .ok (.iand, 1) := by decide +kernel
theorem dJ6_bitCount_0f7a4_15 : decode cJ6_bitCount_0f7a4 15 = .ok (.iload_n 0, 1) := by decide +kernel
theorem dJ6_bitCount_0f7a4_16 : decode cJ6_bitCount_0f7a4 16 = .ok (.iconst 2, 1) := by decide +kernel
theorem dJ6_bitCount_0f7a4_17 : decode cJ6_bitCount_0f7a4 17 = .ok (.iushr, 1) := by decide +kernel
theorem dJ6_bitCount_0f7a4_18 : decode cJ6_bitCount_0f7a4 18 = .ok (.ldc_w 266, 3) := by decide +kernel
theorem dJ6_bitCount_0f7a4_21 : decode cJ6_bitCount_0f7a4 21 = .ok (.iand, 1) := by decide +kernel
theorem dJ6_bitCount_0f7a4_22 : decode cJ6_bitCount_0f7a4 22 = .ok (.iadd, 1) := by decide +kernel
theorem dJ6_bitCount_0f7a4_23 : decode cJ6_bitCount_0f7a4 23 = .ok (.istore_n 0, 1) := by decide +kernel
theorem dJ6_bitCount_0f7a4_24 : decode cJ6_bitCount_0f7a4 24 = .ok (.iload_n 0, 1) := by decide +kernel
theorem dJ6_bitCount_0f7a4_25 : decode cJ6_bitCount_0f7a4 25 = .ok (.iload_n 0, 1) := by decide +kernel
theorem dJ6_bitCount_0f7a4_26 : decode cJ6_bitCount_0f7a4 26 = .ok (.iconst 4, 1) := by decide +kernel
theorem dJ6_bitCount_0f7a4_27 : decode cJ6_bitCount_0f7a4 27 = .ok (.iushr, 1) := by decide +kernel
theorem dJ6_bitCount_0f7a4_28 : decode cJ6_bitCount_0f7a4 28 = .ok (.iadd, 1) := by decide +kernel
theorem dJ6_bitCount_0f7a4_29 : decode cJ6_bitCount_0f7a4 29 = .ok (.ldc_w 267, 3) := by decide +kernel
theorem dJ6_bitCount_0f7a4_32 : decode cJ6_bitCount_0f7a4 32 = .ok (.iand, 1) := by decide +kernel
theorem dJ6_bitCount_0f7a4_33 : decode cJ6_bitCount_0f7a4 33 = .ok (.istore_n 0, 1) := by decide +kernel
theorem dJ6_bitCount_0f7a4_34 : decode cJ6_bitCount_0f7a4 34 = .ok (.iload_n 0, 1) := by decide +kernel
theorem dJ6_bitCount_0f7a4_35 : decode cJ6_bitCount_0f7a4 35 = .ok (.iload_n 0, 1) := by decide +kernel
theorem dJ6_bitCount_0f7a4_36 : decode cJ6_bitCount_0f7a4 36 = .ok (.bipush 8, 2) := by decide +kernel
theorem dJ6_bitCount_0f7a4_38 : decode cJ6_bitCount_0f7a4 38 = .ok (.iushr, 1) := by decide +kernel
theorem dJ6_bitCount_0f7a4_39 : decode cJ6_bitCount_0f7a4 39 = .ok (.iadd, 1) := by decide +kernel
theorem dJ6_bitCount_0f7a4_40 : decode cJ6_bitCount_0f7a4 40 = .ok (.istore_n 0, 1) := by decide +kernel
theorem dJ6_bitCount_0f7a4_41 : decode cJ6_bitCount_0f7a4 41 = .ok (.iload_n 0, 1) := by decide +kernel
theorem dJ6_bitCount_0f7a4_42 : decode cJ6_bitCount_0f7a4 42 = .ok (.iload_n 0, 1) := by decide +kernel
theorem dJ6_bitCount_0f7a4_43 : decode cJ6_bitCount_0f7a4 43 = .ok (.bipush 16, 2) := by decide +kernel
theorem dJ6_bitCount_0f7a4_45 : decode cJ6_bitCount_0f7a4 45 = .ok (.iushr, 1) := by decide +kernel
theorem dJ6_bitCount_0f7a4_46 : decode cJ6_bitCount_0f7a4 46 = .ok (.iadd, 1) := by decide +kernel
theorem dJ6_bitCount_0f7a4_47 : decode cJ6_bitCount_0f7a4 47 = .ok (.istore_n 0, 1) := by decide +kernel
theorem dJ6_bitCount_0f7a4_48 : decode cJ6_bitCount_0f7a4 48 = .ok (.iload_n 0, 1) := by decide +kernel
theorem dJ6_bitCount_0f7a4_49 : decode cJ6_bitCount_0f7a4 49 = .ok (.bipush 63, 2) := by decide +kernel
theorem dJ6_bitCount_0f7a4_51 : decode cJ6_bitCount_0f7a4 51 = .ok (.iand, 1) := by decide +kernel
theorem dJ6_bitCount_0f7a4_52 : decode cJ6_bitCount_0f7a4 52 = .ok (.ireturn, 1) := by decide +kernel
theorem dJ9_floorMod_7cf53_0 : decode cJ9_floorMod_7cf53 0 = .ok (.iload_n 0, 1) := by decide +kernel
theorem dJ9_floorMod_7cf53_1 : decode cJ9_floorMod_7cf53 1 = .ok (.iload_n 1, 1) := by decide +kernel
theorem dJ9_floorMod_7cf53_2 : decode cJ9_floorMod_7cf53 2 = .ok (.irem, 1) := by decide +kernel
theorem dJ9_floorMod_7cf53_3 : decode cJ9_floorMod_7cf53 3 = .ok (.istore_n 2, 1) := by decide +kernel
theorem dJ9_floorMod_7cf53_4 : decode cJ9_floorMod_7cf53 4 = .ok (.iload_n 0, 1) := by decide +kernel
theorem dJ9_floorMod_7cf53_5 : decode cJ9_floorMod_7cf53 5 = .ok (.iload_n 1, 1) := by decide +kernel
theorem dJ9_floorMod_7cf53_6 : decode cJ9_floorMod_7cf53 6 = .ok (.ixor, 1) := by decide +kernel
theorem dJ9_floorMod_7cf53_7 : decode cJ9_floorMod_7cf53 7 = .ok (.ifCond .ge 11, 3) := by decide +kernel
theorem dJ9_floorMod_7cf53_10 : decode cJ9_floorMod_7cf53 10 = .ok (.iload_n 2, 1) := by decide +kernel
theorem dJ9_floorMod_7cf53_11 : decode cJ9_floorMod_7cf53 11 = .ok (.ifCond .eq 7, 3) := by decide +kernel
theorem dJ9_floorMod_7cf53_14 : decode cJ9_floorMod_7cf53 14 = .ok (.iload_n 2, 1) := by decide +kernel
theorem dJ9_floorMod_7cf53_15 : decode cJ9_floorMod_7cf53 15 = .ok (.iload_n 1, 1) := by decide +kernel
theorem dJ9_floorMod_7cf53_16 : decode cJ9_floorMod_7cf53 16 = .ok (.iadd, 1) := by decide +kernel
theorem dJ9_floorMod_7cf53_17 : decode cJ9_floorMod_7cf53 17 = .ok (.ireturn, 1) := by decide +kernel
theorem dJ9_floorMod_7cf53_18 : decode cJ9_floorMod_7cf53 18 = .ok (.iload_n 2, 1) := by decide +kernel
theorem dJ9_floorMod_7cf53_19 : decode cJ9_floorMod_7cf53 19 = .ok (.ireturn, 1) := by decide +kernel
theorem dJ9_max_7cf53_0 : decode cJ9_max_7cf53 0 = .ok (.iload_n 0, 1) := by decide +kernel
theorem dJ9_max_7cf53_1 : decode cJ9_max_7cf53 1 = .ok (.iload_n 1, 1) := by decide +kernel
theorem dJ9_max_7cf53_2 : decode cJ9_max_7cf53 2 = .ok (.if_icmp .lt 7, 3) := by decide +kernel
theorem dJ9_max_7cf53_5 : decode cJ9_max_7cf53 5 = .ok (.iload_n 0, 1) := by decide +kernel
theorem dJ9_max_7cf53_6 : decode cJ9_max_7cf53 6 = .ok (.goto 4, 3) := by decide +kernel
theorem dJ9_max_7cf53_9 : decode cJ9_max_7cf53 9 = .ok (.iload_n 1, 1) := by decide +kernel
theorem dJ9_max_7cf53_10 : decode cJ9_max_7cf53 10 = .ok (.ireturn, 1) := by decide +kernel
theorem dJ9_min_7cf53_0 : decode cJ9_min_7cf53 0 = .ok (.iload_n 0, 1) := by decide +kernel
theorem dJ9_min_7cf53_1 : decode cJ9_min_7cf53 1 = .ok (.iload_n 1, 1) := by decide +kernel
theorem dJ9_min_7cf53_2 : decode cJ9_min_7cf53 2 = .ok (.if_icmp .gt 7, 3) := by decide +kernel
theorem dJ9_min_7cf53_5 : decode cJ9_min_7cf53 5 = .ok (.iload_n 0, 1) := by decide +kernel
theorem dJ9_min_7cf53_6 : decode cJ9_min_7cf53 6 = .ok (.goto 4, 3) := by decide +kernel
theorem dJ9_min_7cf53_9 : decode cJ9_min_7cf53 9 = .ok (.iload_n 1, 1) := by decide +kernel
theorem dJ9_min_7cf53_10 : decode cJ9_min_7cf53 10 = .ok (.ireturn, 1) := by decide +kernel
set_option maxRecDepth 20000 in
theorem ggJ0_length_8abf5_J0_coder_7d493 : GoodIn wsJ0_length_8abf5 wsJ0_coder_7d493 := goodIn_r _ [6, 7, 8] (by decide +kernel) (by decide +kernel)
set_option maxRecDepth 20000 in
theorem gJ0_length_8abf5_J0_coder_7d493 : GoodIn wsJ0_length_8abf5 (wsV RJ0 335 RJ0 yJ0_coder_7d493 wsJ0_coder_7d493) := goodIn_app (goodIn_of _ (by decide +kernel)) ggJ0_length_8abf5_J0_coder_7d493
theorem dJ0_length_8abf5_0 : decode cJ0_length_8abf5 0 = .ok (.aload_n 0, 1) := by decide +kernel
theorem dJ0_length_8abf5_1 : decode cJ0_length_8abf5 1 = .ok (.getfield 9, 3) := by decide +kernel
theorem dJ0_length_8abf5_4 : decode cJ0_length_8abf5 4 = .ok (.arraylength, 1) := by decide +kernel
theorem dJ0_length_8abf5_5 : decode cJ0_length_8abf5 5 = .ok (.aload_n 0, 1) := by decide +kernel
theorem dJ0_length_8abf5_6 : decode cJ0_length_8abf5 6 = .ok (.invokevirtual 335, 3) := by decide +kernel
theorem dJ0_length_8abf5_9 : decode cJ0_length_8abf5 9 = .ok (.ishr, 1) := by decide +kernel
theorem dJ0_length_8abf5_10 : decode cJ0_length_8abf5 10 = .ok (.ireturn, 1) := by decide +kernel
set_option maxRecDepth 20000 in
theorem ggJ0_charAt_5068e_J0_isLatin1_aae02 : GoodIn wsJ0_charAt_5068e wsJ0_isLatin1_aae02 := goodIn_r _ [6, 7, 8] (by decide +kernel) (by decide +kernel)
set_option maxRecDepth 20000 in
theorem gJ0_charAt_5068e_J0_isLatin1_aae02 : GoodIn wsJ0_charAt_5068e (wsV RJ0 492 RJ0 yJ0_isLatin1_aae02 wsJ0_isLatin1_aae02) := goodIn_app (goodIn_of _ (by decide +kernel)) ggJ0_charAt_5068e_J0_isLatin1_aae02
set_option maxRecDepth 20000 in
theorem ggJ0_charAt_5068e_J1_charAt_3b067 : GoodIn wsJ0_charAt_5068e wsJ1_charAt_3b067 := goodIn_r _ [12, 13, 14, 5, 15, 16, 17, 18, 19, 20] (by decide +kernel) (by decide +kernel)
set_option maxRecDepth 20000 in
theorem gJ0_charAt_5068e_J1_charAt_3b067 : GoodIn wsJ0_charAt_5068e (va_wsS RJ0 495 yJ1_charAt_3b067 wsJ1_charAt_3b067) := goodIn_app (goodIn_of _ (by decide +kernel)) ggJ0_charAt_5068e_J1_charAt_3b067
set_option maxRecDepth 20000 in
theorem ggJ0_charAt_5068e_J2_charAt_3b067 : GoodIn wsJ0_charAt_5068e wsJ2_charAt_3b067 := goodIn_r _ [24, 25, 26, 23, 27, 28, 29, 30, 31, 14, 5, 15, 16, 17, 18, 19, 20, 32, 33, 34, 35, 36, 37] (by decide +kernel) (by decide +kernel)
set_option maxRecDepth 20000 in
theorem gJ0_charAt_5068e_J2_charAt_3b067 : GoodIn wsJ0_charAt_5068e (va_wsS RJ0 498 yJ2_charAt_3b067 wsJ2_charAt_3b067) := goodIn_app (goodIn_of _ (by decide +kernel)) ggJ0_charAt_5068e_J2_charAt_3b067
theorem dJ0_charAt_5068e_0 : decode cJ0_charAt_5068e 0 = .ok (.aload_n 0, 1) := by decide +kernel
theorem dJ0_charAt_5068e_1 : decode cJ0_charAt_5068e 1 = .ok (.invokevirtual 492, 3) := by decide +kernel
theorem dJ0_charAt_5068e_4 : decode cJ0_charAt_5068e 4 = .ok (.ifCond .eq 12, 3) := by decide +kernel
theorem dJ0_charAt_5068e_7 : decode cJ0_charAt_5068e 7 = .ok (.aload_n 0, 1) := by decide +kernel
theorem dJ0_charAt_5068e_8 : decode cJ0_charAt_5068e 8 = .ok (.getfield 9, 3) := by decide +kernel
theorem dJ0_charAt_5068e_11 : decode cJ0_charAt_5068e 11 = .ok (.iload_n 1, 1) := by decide +kernel
theorem dJ0_charAt_5068e_12 : decode cJ0_charAt_5068e 12 = .ok (.invokestatic 495, 3) := by decide +kernel
theorem dJ0_charAt_5068e_15 : decode cJ0_charAt_5068e 15 = .ok (.ireturn, 1) := by decide +kernel
theorem dJ0_charAt_5068e_16 : decode cJ0_charAt_5068e 16 = .ok (.aload_n 0, 1) := by decide +kernel
theorem dJ0_charAt_5068e_17 : decode cJ0_charAt_5068e 17 = .ok (.getfield 9, 3) := by decide +kernel
theorem dJ0_charAt_5068e_20 : decode cJ0_charAt_5068e 20 = .ok (.iload_n 1, 1) := by decide +kernel
theorem dJ0_charAt_5068e_21 : decode cJ0_charAt_5068e 21 = .ok (.invokestatic 498, 3) := by decide +kernel
theorem dJ0_charAt_5068e_24 : decode cJ0_charAt_5068e 24 = .ok (.ireturn, 1) := by decide +kernel
theorem dJ0_coder_7d493_0 : decode cJ0_coder_7d493 0 = .ok (.getstatic 38, 3) := by decide +kernel
theorem dJ0_coder_7d493_3 : decode cJ0_coder_7d493 3 = .ok (.ifCond .eq 10, 3) := by decide +kernel
theorem dJ0_coder_7d493_6 : decode cJ0_coder_7d493 6 = .ok (.aload_n 0, 1) := by decide +kernel
theorem dJ0_coder_7d493_7 : decode cJ0_coder_7d493 7 = .ok (.getfield 15, 3) := by decide +kernel
theorem dJ0_coder_7d493_10 : decode cJ0_coder_7d493 10 = .ok (.goto 4, 3) := by decide +kernel
theorem dJ0_coder_7d493_13 : decode cJ0_coder_7d493 13 = .ok (.iconst 1, 1) := by decide +kernel
theorem dJ0_coder_7d493_14 : decode cJ0_coder_7d493 14 = .ok (.ireturn, 1) := by decide +kernel
theorem dJ0_isLatin1_aae02_0 : decode cJ0_isLatin1_aae02 0 = .ok (.getstatic 38, 3) := by decide +kernel
theorem dJ0_isLatin1_aae02_3 : decode cJ0_isLatin1_aae02 3 = .ok (.ifCond .eq 14, 3) := by decide +kernel
theorem dJ0_isLatin1_aae02_6 : decode cJ0_isLatin1_aae02 6 = .ok (.aload_n 0, 1) := by decide +kernel
theorem dJ0_isLatin1_aae02_7 : decode cJ0_isLatin1_aae02 7 = .ok (.getfield 15, 3) := by decide +kernel
theorem dJ0_isLatin1_aae02_10 : decode cJ0_isLatin1_aae02 10 = .ok (.ifCond .ne 7, 3) := by decide +kernel
theorem dJ0_isLatin1_aae02_13 : decode cJ0_isLatin1_aae02 13 = .ok (.iconst 1, 1) := by decide +kernel
theorem dJ0_isLatin1_aae02_14 : decode cJ0_isLatin1_aae02 14 = .ok (.goto 4, 3) := by decide +kernel
theorem dJ0_isLatin1_aae02_17 : decode cJ0_isLatin1_aae02 17 = .ok (.iconst 0, 1) := by decide +kernel
theorem dJ0_isLatin1_aae02_18 : decode cJ0_isLatin1_aae02 18 = .ok (.ireturn, 1) := by decide +kernel
set_option maxRecDepth 20000 in
theorem ggJ0_checkIndex_df160_J3_checkIndex_8e157 : GoodIn wsJ0_checkIndex_df160 wsJ3_checkIndex_8e157 := goodIn_r _ [5] (by decide +kernel) (by decide +kernel)
set_option maxRecDepth 20000 in
theorem gJ0_checkIndex_df160_J3_checkIndex_8e157 : GoodIn wsJ0_checkIndex_df160 (va_wsS RJ0 1059 yJ3_checkIndex_8e157 wsJ3_checkIndex_8e157) := goodIn_app (goodIn_of _ (by decide +kernel)) ggJ0_checkIndex_df160_J3_checkIndex_8e157
theorem dJ0_checkIndex_df160_0 : decode cJ0_checkIndex_df160 0 = .ok (.iload_n 0, 1) := by decide +kernel
theorem dJ0_checkIndex_df160_1 : decode cJ0_checkIndex_df160 1 = .ok (.iload_n 1, 1) := by decide +kernel
theorem dJ0_checkIndex_df160_2 : decode cJ0_checkIndex_df160 2 = .ok (.getstatic 1053, 3) := by decide +kernel
theorem dJ0_checkIndex_df160_5 : decode cJ0_checkIndex_df160 5 = .ok (.invokestatic 1059, 3) := by decide +kernel
theorem dJ0_checkIndex_df160_8 : decode cJ0_checkIndex_df160 8 = .ok (.pop, 1) := by decide +kernel
theorem dJ0_checkIndex_df160_9 : decode cJ0_checkIndex_df160 9 = .ok (.return_, 1) := by decide +kernel
set_option maxRecDepth 20000 in
theorem ggJ1_charAt_3b067_J0_checkIndex_df160 : GoodIn wsJ1_charAt_3b067 wsJ0_checkIndex_df160 := goodIn_r _ [4, 5, 6, 7, 8, 9] (by decide +kernel) (by decide +kernel)
set_option maxRecDepth 20000 in
theorem gJ1_charAt_3b067_J0_checkIndex_df160 : GoodIn wsJ1_charAt_3b067 (va_wsS RJ1 9 yJ0_checkIndex_df160 wsJ0_checkIndex_df160) := goodIn_app (goodIn_of _ (by decide +kernel)) ggJ1_charAt_3b067_J0_checkIndex_df160
theorem dJ1_charAt_3b067_0 : decode cJ1_charAt_3b067 0 = .ok (.iload_n 1, 1) := by decide +kernel
theorem dJ1_charAt_3b067_1 : decode cJ1_charAt_3b067 1 = .ok (.aload_n 0, 1) := by decide +kernel
theorem dJ1_charAt_3b067_2 : decode cJ1_charAt_3b067 2 = .ok (.arraylength, 1) := by decide +kernel
theorem dJ1_charAt_3b067_3 : decode cJ1_charAt_3b067 3 = .ok (.invokestatic 9, 3) := by decide +kernel
theorem dJ1_charAt_3b067_6 : decode cJ1_charAt_3b067 6 = .ok (.aload_n 0, 1) := by decide +kernel
theorem dJ1_charAt_3b067_7 : decode cJ1_charAt_3b067 7 = .ok (.iload_n 1, 1) := by decide +kernel
theorem dJ1_charAt_3b067_8 : decode cJ1_charAt_3b067 8 = .ok (.baload, 1) := by decide +kernel
theorem dJ1_charAt_3b067_9 : decode cJ1_charAt_3b067 9 = .ok (.sipush 255, 3) := by decide +kernel
theorem dJ1_charAt_3b067_12 : decode cJ1_charAt_3b067 12 = .ok (.iand, 1) := by decide +kernel
theorem dJ1_charAt_3b067_13 : decode cJ1_charAt_3b067 13 = .ok (.i2c, 1) := by decide +kernel
theorem dJ1_charAt_3b067_14 : decode cJ1_charAt_3b067 14 = .ok (.ireturn, 1) := by decide +kernel
set_option maxRecDepth 20000 in
theorem ggJ2_getChar_3b067_J2_length_9d52b : GoodIn wsJ2_getChar_3b067 wsJ2_length_9d52b := goodIn_r _ [7] (by decide +kernel) (by decide +kernel)
set_option maxRecDepth 20000 in
theorem gJ2_getChar_3b067_J2_length_9d52b : GoodIn wsJ2_getChar_3b067 (va_wsS RJ2 48 yJ2_length_9d52b wsJ2_length_9d52b) := goodIn_app (goodIn_of _ (by decide +kernel)) ggJ2_getChar_3b067_J2_length_9d52b
theorem dJ2_getChar_3b067_0 : decode cJ2_getChar_3b067 0 = .ok (.getstatic 44, 3) := by decide +kernel
theorem dJ2_getChar_3b067_3 : decode cJ2_getChar_3b067 3 = .ok (.ifCond .ne 25, 3) := by decide +kernel
theorem dJ2_getChar_3b067_6 : decode cJ2_getChar_3b067 6 = .ok (.iload_n 1, 1) := by decide +kernel
theorem dJ2_getChar_3b067_7 : decode cJ2_getChar_3b067 7 = .ok (.ifCond .lt 11, 3) := by decide +kernel
theorem dJ2_getChar_3b067_10 : decode cJ2_getChar_3b067 10 = .ok (.iload_n 1, 1) := by decide +kernel
theorem dJ2_getChar_3b067_11 : decode cJ2_getChar_3b067 11 = .ok (.aload_n 0, 1) := by decide +kernel
theorem dJ2_getChar_3b067_12 : decode cJ2_getChar_3b067 12 = .ok (.invokestatic 48, 3) := by decide +kernel
theorem dJ2_getChar_3b067_15 : decode cJ2_getChar_3b067 15 = .ok (.if_icmp .lt 13, 3) := by decide +kernel
theorem dJ2_getChar_3b067_18 : decode cJ2_getChar_3b067 18 = .ok (.new 52, 3) := by decide +kernel
theorem dJ2_getChar_3b067_21 : decode cJ2_getChar_3b067 21 = .ok (.dup, 1) := by decide +kernel
theorem dJ2_getChar_3b067_22 : decode cJ2_getChar_3b067 22 = .ok (.ldc 54, 2) := by decide +kernel
theorem dJ2_getChar_3b067_24 : decode cJ2_getChar_3b067 24 = .ok (.invokespecial 56, 3) := by decide +kernel
theorem dJ2_getChar_3b067_27 : decode cJ2_getChar_3b067 27 = .ok (.athrow, 1) := by decide +kernel
theorem dJ2_getChar_3b067_28 : decode cJ2_getChar_3b067 28 = .ok (.iload_n 1, 1) := by decide +kernel
theorem dJ2_getChar_3b067_29 : decode cJ2_getChar_3b067 29 = .ok (.iconst 1, 1) := by decide +kernel
theorem dJ2_getChar_3b067_30 : decode cJ2_getChar_3b067 30 = .ok (.ishl, 1) := by decide +kernel
theorem dJ2_getChar_3b067_31 : decode cJ2_getChar_3b067 31 = .ok (.istore_n 1, 1) := by decide +kernel
theorem dJ2_getChar_3b067_32 : decode cJ2_getChar_3b067 32 = .ok (.aload_n 0, 1) := by decide +kernel
theorem dJ2_getChar_3b067_33 : decode cJ2_getChar_3b067 33 = .ok (.iload_n 1, 1) := by decide +kernel
theorem dJ2_getChar_3b067_34 : decode cJ2_getChar_3b067 34 = .ok (.iinc 1 1, 3) := by decide +kernel
theorem dJ2_getChar_3b067_37 : decode cJ2_getChar_3b067 37 = .ok (.baload, 1) := by decide +kernel
theorem dJ2_getChar_3b067_38 : decode cJ2_getChar_3b067 38 = .ok (.sipush 255, 3) := by decide +kernel
theorem dJ2_getChar_3b067_41 : decode cJ2_getChar_3b067 41 = .ok (.iand, 1) := by decide +kernel
theorem dJ2_getChar_3b067_42 : decode cJ2_getChar_3b067 42 = .ok (.getstatic 59, 3) := by decide +kernel
theorem dJ2_getChar_3b067_45 : decode cJ2_getChar_3b067 45 = .ok (.ishl, 1) := by decide +kernel
theorem dJ2_getChar_3b067_46 : decode cJ2_getChar_3b067 46 = .ok (.aload_n 0, 1) := by decide +kernel
theorem dJ2_getChar_3b067_47 : decode cJ2_getChar_3b067 47 = .ok (.iload_n 1, 1) := by decide +kernel
theorem dJ2_getChar_3b067_48 : decode cJ2_getChar_3b067 48 = .ok (.baload, 1) := by decide +kernel
theorem dJ2_getChar_3b067_49 : decode cJ2_getChar_3b067 49 = .ok (.sipush 255, 3) := by decide +kernel
theorem dJ2_getChar_3b067_52 : decode cJ2_getChar_3b067 52 = .ok (.iand, 1) := by decide +kernel
theorem dJ2_getChar_3b067_53 : decode cJ2_getChar_3b067 53 = .ok (.getstatic 63, 3) := by decide +kernel
theorem dJ2_getChar_3b067_56 : decode cJ2_getChar_3b067 56 = .ok (.ishl, 1) := by decide +kernel
theorem dJ2_getChar_3b067_57 : decode cJ2_getChar_3b067 57 = .ok (.ior, 1) := by decide +kernel
theorem dJ2_getChar_3b067_58 : decode cJ2_getChar_3b067 58 = .ok (.i2c, 1) := by decide +kernel
theorem dJ2_getChar_3b067_59 : decode cJ2_getChar_3b067 59 = .ok (.ireturn, 1) := by decide +kernel
theorem dJ2_length_9d52b_0 : decode cJ2_length_9d52b 0 = .ok (.aload_n 0, 1) := by decide +kernel
theorem dJ2_length_9d52b_1 : decode cJ2_length_9d52b 1 = .ok (.arraylength, 1) := by decide +kernel
theorem dJ2_length_9d52b_2 : decode cJ2_length_9d52b 2 = .ok (.iconst 1, 1) := by decide +kernel
theorem dJ2_length_9d52b_3 : decode cJ2_length_9d52b 3 = .ok (.ishr, 1) := by decide +kernel
theorem dJ2_length_9d52b_4 : decode cJ2_length_9d52b 4 = .ok (.ireturn, 1) := by decide +kernel
set_option maxRecDepth 20000 in
theorem ggJ2_charAt_3b067_J2_checkIndex_2214a : GoodIn wsJ2_charAt_3b067 wsJ2_checkIndex_2214a := goodIn_r _ [4, 5, 6, 3, 7, 8, 9, 10, 11, 12, 13, 14, 15, 16] (by decide +kernel) (by decide +kernel)
set_option maxRecDepth 20000 in
theorem gJ2_charAt_3b067_J2_checkIndex_2214a : GoodIn wsJ2_charAt_3b067 (va_wsS RJ2 67 yJ2_checkIndex_2214a wsJ2_checkIndex_2214a) := goodIn_app (goodIn_of _ (by decide +kernel)) ggJ2_charAt_3b067_J2_checkIndex_2214a
set_option maxRecDepth 20000 in
theorem ggJ2_charAt_3b067_J2_getChar_3b067 : GoodIn wsJ2_charAt_3b067 wsJ2_getChar_3b067 := goodIn_r _ [19, 20, 21, 22, 5, 6, 3, 7] (by decide +kernel) (by decide +kernel)
set_option maxRecDepth 20000 in
theorem gJ2_charAt_3b067_J2_getChar_3b067 : GoodIn wsJ2_charAt_3b067 (va_wsS RJ2 71 yJ2_getChar_3b067 wsJ2_getChar_3b067) := goodIn_app (goodIn_of _ (by decide +kernel)) ggJ2_charAt_3b067_J2_getChar_3b067
theorem dJ2_charAt_3b067_0 : decode cJ2_charAt_3b067 0 = .ok (.iload_n 1, 1) := by decide +kernel
theorem dJ2_charAt_3b067_1 : decode cJ2_charAt_3b067 1 = .ok (.aload_n 0, 1) := by decide +kernel
theorem dJ2_charAt_3b067_2 : decode cJ2_charAt_3b067 2 = .ok (.invokestatic 67, 3) := by decide +kernel
theorem dJ2_charAt_3b067_5 : decode cJ2_charAt_3b067 5 = .ok (.aload_n 0, 1) := by decide +kernel
theorem dJ2_charAt_3b067_6 : decode cJ2_charAt_3b067 6 = .ok (.iload_n 1, 1) := by decide +kernel
theorem dJ2_charAt_3b067_7 : decode cJ2_charAt_3b067 7 = .ok (.invokestatic 71, 3) := by decide +kernel
theorem dJ2_charAt_3b067_10 : decode cJ2_charAt_3b067 10 = .ok (.ireturn, 1) := by decide +kernel
set_option maxRecDepth 20000 in
theorem ggJ2_checkIndex_2214a_J2_length_9d52b : GoodIn wsJ2_checkIndex_2214a wsJ2_length_9d52b := goodIn_r _ [4] (by decide +kernel) (by decide +kernel)
set_option maxRecDepth 20000 in
theorem gJ2_checkIndex_2214a_J2_length_9d52b : GoodIn wsJ2_checkIndex_2214a (va_wsS RJ2 48 yJ2_length_9d52b wsJ2_length_9d52b) := goodIn_app (goodIn_of _ (by decide +kernel)) ggJ2_checkIndex_2214a_J2_length_9d52b
set_option maxRecDepth 20000 in
theorem ggJ2_checkIndex_2214a_J0_checkIndex_df160 : GoodIn wsJ2_checkIndex_2214a wsJ0_checkIndex_df160 := goodIn_r _ [8, 9, 10, 11, 12, 13] (by decide +kernel) (by decide +kernel)
set_option maxRecDepth 20000 in
theorem gJ2_checkIndex_2214a_J0_checkIndex_df160 : GoodIn wsJ2_checkIndex_2214a (va_wsS RJ2 414 yJ0_checkIndex_df160 wsJ0_checkIndex_df160) := goodIn_app (goodIn_of _ (by decide +kernel)) ggJ2_checkIndex_2214a_J0_checkIndex_df160
theorem dJ2_checkIndex_2214a_0 : decode cJ2_checkIndex_2214a 0 = .ok (.iload_n 0, 1) := by decide +kernel
theorem dJ2_checkIndex_2214a_1 : decode cJ2_checkIndex_2214a 1 = .ok (.aload_n 1, 1) := by decide +kernel
theorem dJ2_checkIndex_2214a_2 : decode cJ2_checkIndex_2214a 2 = .ok (.invokestatic 48, 3) := by decide +kernel
theorem dJ2_checkIndex_2214a_5 : decode cJ2_checkIndex_2214a 5 = .ok (.invokestatic 414, 3) := by decide +kernel
theorem dJ2_checkIndex_2214a_8 : decode cJ2_checkIndex_2214a 8 = .ok (.return_, 1) := by decide +kernel
theorem dJ7_fill_53178_0 : decode cJ7_fill_53178 0 = .ok (.iconst 0, 1) := by decide +kernel
theorem dJ7_fill_53178_1 : decode cJ7_fill_53178 1 = .ok (.istore_n 2, 1) := by decide +kernel
theorem dJ7_fill_53178_2 : decode cJ7_fill_53178 2 = .ok (.aload_n 0, 1) := by decide +kernel
theorem dJ7_fill_53178_3 : decode cJ7_fill_53178 3 = .ok (.arraylength, 1) := by decide +kernel
theorem dJ7_fill_53178_4 : decode cJ7_fill_53178 4 = .ok (.istore_n 3, 1) := by decide +kernel
theorem dJ7_fill_53178_5 : decode cJ7_fill_53178 5 = .ok (.iload_n 2, 1) := by decide +kernel
theorem dJ7_fill_53178_6 : decode cJ7_fill_53178 6 = .ok (.iload_n 3, 1) := by decide +kernel
theorem dJ7_fill_53178_7 : decode cJ7_fill_53178 7 = .ok (.if_icmp .ge 13, 3) := by decide +kernel
theorem dJ7_fill_53178_10 : decode cJ7_fill_53178 10 = .ok (.aload_n 0, 1) := by decide +kernel
theorem dJ7_fill_53178_11 : decode cJ7_fill_53178 11 = .ok (.iload_n 2, 1) := by decide +kernel
theorem dJ7_fill_53178_12 : decode cJ7_fill_53178 12 = .ok (.iload_n 1, 1) := by decide +kernel
theorem dJ7_fill_53178_13 : decode cJ7_fill_53178 13 = .ok (.iastore, 1) := by decide +kernel
theorem dJ7_fill_53178_14 : decode cJ7_fill_53178 14 = .ok (.iinc 2 1, 3) := by decide +kernel
theorem dJ7_fill_53178_17 : decode cJ7_fill_53178 17 = .ok (.goto (-12), 3) := by decide +kernel
theorem dJ7_fill_53178_20 : decode cJ7_fill_53178 20 = .ok (.return_, 1) := by decide +kernel
theorem dJ3_checkIndex_8e157_0 : decode cJ3_checkIndex_8e157 0 = .ok (.iload_n 0, 1) := by decide +kernel
theorem dJ3_checkIndex_8e157_1 : decode cJ3_checkIndex_8e157 1 = .ok (.ifCond .lt 8, 3) := by decide +kernel
theorem dJ3_checkIndex_8e157_4 : decode cJ3_checkIndex_8e157 4 = .ok (.iload_n 0, 1) := by decide +kernel
theorem dJ3_checkIndex_8e157_5 : decode cJ3_checkIndex_8e157 5 = .ok (.iload_n 1, 1) := by decide +kernel
theorem dJ3_checkIndex_8e157_6 : decode cJ3_checkIndex_8e157 6 = .ok (.if_icmp .lt 10, 3) := by decide +kernel
theorem dJ3_checkIndex_8e157_9 : decode cJ3_checkIndex_8e157 9 = .ok (.aload_n 2, 1) := by decide +kernel
theorem dJ3_checkIndex_8e157_10 : decode cJ3_checkIndex_8e157 10 = .ok (.iload_n 0, 1) := by decide +kernel
theorem dJ3_checkIndex_8e157_11 : decode cJ3_checkIndex_8e157 11 = .ok (.iload_n 1, 1) := by decide +kernel
theorem dJ3_checkIndex_8e157_12 : decode cJ3_checkIndex_8e157 12 = .ok (.invokestatic 95, 3) := by decide +kernel
theorem dJ3_checkIndex_8e157_15 : decode cJ3_checkIndex_8e157 15 = .ok (.athrow, 1) := by decide +kernel
theorem dJ3_checkIndex_8e157_16 : decode cJ3_checkIndex_8e157 16 = .ok (.iload_n 0, 1) := by decide +kernel
theorem dJ3_checkIndex_8e157_17 : decode cJ3_checkIndex_8e157 17 = .ok (.ireturn, 1) := by decide +kernel
set_option maxRecDepth 20000 in
theorem ggL_setTile_X6_setTile : GoodIn wsL_setTile wsX6_setTile := goodIn_ca (goodIn_ca (goodIn_ca (goodIn_ca (goodIn_ca (goodIn_r _ [7, 8, 9, 10, 11, 12, 13, 14, 15, 16, 17, 18, 19, 20, 21, 22, 23, 24, 25, 26, 27, 28, 29, 30, 31, 6, 32, 33, 34, 35, 36, 37, 38, 39, 40, 41, 42, 43, 44, 45, 46, 47, 48, 49, 50, 51, 52, 53, 54, 55, 56, 57, 58, 59, 60, 61, 62, 63, 64, 65, 66, 67, 68, 69, 70, 71, 72, 73, 74, 75, 76, 77, 78, 79, 80, 81, 82, 83, 84] (by decide +kernel) (by decide +kernel)) (goodIn_sub (fun _ h => List.mem_cons_of_mem _ (List.mem_append_left _ (List.mem_append_left _ (List.mem_append_left _ (List.mem_append_left _ (List.mem_append_right _ h)))))) (by decide +kernel))) (goodIn_sub (fun _ h => List.mem_cons_of_mem _ (List.mem_append_left _ (List.mem_append_left _ (List.mem_append_left _ (List.mem_append_right _ h))))) (by decide +kernel))) (goodIn_sub (fun _ h => List.mem_cons_of_mem _ (List.mem_append_left _ (List.mem_append_left _ (List.mem_append_right _ h)))) (by decide +kernel))) (goodIn_sub (fun _ h => List.mem_cons_of_mem _ (List.mem_append_left _ (List.mem_append_right _ h))) (by decide +kernel))) (goodIn_sub (fun _ h => List.mem_cons_of_mem _ (List.mem_append_right _ h)) (by decide +kernel))
set_option maxRecDepth 20000 in
theorem gL_setTile_X6_setTile : GoodIn wsL_setTile (wsV RL 7 RX6 yX6_setTile wsX6_setTile) := goodIn_app (goodIn_of _ (by decide +kernel)) ggL_setTile_X6_setTile
