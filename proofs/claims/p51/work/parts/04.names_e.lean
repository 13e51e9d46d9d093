theorem dX6_regionCount_1 : decode cX6_regionCount 1 = .ok (.getfield 39, 3) := by decide +kernel
theorem dX6_regionCount_4 : decode cX6_regionCount 4 = .ok (.aload_n 0, 1) := by decide +kernel
theorem dX6_regionCount_5 : decode cX6_regionCount 5 = .ok (.getfield 12, 3) := by decide +kernel
theorem dX6_regionCount_8 : decode cX6_regionCount 8 = .ok (.invokevirtual 153, 3) := by decide +kernel
theorem dX6_regionCount_11 : decode cX6_regionCount 11 = .ok (.ireturn, 1) := by decide +kernel
theorem dX6_regionCountByMerging_0 : decode cX6_regionCountByMerging 0 = .ok (.aload_n 0, 1) := by decide +kernel
theorem dX6_regionCountByMerging_1 : decode cX6_regionCountByMerging 1 = .ok (.getfield 39, 3) := by decide +kernel
theorem dX6_regionCountByMerging_4 : decode cX6_regionCountByMerging 4 = .ok (.aload_n 0, 1) := by decide +kernel
theorem dX6_regionCountByMerging_5 : decode cX6_regionCountByMerging 5 = .ok (.getfield 12, 3) := by decide +kernel
theorem dX6_regionCountByMerging_8 : decode cX6_regionCountByMerging 8 = .ok (.invokevirtual 157, 3) := by decide +kernel
theorem dX6_regionCountByMerging_11 : decode cX6_regionCountByMerging 11 = .ok (.ireturn, 1) := by decide +kernel
theorem dX6_keyRow_0 : decode cX6_keyRow 0 = .ok (.aload_n 0, 1) := by decide +kernel
theorem dX6_keyRow_1 : decode cX6_keyRow 1 = .ok (.iload_n 1, 1) := by decide +kernel
theorem dX6_keyRow_2 : decode cX6_keyRow 2 = .ok (.invokevirtual 160, 3) := by decide +kernel
theorem dX6_keyRow_5 : decode cX6_keyRow 5 = .ok (.iconst 5, 1) := by decide +kernel
theorem dX6_keyRow_6 : decode cX6_keyRow 6 = .ok (.idiv, 1) := by decide +kernel
theorem dX6_keyRow_7 : decode cX6_keyRow 7 = .ok (.ireturn, 1) := by decide +kernel
theorem dX6_keyColumn_0 : decode cX6_keyColumn 0 = .ok (.aload_n 0, 1) := by decide +kernel
theorem dX6_keyColumn_1 : decode cX6_keyColumn 1 = .ok (.iload_n 1, 1) := by decide +kernel
theorem dX6_keyColumn_2 : decode cX6_keyColumn 2 = .ok (.invokevirtual 160, 3) := by decide +kernel
theorem dX6_keyColumn_5 : decode cX6_keyColumn 5 = .ok (.iconst 5, 1) := by decide +kernel
theorem dX6_keyColumn_6 : decode cX6_keyColumn 6 = .ok (.irem, 1) := by decide +kernel
theorem dX6_keyColumn_7 : decode cX6_keyColumn 7 = .ok (.ireturn, 1) := by decide +kernel
theorem dX6_carrierOf_0 : decode cX6_carrierOf 0 = .ok (.aload_n 0, 1) := by decide +kernel
theorem dX6_carrierOf_1 : decode cX6_carrierOf 1 = .ok (.getfield 12, 3) := by decide +kernel
theorem dX6_carrierOf_4 : decode cX6_carrierOf 4 = .ok (.getfield 164, 3) := by decide +kernel
theorem dX6_carrierOf_7 : decode cX6_carrierOf 7 = .ok (.iload_n 1, 1) := by decide +kernel
theorem dX6_carrierOf_8 : decode cX6_carrierOf 8 = .ok (.invokestatic 167, 3) := by decide +kernel
theorem dX6_carrierOf_11 : decode cX6_carrierOf 11 = .ok (.iaload, 1) := by decide +kernel
theorem dX6_carrierOf_12 : decode cX6_carrierOf 12 = .ok (.istore_n 2, 1) := by decide +kernel
theorem dX6_carrierOf_13 : decode cX6_carrierOf 13 = .ok (.iload_n 2, 1) := by decide +kernel
theorem dX6_carrierOf_14 : decode cX6_carrierOf 14 = .ok (.bipush 25, 2) := by decide +kernel
theorem dX6_carrierOf_16 : decode cX6_carrierOf 16 = .ok (.if_icmp .ge 13, 3) := by decide +kernel
theorem dX6_carrierOf_19 : decode cX6_carrierOf 19 = .ok (.new 131, 3) := by decide +kernel
theorem dX6_carrierOf_22 : decode cX6_carrierOf 22 = .ok (.dup, 1) := by decide +kernel
theorem dX6_carrierOf_23 : decode cX6_carrierOf 23 = .ok (.ldc 170, 2) := by decide +kernel
theorem dX6_carrierOf_25 : decode cX6_carrierOf 25 = .ok (.invokespecial 135, 3) := by decide +kernel
theorem dX6_carrierOf_28 : decode cX6_carrierOf 28 = .ok (.athrow, 1) := by decide +kernel
theorem dX6_carrierOf_29 : decode cX6_carrierOf 29 = .ok (.iload_n 2, 1) := by decide +kernel
theorem dX6_carrierOf_30 : decode cX6_carrierOf 30 = .ok (.bipush 25, 2) := by decide +kernel
theorem dX6_carrierOf_32 : decode cX6_carrierOf 32 = .ok (.isub, 1) := by decide +kernel
theorem dX6_carrierOf_33 : decode cX6_carrierOf 33 = .ok (.ireturn, 1) := by decide +kernel
theorem dX6_walkerCount_0 : decode cX6_walkerCount 0 = .ok (.aload_n 0, 1) := by decide +kernel
theorem dX6_walkerCount_1 : decode cX6_walkerCount 1 = .ok (.getfield 12, 3) := by decide +kernel
theorem dX6_walkerCount_4 : decode cX6_walkerCount 4 = .ok (.getfield 172, 3) := by decide +kernel
theorem dX6_walkerCount_7 : decode cX6_walkerCount 7 = .ok (.ireturn, 1) := by decide +kernel
theorem dX6_walkerRow_0 : decode cX6_walkerRow 0 = .ok (.aload_n 0, 1) := by decide +kernel
theorem dX6_walkerRow_1 : decode cX6_walkerRow 1 = .ok (.getfield 12, 3) := by decide +kernel
theorem dX6_walkerRow_4 : decode cX6_walkerRow 4 = .ok (.getfield 175, 3) := by decide +kernel
theorem dX6_walkerRow_7 : decode cX6_walkerRow 7 = .ok (.aload_n 0, 1) := by decide +kernel
theorem dX6_walkerRow_8 : decode cX6_walkerRow 8 = .ok (.iload_n 1, 1) := by decide +kernel
theorem dX6_walkerRow_9 : decode cX6_walkerRow 9 = .ok (.invokevirtual 178, 3) := by decide +kernel
theorem dX6_walkerRow_12 : decode cX6_walkerRow 12 = .ok (.iaload, 1) := by decide +kernel
theorem dX6_walkerRow_13 : decode cX6_walkerRow 13 = .ok (.iconst 5, 1) := by decide +kernel
theorem dX6_walkerRow_14 : decode cX6_walkerRow 14 = .ok (.idiv, 1) := by decide +kernel
theorem dX6_walkerRow_15 : decode cX6_walkerRow 15 = .ok (.ireturn, 1) := by decide +kernel
theorem dX6_walkerColumn_0 : decode cX6_walkerColumn 0 = .ok (.aload_n 0, 1) := by decide +kernel
theorem dX6_walkerColumn_1 : decode cX6_walkerColumn 1 = .ok (.getfield 12, 3) := by decide +kernel
theorem dX6_walkerColumn_4 : decode cX6_walkerColumn 4 = .ok (.getfield 175, 3) := by decide +kernel
theorem dX6_walkerColumn_7 : decode cX6_walkerColumn 7 = .ok (.aload_n 0, 1) := by decide +kernel
theorem dX6_walkerColumn_8 : decode cX6_walkerColumn 8 = .ok (.iload_n 1, 1) := by decide +kernel
theorem dX6_walkerColumn_9 : decode cX6_walkerColumn 9 = .ok (.invokevirtual 178, 3) := by decide +kernel
theorem dX6_walkerColumn_12 : decode cX6_walkerColumn 12 = .ok (.iaload, 1) := by decide +kernel
theorem dX6_walkerColumn_13 : decode cX6_walkerColumn 13 = .ok (.iconst 5, 1) := by decide +kernel
theorem dX6_walkerColumn_14 : decode cX6_walkerColumn 14 = .ok (.irem, 1) := by decide +kernel
theorem dX6_walkerColumn_15 : decode cX6_walkerColumn 15 = .ok (.ireturn, 1) := by decide +kernel
theorem dX6_keysOf_0 : decode cX6_keysOf 0 = .ok (.aload_n 0, 1) := by decide +kernel
theorem dX6_keysOf_1 : decode cX6_keysOf 1 = .ok (.getfield 12, 3) := by decide +kernel
theorem dX6_keysOf_4 : decode cX6_keysOf 4 = .ok (.bipush 25, 2) := by decide +kernel
theorem dX6_keysOf_6 : decode cX6_keysOf 6 = .ok (.aload_n 0, 1) := by decide +kernel
theorem dX6_keysOf_7 : decode cX6_keysOf 7 = .ok (.iload_n 1, 1) := by decide +kernel
theorem dX6_keysOf_8 : decode cX6_keysOf 8 = .ok (.invokevirtual 178, 3) := by decide +kernel
theorem dX6_keysOf_11 : decode cX6_keysOf 11 = .ok (.iadd, 1) := by decide +kernel
theorem dX6_keysOf_12 : decode cX6_keysOf 12 = .ok (.invokevirtual 142, 3) := by decide +kernel
theorem dX6_keysOf_15 : decode cX6_keysOf 15 = .ok (.ireturn, 1) := by decide +kernel
theorem dX6_pathLength_0 : decode cX6_pathLength 0 = .ok (.aload_n 0, 1) := by decide +kernel
theorem dX6_pathLength_1 : decode cX6_pathLength 1 = .ok (.iload_n 1, 1) := by decide +kernel
theorem dX6_pathLength_2 : decode cX6_pathLength 2 = .ok (.invokevirtual 178, 3) := by decide +kernel
theorem dX6_pathLength_5 : decode cX6_pathLength 5 = .ok (.pop, 1) := by decide +kernel
theorem dX6_pathLength_6 : decode cX6_pathLength 6 = .ok (.iload_n 2, 1) := by decide +kernel
theorem dX6_pathLength_7 : decode cX6_pathLength 7 = .ok (.iload_n 3, 1) := by decide +kernel
theorem dX6_pathLength_8 : decode cX6_pathLength 8 = .ok (.invokestatic 114, 3) := by decide +kernel
theorem dX6_pathLength_11 : decode cX6_pathLength 11 = .ok (.istore 4, 2) := by decide +kernel
theorem dX6_pathLength_13 : decode cX6_pathLength 13 = .ok (.aload_n 0, 1) := by decide +kernel
theorem dX6_pathLength_14 : decode cX6_pathLength 14 = .ok (.getfield 39, 3) := by decide +kernel
theorem dX6_pathLength_17 : decode cX6_pathLength 17 = .ok (.aload_n 0, 1) := by decide +kernel
theorem dX6_pathLength_18 : decode cX6_pathLength 18 = .ok (.getfield 12, 3) := by decide +kernel
theorem dX6_pathLength_21 : decode cX6_pathLength 21 = .ok (.iload_n 1, 1) := by decide +kernel
theorem dX6_pathLength_22 : decode cX6_pathLength 22 = .ok (.invokevirtual 181, 3) := by decide +kernel
theorem dX6_pathLength_25 : decode cX6_pathLength 25 = .ok (.aload_n 0, 1) := by decide +kernel
theorem dX6_pathLength_26 : decode cX6_pathLength 26 = .ok (.getfield 39, 3) := by decide +kernel
theorem dX6_pathLength_29 : decode cX6_pathLength 29 = .ok (.getfield 185, 3) := by decide +kernel
theorem dX6_pathLength_32 : decode cX6_pathLength 32 = .ok (.iload 4, 2) := by decide +kernel
theorem dX6_pathLength_34 : decode cX6_pathLength 34 = .ok (.iaload, 1) := by decide +kernel
theorem dX6_pathLength_35 : decode cX6_pathLength 35 = .ok (.invokestatic 188, 3) := by decide +kernel
theorem dX6_pathLength_38 : decode cX6_pathLength 38 = .ok (.ireturn, 1) := by decide +kernel
theorem dX6_pathLengthByRounds_0 : decode cX6_pathLengthByRounds 0 = .ok (.aload_n 0, 1) := by decide +kernel
theorem dX6_pathLengthByRounds_1 : decode cX6_pathLengthByRounds 1 = .ok (.iload_n 1, 1) := by decide +kernel
theorem dX6_pathLengthByRounds_2 : decode cX6_pathLengthByRounds 2 = .ok (.invokevirtual 178, 3) := by decide +kernel
theorem dX6_pathLengthByRounds_5 : decode cX6_pathLengthByRounds 5 = .ok (.pop, 1) := by decide +kernel
theorem dX6_pathLengthByRounds_6 : decode cX6_pathLengthByRounds 6 = .ok (.iload_n 2, 1) := by decide +kernel
theorem dX6_pathLengthByRounds_7 : decode cX6_pathLengthByRounds 7 = .ok (.iload_n 3, 1) := by decide +kernel
theorem dX6_pathLengthByRounds_8 : decode cX6_pathLengthByRounds 8 = .ok (.invokestatic 114, 3) := by decide +kernel
theorem dX6_pathLengthByRounds_11 : decode cX6_pathLengthByRounds 11 = .ok (.istore 4, 2) := by decide +kernel
theorem dX6_pathLengthByRounds_13 : decode cX6_pathLengthByRounds 13 = .ok (.aload_n 0, 1) := by decide +kernel
theorem dX6_pathLengthByRounds_14 : decode cX6_pathLengthByRounds 14 = .ok (.getfield 39, 3) := by decide +kernel
theorem dX6_pathLengthByRounds_17 : decode cX6_pathLengthByRounds 17 = .ok (.aload_n 0, 1) := by decide +kernel
theorem dX6_pathLengthByRounds_18 : decode cX6_pathLengthByRounds 18 = .ok (.getfield 12, 3) := by decide +kernel
theorem dX6_pathLengthByRounds_21 : decode cX6_pathLengthByRounds 21 = .ok (.iload_n 1, 1) := by decide +kernel
theorem dX6_pathLengthByRounds_22 : decode cX6_pathLengthByRounds 22 = .ok (.invokevirtual 191, 3) := by decide +kernel
theorem dX6_pathLengthByRounds_25 : decode cX6_pathLengthByRounds 25 = .ok (.aload_n 0, 1) := by decide +kernel
theorem dX6_pathLengthByRounds_26 : decode cX6_pathLengthByRounds 26 = .ok (.getfield 39, 3) := by decide +kernel
theorem dX6_pathLengthByRounds_29 : decode cX6_pathLengthByRounds 29 = .ok (.getfield 194, 3) := by decide +kernel
theorem dX6_pathLengthByRounds_32 : decode cX6_pathLengthByRounds 32 = .ok (.iload 4, 2) := by decide +kernel
theorem dX6_pathLengthByRounds_34 : decode cX6_pathLengthByRounds 34 = .ok (.iaload, 1) := by decide +kernel
theorem dX6_pathLengthByRounds_35 : decode cX6_pathLengthByRounds 35 = .ok (.invokestatic 188, 3) := by decide +kernel
theorem dX6_pathLengthByRounds_38 : decode cX6_pathLengthByRounds 38 = .ok (.ireturn, 1) := by decide +kernel
theorem dX6_firstStep_0 : decode cX6_firstStep 0 = .ok (.aload_n 0, 1) := by decide +kernel
theorem dX6_firstStep_1 : decode cX6_firstStep 1 = .ok (.iload_n 1, 1) := by decide +kernel
theorem dX6_firstStep_2 : decode cX6_firstStep 2 = .ok (.invokevirtual 178, 3) := by decide +kernel
theorem dX6_firstStep_5 : decode cX6_firstStep 5 = .ok (.pop, 1) := by decide +kernel
theorem dX6_firstStep_6 : decode cX6_firstStep 6 = .ok (.iload_n 2, 1) := by decide +kernel
theorem dX6_firstStep_7 : decode cX6_firstStep 7 = .ok (.iload_n 3, 1) := by decide +kernel
theorem dX6_firstStep_8 : decode cX6_firstStep 8 = .ok (.invokestatic 114, 3) := by decide +kernel
theorem dX6_firstStep_11 : decode cX6_firstStep 11 = .ok (.istore 4, 2) := by decide +kernel
theorem dX6_firstStep_13 : decode cX6_firstStep 13 = .ok (.aload_n 0, 1) := by decide +kernel
theorem dX6_firstStep_14 : decode cX6_firstStep 14 = .ok (.getfield 39, 3) := by decide +kernel
theorem dX6_firstStep_17 : decode cX6_firstStep 17 = .ok (.aload_n 0, 1) := by decide +kernel
theorem dX6_firstStep_18 : decode cX6_firstStep 18 = .ok (.getfield 12, 3) := by decide +kernel
theorem dX6_firstStep_21 : decode cX6_firstStep 21 = .ok (.iload_n 1, 1) := by decide +kernel
theorem dX6_firstStep_22 : decode cX6_firstStep 22 = .ok (.invokevirtual 181, 3) := by decide +kernel
theorem dX6_firstStep_25 : decode cX6_firstStep 25 = .ok (.aload_n 0, 1) := by decide +kernel
theorem dX6_firstStep_26 : decode cX6_firstStep 26 = .ok (.getfield 39, 3) := by decide +kernel
theorem dX6_firstStep_29 : decode cX6_firstStep 29 = .ok (.getfield 185, 3) := by decide +kernel
theorem dX6_firstStep_32 : decode cX6_firstStep 32 = .ok (.iload 4, 2) := by decide +kernel
theorem dX6_firstStep_34 : decode cX6_firstStep 34 = .ok (.iaload, 1) := by decide +kernel
theorem dX6_firstStep_35 : decode cX6_firstStep 35 = .ok (.invokestatic 188, 3) := by decide +kernel
theorem dX6_firstStep_38 : decode cX6_firstStep 38 = .ok (.ifCond .ne 13, 3) := by decide +kernel
theorem dX6_firstStep_41 : decode cX6_firstStep 41 = .ok (.new 131, 3) := by decide +kernel
theorem dX6_firstStep_44 : decode cX6_firstStep 44 = .ok (.dup, 1) := by decide +kernel
theorem dX6_firstStep_45 : decode cX6_firstStep 45 = .ok (.ldc 197, 2) := by decide +kernel
theorem dX6_firstStep_47 : decode cX6_firstStep 47 = .ok (.invokespecial 135, 3) := by decide +kernel
theorem dX6_firstStep_50 : decode cX6_firstStep 50 = .ok (.athrow, 1) := by decide +kernel
theorem dX6_firstStep_51 : decode cX6_firstStep 51 = .ok (.aload_n 0, 1) := by decide +kernel
theorem dX6_firstStep_52 : decode cX6_firstStep 52 = .ok (.getfield 39, 3) := by decide +kernel
theorem dX6_firstStep_55 : decode cX6_firstStep 55 = .ok (.getfield 199, 3) := by decide +kernel
theorem dX6_firstStep_58 : decode cX6_firstStep 58 = .ok (.iload 4, 2) := by decide +kernel
theorem dX6_firstStep_60 : decode cX6_firstStep 60 = .ok (.iaload, 1) := by decide +kernel
theorem dX6_firstStep_61 : decode cX6_firstStep 61 = .ok (.ireturn, 1) := by decide +kernel
theorem dX6_reachableCells_0 : decode cX6_reachableCells 0 = .ok (.aload_n 0, 1) := by decide +kernel
theorem dX6_reachableCells_1 : decode cX6_reachableCells 1 = .ok (.getfield 39, 3) := by decide +kernel
theorem dX6_reachableCells_4 : decode cX6_reachableCells 4 = .ok (.aload_n 0, 1) := by decide +kernel
theorem dX6_reachableCells_5 : decode cX6_reachableCells 5 = .ok (.getfield 12, 3) := by decide +kernel
theorem dX6_reachableCells_8 : decode cX6_reachableCells 8 = .ok (.aload_n 0, 1) := by decide +kernel
theorem dX6_reachableCells_9 : decode cX6_reachableCells 9 = .ok (.iload_n 1, 1) := by decide +kernel
theorem dX6_reachableCells_10 : decode cX6_reachableCells 10 = .ok (.invokevirtual 178, 3) := by decide +kernel
theorem dX6_reachableCells_13 : decode cX6_reachableCells 13 = .ok (.invokevirtual 181, 3) := by decide +kernel
theorem dX6_reachableCells_16 : decode cX6_reachableCells 16 = .ok (.aload_n 0, 1) := by decide +kernel
theorem dX6_reachableCells_17 : decode cX6_reachableCells 17 = .ok (.getfield 39, 3) := by decide +kernel
theorem dX6_reachableCells_20 : decode cX6_reachableCells 20 = .ok (.invokevirtual 202, 3) := by decide +kernel
theorem dX6_reachableCells_23 : decode cX6_reachableCells 23 = .ok (.ireturn, 1) := by decide +kernel
theorem dX6_nearestKey_0 : decode cX6_nearestKey 0 = .ok (.aload_n 0, 1) := by decide +kernel
theorem dX6_nearestKey_1 : decode cX6_nearestKey 1 = .ok (.getfield 39, 3) := by decide +kernel
theorem dX6_nearestKey_4 : decode cX6_nearestKey 4 = .ok (.aload_n 0, 1) := by decide +kernel
theorem dX6_nearestKey_5 : decode cX6_nearestKey 5 = .ok (.getfield 12, 3) := by decide +kernel
theorem dX6_nearestKey_8 : decode cX6_nearestKey 8 = .ok (.aload_n 0, 1) := by decide +kernel
theorem dX6_nearestKey_9 : decode cX6_nearestKey 9 = .ok (.iload_n 1, 1) := by decide +kernel
theorem dX6_nearestKey_10 : decode cX6_nearestKey 10 = .ok (.invokevirtual 178, 3) := by decide +kernel
theorem dX6_nearestKey_13 : decode cX6_nearestKey 13 = .ok (.invokevirtual 181, 3) := by decide +kernel
theorem dX6_nearestKey_16 : decode cX6_nearestKey 16 = .ok (.iconst (-1), 1) := by decide +kernel
theorem dX6_nearestKey_17 : decode cX6_nearestKey 17 = .ok (.istore_n 2, 1) := by decide +kernel
theorem dX6_nearestKey_18 : decode cX6_nearestKey 18 = .ok (.bipush 25, 2) := by decide +kernel
theorem dX6_nearestKey_20 : decode cX6_nearestKey 20 = .ok (.istore_n 3, 1) := by decide +kernel
theorem dX6_nearestKey_21 : decode cX6_nearestKey 21 = .ok (.iconst 0, 1) := by decide +kernel
theorem dX6_nearestKey_22 : decode cX6_nearestKey 22 = .ok (.istore 4, 2) := by decide +kernel
theorem dX6_nearestKey_24 : decode cX6_nearestKey 24 = .ok (.iload 4, 2) := by decide +kernel
theorem dX6_nearestKey_26 : decode cX6_nearestKey 26 = .ok (.bipush 6, 2) := by decide +kernel
theorem dX6_nearestKey_28 : decode cX6_nearestKey 28 = .ok (.if_icmp .ge 57, 3) := by decide +kernel
theorem dX6_nearestKey_31 : decode cX6_nearestKey 31 = .ok (.aload_n 0, 1) := by decide +kernel
theorem dX6_nearestKey_32 : decode cX6_nearestKey 32 = .ok (.getfield 12, 3) := by decide +kernel
theorem dX6_nearestKey_35 : decode cX6_nearestKey 35 = .ok (.getfield 164, 3) := by decide +kernel
theorem dX6_nearestKey_38 : decode cX6_nearestKey 38 = .ok (.iload 4, 2) := by decide +kernel
theorem dX6_nearestKey_40 : decode cX6_nearestKey 40 = .ok (.iaload, 1) := by decide +kernel
theorem dX6_nearestKey_41 : decode cX6_nearestKey 41 = .ok (.istore 5, 2) := by decide +kernel
theorem dX6_nearestKey_43 : decode cX6_nearestKey 43 = .ok (.iload 5, 2) := by decide +kernel
theorem dX6_nearestKey_45 : decode cX6_nearestKey 45 = .ok (.invokestatic 206, 3) := by decide +kernel
theorem dX6_nearestKey_48 : decode cX6_nearestKey 48 = .ok (.ifCond .eq 31, 3) := by decide +kernel
theorem dX6_nearestKey_51 : decode cX6_nearestKey 51 = .ok (.aload_n 0, 1) := by decide +kernel
theorem dX6_nearestKey_52 : decode cX6_nearestKey 52 = .ok (.getfield 39, 3) := by decide +kernel
theorem dX6_nearestKey_55 : decode cX6_nearestKey 55 = .ok (.getfield 185, 3) := by decide +kernel
theorem dX6_nearestKey_58 : decode cX6_nearestKey 58 = .ok (.iload 5, 2) := by decide +kernel
theorem dX6_nearestKey_60 : decode cX6_nearestKey 60 = .ok (.iaload, 1) := by decide +kernel
theorem dX6_nearestKey_61 : decode cX6_nearestKey 61 = .ok (.iload_n 3, 1) := by decide +kernel
theorem dX6_nearestKey_62 : decode cX6_nearestKey 62 = .ok (.if_icmp .ge 17, 3) := by decide +kernel
theorem dX6_nearestKey_65 : decode cX6_nearestKey 65 = .ok (.iload 4, 2) := by decide +kernel
theorem dX6_nearestKey_67 : decode cX6_nearestKey 67 = .ok (.istore_n 2, 1) := by decide +kernel
theorem dX6_nearestKey_68 : decode cX6_nearestKey 68 = .ok (.aload_n 0, 1) := by decide +kernel
theorem dX6_nearestKey_69 : decode cX6_nearestKey 69 = .ok (.getfield 39, 3) := by decide +kernel
theorem dX6_nearestKey_72 : decode cX6_nearestKey 72 = .ok (.getfield 185, 3) := by decide +kernel
theorem dX6_nearestKey_75 : decode cX6_nearestKey 75 = .ok (.iload 5, 2) := by decide +kernel
theorem dX6_nearestKey_77 : decode cX6_nearestKey 77 = .ok (.iaload, 1) := by decide +kernel
theorem dX6_nearestKey_78 : decode cX6_nearestKey 78 = .ok (.istore_n 3, 1) := by decide +kernel
theorem dX6_nearestKey_79 : decode cX6_nearestKey 79 = .ok (.iinc 4 1, 3) := by decide +kernel
theorem dX6_nearestKey_82 : decode cX6_nearestKey 82 = .ok (.goto (-58), 3) := by decide +kernel
theorem dX6_nearestKey_85 : decode cX6_nearestKey 85 = .ok (.iload_n 2, 1) := by decide +kernel
theorem dX6_nearestKey_86 : decode cX6_nearestKey 86 = .ok (.iconst (-1), 1) := by decide +kernel
theorem dX6_nearestKey_87 : decode cX6_nearestKey 87 = .ok (.if_icmp .ne 13, 3) := by decide +kernel
theorem dX6_nearestKey_90 : decode cX6_nearestKey 90 = .ok (.new 131, 3) := by decide +kernel
theorem dX6_nearestKey_93 : decode cX6_nearestKey 93 = .ok (.dup, 1) := by decide +kernel
theorem dX6_nearestKey_94 : decode cX6_nearestKey 94 = .ok (.ldc 209, 2) := by decide +kernel
theorem dX6_nearestKey_96 : decode cX6_nearestKey 96 = .ok (.invokespecial 135, 3) := by decide +kernel
theorem dX6_nearestKey_99 : decode cX6_nearestKey 99 = .ok (.athrow, 1) := by decide +kernel
theorem dX6_nearestKey_100 : decode cX6_nearestKey 100 = .ok (.iload_n 2, 1) := by decide +kernel
theorem dX6_nearestKey_101 : decode cX6_nearestKey 101 = .ok (.invokestatic 138, 3) := by decide +kernel
theorem dX6_nearestKey_104 : decode cX6_nearestKey 104 = .ok (.ireturn, 1) := by decide +kernel
theorem dX6_helpfulShifts_0 : decode cX6_helpfulShifts 0 = .ok (.aload_n 0, 1) := by decide +kernel
theorem dX6_helpfulShifts_1 : decode cX6_helpfulShifts 1 = .ok (.iload_n 1, 1) := by decide +kernel
theorem dX6_helpfulShifts_2 : decode cX6_helpfulShifts 2 = .ok (.invokevirtual 178, 3) := by decide +kernel
theorem dX6_helpfulShifts_5 : decode cX6_helpfulShifts 5 = .ok (.pop, 1) := by decide +kernel
theorem dX6_helpfulShifts_6 : decode cX6_helpfulShifts 6 = .ok (.iload_n 2, 1) := by decide +kernel
theorem dX6_helpfulShifts_7 : decode cX6_helpfulShifts 7 = .ok (.iload_n 3, 1) := by decide +kernel
theorem dX6_helpfulShifts_8 : decode cX6_helpfulShifts 8 = .ok (.invokestatic 114, 3) := by decide +kernel
theorem dX6_helpfulShifts_11 : decode cX6_helpfulShifts 11 = .ok (.istore 4, 2) := by decide +kernel
theorem dX6_helpfulShifts_13 : decode cX6_helpfulShifts 13 = .ok (.iconst 0, 1) := by decide +kernel
theorem dX6_helpfulShifts_14 : decode cX6_helpfulShifts 14 = .ok (.istore 5, 2) := by decide +kernel
theorem dX6_helpfulShifts_16 : decode cX6_helpfulShifts 16 = .ok (.iconst 0, 1) := by decide +kernel
theorem dX6_helpfulShifts_17 : decode cX6_helpfulShifts 17 = .ok (.istore 6, 2) := by decide +kernel
theorem dX6_helpfulShifts_19 : decode cX6_helpfulShifts 19 = .ok (.iload 6, 2) := by decide +kernel
theorem dX6_helpfulShifts_21 : decode cX6_helpfulShifts 21 = .ok (.iconst 5, 1) := by decide +kernel
theorem dX6_helpfulShifts_22 : decode cX6_helpfulShifts 22 = .ok (.if_icmp .ge 41, 3) := by decide +kernel
theorem dX6_helpfulShifts_25 : decode cX6_helpfulShifts 25 = .ok (.iload 5, 2) := by decide +kernel
theorem dX6_helpfulShifts_27 : decode cX6_helpfulShifts 27 = .ok (.aload_n 0, 1) := by decide +kernel
theorem dX6_helpfulShifts_28 : decode cX6_helpfulShifts 28 = .ok (.iload_n 1, 1) := by decide +kernel
theorem dX6_helpfulShifts_29 : decode cX6_helpfulShifts 29 = .ok (.iload 4, 2) := by decide +kernel
theorem dX6_helpfulShifts_31 : decode cX6_helpfulShifts 31 = .ok (.iload 6, 2) := by decide +kernel
theorem dX6_helpfulShifts_33 : decode cX6_helpfulShifts 33 = .ok (.iconst 5, 1) := by decide +kernel
theorem dX6_helpfulShifts_34 : decode cX6_helpfulShifts 34 = .ok (.imul, 1) := by decide +kernel
theorem dX6_helpfulShifts_35 : decode cX6_helpfulShifts 35 = .ok (.iconst 1, 1) := by decide +kernel
theorem dX6_helpfulShifts_36 : decode cX6_helpfulShifts 36 = .ok (.invokevirtual 211, 3) := by decide +kernel
theorem dX6_helpfulShifts_39 : decode cX6_helpfulShifts 39 = .ok (.iadd, 1) := by decide +kernel
theorem dX6_helpfulShifts_40 : decode cX6_helpfulShifts 40 = .ok (.istore 5, 2) := by decide +kernel
theorem dX6_helpfulShifts_42 : decode cX6_helpfulShifts 42 = .ok (.iload 5, 2) := by decide +kernel
theorem dX6_helpfulShifts_44 : decode cX6_helpfulShifts 44 = .ok (.aload_n 0, 1) := by decide +kernel
theorem dX6_helpfulShifts_45 : decode cX6_helpfulShifts 45 = .ok (.iload_n 1, 1) := by decide +kernel
theorem dX6_helpfulShifts_46 : decode cX6_helpfulShifts 46 = .ok (.iload 4, 2) := by decide +kernel
theorem dX6_helpfulShifts_48 : decode cX6_helpfulShifts 48 = .ok (.iload 6, 2) := by decide +kernel
theorem dX6_helpfulShifts_50 : decode cX6_helpfulShifts 50 = .ok (.iconst 5, 1) := by decide +kernel
theorem dX6_helpfulShifts_51 : decode cX6_helpfulShifts 51 = .ok (.invokevirtual 211, 3) := by decide +kernel
theorem dX6_helpfulShifts_54 : decode cX6_helpfulShifts 54 = .ok (.iadd, 1) := by decide +kernel
theorem dX6_helpfulShifts_55 : decode cX6_helpfulShifts 55 = .ok (.istore 5, 2) := by decide +kernel
theorem dX6_helpfulShifts_57 : decode cX6_helpfulShifts 57 = .ok (.iinc 6 1, 3) := by decide +kernel
theorem dX6_helpfulShifts_60 : decode cX6_helpfulShifts 60 = .ok (.goto (-41), 3) := by decide +kernel
theorem dX6_helpfulShifts_63 : decode cX6_helpfulShifts 63 = .ok (.iload 5, 2) := by decide +kernel
theorem dX6_helpfulShifts_65 : decode cX6_helpfulShifts 65 = .ok (.ireturn, 1) := by decide +kernel
theorem dX6_shiftCount_0 : decode cX6_shiftCount 0 = .ok (.aload_n 0, 1) := by decide +kernel
theorem dX6_shiftCount_1 : decode cX6_shiftCount 1 = .ok (.getfield 12, 3) := by decide +kernel
theorem dX6_shiftCount_4 : decode cX6_shiftCount 4 = .ok (.getfield 215, 3) := by decide +kernel
theorem dX6_shiftCount_7 : decode cX6_shiftCount 7 = .ok (.ireturn, 1) := by decide +kernel
theorem dX6_walkedTotal_0 : decode cX6_walkedTotal 0 = .ok (.aload_n 0, 1) := by decide +kernel
theorem dX6_walkedTotal_1 : decode cX6_walkedTotal 1 = .ok (.getfield 12, 3) := by decide +kernel
theorem dX6_walkedTotal_4 : decode cX6_walkedTotal 4 = .ok (.getfield 218, 3) := by decide +kernel
theorem dX6_walkedTotal_7 : decode cX6_walkedTotal 7 = .ok (.lreturn, 1) := by decide +kernel
theorem dX6_meanOpenings_0 : decode cX6_meanOpenings 0 = .ok (.iconst 0, 1) := by decide +kernel
theorem dX6_meanOpenings_1 : decode cX6_meanOpenings 1 = .ok (.istore_n 1, 1) := by decide +kernel
theorem dX6_meanOpenings_2 : decode cX6_meanOpenings 2 = .ok (.iconst 0, 1) := by decide +kernel
theorem dX6_meanOpenings_3 : decode cX6_meanOpenings 3 = .ok (.istore_n 2, 1) := by decide +kernel
theorem dX6_meanOpenings_4 : decode cX6_meanOpenings 4 = .ok (.iload_n 2, 1) := by decide +kernel
theorem dX6_meanOpenings_5 : decode cX6_meanOpenings 5 = .ok (.bipush 25, 2) := by decide +kernel
theorem dX6_meanOpenings_7 : decode cX6_meanOpenings 7 = .ok (.if_icmp .ge 24, 3) := by decide +kernel
theorem dX6_meanOpenings_10 : decode cX6_meanOpenings 10 = .ok (.iload_n 1, 1) := by decide +kernel
theorem dX6_meanOpenings_11 : decode cX6_meanOpenings 11 = .ok (.aload_n 0, 1) := by decide +kernel
theorem dX6_meanOpenings_12 : decode cX6_meanOpenings 12 = .ok (.getfield 12, 3) := by decide +kernel
theorem dX6_meanOpenings_15 : decode cX6_meanOpenings 15 = .ok (.getfield 110, 3) := by decide +kernel
theorem dX6_meanOpenings_18 : decode cX6_meanOpenings 18 = .ok (.iload_n 2, 1) := by decide +kernel
theorem dX6_meanOpenings_19 : decode cX6_meanOpenings 19 = .ok (.iaload, 1) := by decide +kernel
theorem dX6_meanOpenings_20 : decode cX6_meanOpenings 20 = .ok (.invokestatic 222, 3) := by decide +kernel
theorem dX6_meanOpenings_23 : decode cX6_meanOpenings 23 = .ok (.iadd, 1) := by decide +kernel
theorem dX6_meanOpenings_24 : decode cX6_meanOpenings 24 = .ok (.istore_n 1, 1) := by decide +kernel
theorem dX6_meanOpenings_25 : decode cX6_meanOpenings 25 = .ok (.iinc 2 1, 3) := by decide +kernel
theorem dX6_meanOpenings_28 : decode cX6_meanOpenings 28 = .ok (.goto (-24), 3) := by decide +kernel
theorem dX6_meanOpenings_31 : decode cX6_meanOpenings 31 = .ok (.iload_n 1, 1) := by decide +kernel
theorem dX6_meanOpenings_32 : decode cX6_meanOpenings 32 = .ok (.i2d, 1) := by decide +kernel
theorem dX6_meanOpenings_33 : decode cX6_meanOpenings 33 = .ok (.ldc2_w 227, 3) := by decide +kernel
theorem dX6_meanOpenings_36 : decode cX6_meanOpenings 36 = .ok (.ddiv, 1) := by decide +kernel
theorem dX6_meanOpenings_37 : decode cX6_meanOpenings 37 = .ok (.dreturn, 1) := by decide +kernel
theorem dX6_reachableShare_0 : decode cX6_reachableShare 0 = .ok (.aload_n 0, 1) := by decide +kernel
theorem dX6_reachableShare_1 : decode cX6_reachableShare 1 = .ok (.getfield 39, 3) := by decide +kernel
theorem dX6_reachableShare_4 : decode cX6_reachableShare 4 = .ok (.aload_n 0, 1) := by decide +kernel
theorem dX6_reachableShare_5 : decode cX6_reachableShare 5 = .ok (.getfield 12, 3) := by decide +kernel
theorem dX6_reachableShare_8 : decode cX6_reachableShare 8 = .ok (.aload_n 0, 1) := by decide +kernel
theorem dX6_reachableShare_9 : decode cX6_reachableShare 9 = .ok (.iload_n 1, 1) := by decide +kernel
theorem dX6_reachableShare_10 : decode cX6_reachableShare 10 = .ok (.invokevirtual 178, 3) := by decide +kernel
theorem dX6_reachableShare_13 : decode cX6_reachableShare 13 = .ok (.invokevirtual 181, 3) := by decide +kernel
theorem dX6_reachableShare_16 : decode cX6_reachableShare 16 = .ok (.aload_n 0, 1) := by decide +kernel
theorem dX6_reachableShare_17 : decode cX6_reachableShare 17 = .ok (.getfield 39, 3) := by decide +kernel
theorem dX6_reachableShare_20 : decode cX6_reachableShare 20 = .ok (.invokevirtual 202, 3) := by decide +kernel
theorem dX6_reachableShare_23 : decode cX6_reachableShare 23 = .ok (.i2f, 1) := by decide +kernel
theorem dX6_reachableShare_24 : decode cX6_reachableShare 24 = .ok (.ldc 229, 2) := by decide +kernel
theorem dX6_reachableShare_26 : decode cX6_reachableShare 26 = .ok (.fdiv, 1) := by decide +kernel
theorem dX6_reachableShare_27 : decode cX6_reachableShare 27 = .ok (.freturn, 1) := by decide +kernel
theorem dX6_isConsistent_0 : decode cX6_isConsistent 0 = .ok (.iconst 0, 1) := by decide +kernel
theorem dX6_isConsistent_1 : decode cX6_isConsistent 1 = .ok (.istore_n 1, 1) := by decide +kernel
theorem dX6_isConsistent_2 : decode cX6_isConsistent 2 = .ok (.iload_n 1, 1) := by decide +kernel
theorem dX6_isConsistent_3 : decode cX6_isConsistent 3 = .ok (.aload_n 0, 1) := by decide +kernel
theorem dX6_isConsistent_4 : decode cX6_isConsistent 4 = .ok (.getfield 12, 3) := by decide +kernel
theorem dX6_isConsistent_7 : decode cX6_isConsistent 7 = .ok (.getfield 172, 3) := by decide +kernel
theorem dX6_isConsistent_10 : decode cX6_isConsistent 10 = .ok (.if_icmp .ge 26, 3) := by decide +kernel
theorem dX6_isConsistent_13 : decode cX6_isConsistent 13 = .ok (.aload_n 0, 1) := by decide +kernel
theorem dX6_isConsistent_14 : decode cX6_isConsistent 14 = .ok (.getfield 39, 3) := by decide +kernel
theorem dX6_isConsistent_17 : decode cX6_isConsistent 17 = .ok (.aload_n 0, 1) := by decide +kernel
theorem dX6_isConsistent_18 : decode cX6_isConsistent 18 = .ok (.getfield 12, 3) := by decide +kernel
theorem dX6_isConsistent_21 : decode cX6_isConsistent 21 = .ok (.iload_n 1, 1) := by decide +kernel
theorem dX6_isConsistent_22 : decode cX6_isConsistent 22 = .ok (.invokevirtual 230, 3) := by decide +kernel
theorem dX6_isConsistent_25 : decode cX6_isConsistent 25 = .ok (.ifCond .ne 5, 3) := by decide +kernel
theorem dX6_isConsistent_28 : decode cX6_isConsistent 28 = .ok (.iconst 0, 1) := by decide +kernel
theorem dX6_isConsistent_29 : decode cX6_isConsistent 29 = .ok (.ireturn, 1) := by decide +kernel
theorem dX6_isConsistent_30 : decode cX6_isConsistent 30 = .ok (.iinc 1 1, 3) := by decide +kernel
theorem dX6_isConsistent_33 : decode cX6_isConsistent 33 = .ok (.goto (-31), 3) := by decide +kernel
theorem dX6_isConsistent_36 : decode cX6_isConsistent 36 = .ok (.aload_n 0, 1) := by decide +kernel
theorem dX6_isConsistent_37 : decode cX6_isConsistent 37 = .ok (.getfield 12, 3) := by decide +kernel
theorem dX6_isConsistent_40 : decode cX6_isConsistent 40 = .ok (.invokevirtual 234, 3) := by decide +kernel
theorem dX6_isConsistent_43 : decode cX6_isConsistent 43 = .ok (.ifCond .eq 32, 3) := by decide +kernel
theorem dX6_isConsistent_46 : decode cX6_isConsistent 46 = .ok (.aload_n 0, 1) := by decide +kernel
theorem dX6_isConsistent_47 : decode cX6_isConsistent 47 = .ok (.getfield 39, 3) := by decide +kernel
theorem dX6_isConsistent_50 : decode cX6_isConsistent 50 = .ok (.aload_n 0, 1) := by decide +kernel
theorem dX6_isConsistent_51 : decode cX6_isConsistent 51 = .ok (.getfield 12, 3) := by decide +kernel
theorem dX6_isConsistent_54 : decode cX6_isConsistent 54 = .ok (.invokevirtual 153, 3) := by decide +kernel
theorem dX6_isConsistent_57 : decode cX6_isConsistent 57 = .ok (.aload_n 0, 1) := by decide +kernel
theorem dX6_isConsistent_58 : decode cX6_isConsistent 58 = .ok (.getfield 39, 3) := by decide +kernel
theorem dX6_isConsistent_61 : decode cX6_isConsistent 61 = .ok (.aload_n 0, 1) := by decide +kernel
theorem dX6_isConsistent_62 : decode cX6_isConsistent 62 = .ok (.getfield 12, 3) := by decide +kernel
theorem dX6_isConsistent_65 : decode cX6_isConsistent 65 = .ok (.invokevirtual 157, 3) := by decide +kernel
theorem dX6_isConsistent_68 : decode cX6_isConsistent 68 = .ok (.if_icmp .ne 7, 3) := by decide +kernel
theorem dX6_isConsistent_71 : decode cX6_isConsistent 71 = .ok (.iconst 1, 1) := by decide +kernel
theorem dX6_isConsistent_72 : decode cX6_isConsistent 72 = .ok (.goto 4, 3) := by decide +kernel
theorem dX6_isConsistent_75 : decode cX6_isConsistent 75 = .ok (.iconst 0, 1) := by decide +kernel
theorem dX6_isConsistent_76 : decode cX6_isConsistent 76 = .ok (.ireturn, 1) := by decide +kernel
theorem dX6_run_0 : decode cX6_run 0 = .ok (.aload_n 0, 1) := by decide +kernel
theorem dX6_run_1 : decode cX6_run 1 = .ok (.getfield 46, 3) := by decide +kernel
theorem dX6_run_4 : decode cX6_run 4 = .ok (.invokevirtual 250, 3) := by decide +kernel
theorem dX6_run_7 : decode cX6_run 7 = .ok (.istore_n 1, 1) := by decide +kernel
theorem dX6_run_8 : decode cX6_run 8 = .ok (.iload_n 1, 1) := by decide +kernel
theorem dX6_run_9 : decode cX6_run 9 = .ok (.iconst (-1), 1) := by decide +kernel
theorem dX6_run_10 : decode cX6_run 10 = .ok (.if_icmp .eq 26, 3) := by decide +kernel
theorem dX6_run_13 : decode cX6_run 13 = .ok (.aload_n 0, 1) := by decide +kernel
theorem dX6_run_14 : decode cX6_run 14 = .ok (.getfield 46, 3) := by decide +kernel
theorem dX6_run_17 : decode cX6_run 17 = .ok (.invokevirtual 253, 3) := by decide +kernel
theorem dX6_run_20 : decode cX6_run 20 = .ok (.aload_n 0, 1) := by decide +kernel
theorem dX6_run_21 : decode cX6_run 21 = .ok (.iload_n 1, 1) := by decide +kernel
theorem dX6_run_22 : decode cX6_run 22 = .ok (.putfield 50, 3) := by decide +kernel
theorem dX6_run_25 : decode cX6_run 25 = .ok (.new 145, 3) := by decide +kernel
theorem dX6_run_28 : decode cX6_run 28 = .ok (.dup, 1) := by decide +kernel
theorem dX6_run_29 : decode cX6_run 29 = .ok (.ldc_w 256, 3) := by decide +kernel
theorem dX6_run_32 : decode cX6_run 32 = .ok (.invokespecial 149, 3) := by decide +kernel
theorem dX6_run_35 : decode cX6_run 35 = .ok (.athrow, 1) := by decide +kernel
theorem dX6_run_36 : decode cX6_run 36 = .ok (.aload_n 0, 1) := by decide +kernel
theorem dX6_run_37 : decode cX6_run 37 = .ok (.getfield 16, 3) := by decide +kernel
theorem dX6_run_40 : decode cX6_run 40 = .ok (.aload_n 0, 1) := by decide +kernel
theorem dX6_run_41 : decode cX6_run 41 = .ok (.getfield 12, 3) := by decide +kernel
theorem dX6_run_44 : decode cX6_run 44 = .ok (.invokevirtual 64, 3) := by decide +kernel
theorem dX6_run_47 : decode cX6_run 47 = .ok (.aload_n 0, 1) := by decide +kernel
theorem dX6_run_48 : decode cX6_run 48 = .ok (.invokevirtual 258, 3) := by decide +kernel
theorem dX6_run_51 : decode cX6_run 51 = .ok (.istore_n 2, 1) := by decide +kernel
theorem dX6_run_52 : decode cX6_run 52 = .ok (.aload_n 0, 1) := by decide +kernel
theorem dX6_run_53 : decode cX6_run 53 = .ok (.getfield 46, 3) := by decide +kernel
theorem dX6_run_56 : decode cX6_run 56 = .ok (.invokevirtual 253, 3) := by decide +kernel
theorem dX6_run_59 : decode cX6_run 59 = .ok (.iload_n 2, 1) := by decide +kernel
theorem dX6_run_60 : decode cX6_run 60 = .ok (.iconst (-1), 1) := by decide +kernel
theorem dX6_run_61 : decode cX6_run 61 = .ok (.if_icmp .eq 30, 3) := by decide +kernel
theorem dX6_run_64 : decode cX6_run 64 = .ok (.aload_n 0, 1) := by decide +kernel
theorem dX6_run_65 : decode cX6_run 65 = .ok (.getfield 12, 3) := by decide +kernel
theorem dX6_run_68 : decode cX6_run 68 = .ok (.aload_n 0, 1) := by decide +kernel
theorem dX6_run_69 : decode cX6_run 69 = .ok (.getfield 16, 3) := by decide +kernel
theorem dX6_run_72 : decode cX6_run 72 = .ok (.invokevirtual 64, 3) := by decide +kernel
theorem dX6_run_75 : decode cX6_run 75 = .ok (.aload_n 0, 1) := by decide +kernel
theorem dX6_run_76 : decode cX6_run 76 = .ok (.iload_n 2, 1) := by decide +kernel
theorem dX6_run_77 : decode cX6_run 77 = .ok (.putfield 54, 3) := by decide +kernel
theorem dX6_run_80 : decode cX6_run 80 = .ok (.new 261, 3) := by decide +kernel
theorem dX6_run_83 : decode cX6_run 83 = .ok (.dup, 1) := by decide +kernel
theorem dX6_run_84 : decode cX6_run 84 = .ok (.ldc_w 263, 3) := by decide +kernel
theorem dX6_run_87 : decode cX6_run 87 = .ok (.invokespecial 265, 3) := by decide +kernel
theorem dX6_run_90 : decode cX6_run 90 = .ok (.athrow, 1) := by decide +kernel
theorem dX6_run_91 : decode cX6_run 91 = .ok (.aload_n 0, 1) := by decide +kernel
theorem dX6_run_92 : decode cX6_run 92 = .ok (.getfield 32, 3) := by decide +kernel
theorem dX6_run_95 : decode cX6_run 95 = .ok (.aload_n 0, 1) := by decide +kernel
theorem dX6_run_96 : decode cX6_run 96 = .ok (.getfield 16, 3) := by decide +kernel
theorem dX6_run_99 : decode cX6_run 99 = .ok (.invokevirtual 266, 3) := by decide +kernel
theorem dX6_run_102 : decode cX6_run 102 = .ok (.aload_n 0, 1) := by decide +kernel
theorem dX6_run_103 : decode cX6_run 103 = .ok (.getfield 46, 3) := by decide +kernel
theorem dX6_run_106 : decode cX6_run 106 = .ok (.getfield 268, 3) := by decide +kernel
theorem dX6_run_109 : decode cX6_run 109 = .ok (.ireturn, 1) := by decide +kernel
theorem dX6_errorPosition_0 : decode cX6_errorPosition 0 = .ok (.aload_n 0, 1) := by decide +kernel
theorem dX6_errorPosition_1 : decode cX6_errorPosition 1 = .ok (.getfield 50, 3) := by decide +kernel
theorem dX6_errorPosition_4 : decode cX6_errorPosition 4 = .ok (.iconst (-1), 1) := by decide +kernel
theorem dX6_errorPosition_5 : decode cX6_errorPosition 5 = .ok (.if_icmp .ne 14, 3) := by decide +kernel
theorem dX6_errorPosition_8 : decode cX6_errorPosition 8 = .ok (.new 131, 3) := by decide +kernel
theorem dX6_errorPosition_11 : decode cX6_errorPosition 11 = .ok (.dup, 1) := by decide +kernel
theorem dX6_errorPosition_12 : decode cX6_errorPosition 12 = .ok (.ldc_w 271, 3) := by decide +kernel
theorem dX6_errorPosition_15 : decode cX6_errorPosition 15 = .ok (.invokespecial 135, 3) := by decide +kernel
theorem dX6_errorPosition_18 : decode cX6_errorPosition 18 = .ok (.athrow, 1) := by decide +kernel
theorem dX6_errorPosition_19 : decode cX6_errorPosition 19 = .ok (.aload_n 0, 1) := by decide +kernel
theorem dX6_errorPosition_20 : decode cX6_errorPosition 20 = .ok (.getfield 50, 3) := by decide +kernel
theorem dX6_errorPosition_23 : decode cX6_errorPosition 23 = .ok (.ireturn, 1) := by decide +kernel
theorem dX6_failedCommand_0 : decode cX6_failedCommand 0 = .ok (.aload_n 0, 1) := by decide +kernel
theorem dX6_failedCommand_1 : decode cX6_failedCommand 1 = .ok (.getfield 54, 3) := by decide +kernel
theorem dX6_failedCommand_4 : decode cX6_failedCommand 4 = .ok (.iconst (-1), 1) := by decide +kernel
theorem dX6_failedCommand_5 : decode cX6_failedCommand 5 = .ok (.if_icmp .ne 14, 3) := by decide +kernel
theorem dX6_failedCommand_8 : decode cX6_failedCommand 8 = .ok (.new 131, 3) := by decide +kernel
theorem dX6_failedCommand_11 : decode cX6_failedCommand 11 = .ok (.dup, 1) := by decide +kernel
theorem dX6_failedCommand_12 : decode cX6_failedCommand 12 = .ok (.ldc_w 273, 3) := by decide +kernel
theorem dX6_failedCommand_15 : decode cX6_failedCommand 15 = .ok (.invokespecial 135, 3) := by decide +kernel
theorem dX6_failedCommand_18 : decode cX6_failedCommand 18 = .ok (.athrow, 1) := by decide +kernel
theorem dX6_failedCommand_19 : decode cX6_failedCommand 19 = .ok (.aload_n 0, 1) := by decide +kernel
theorem dX6_failedCommand_20 : decode cX6_failedCommand 20 = .ok (.getfield 54, 3) := by decide +kernel
theorem dX6_failedCommand_23 : decode cX6_failedCommand 23 = .ok (.ireturn, 1) := by decide +kernel
theorem dX6_writeRow_0 : decode cX6_writeRow 0 = .ok (.iload_n 1, 1) := by decide +kernel
theorem dX6_writeRow_1 : decode cX6_writeRow 1 = .ok (.invokestatic 121, 3) := by decide +kernel
theorem dX6_writeRow_4 : decode cX6_writeRow 4 = .ok (.iconst 5, 1) := by decide +kernel
theorem dX6_writeRow_5 : decode cX6_writeRow 5 = .ok (.imul, 1) := by decide +kernel
theorem dX6_writeRow_6 : decode cX6_writeRow 6 = .ok (.istore_n 2, 1) := by decide +kernel
theorem dX6_writeRow_7 : decode cX6_writeRow 7 = .ok (.aload_n 0, 1) := by decide +kernel
theorem dX6_writeRow_8 : decode cX6_writeRow 8 = .ok (.iconst 0, 1) := by decide +kernel
theorem dX6_writeRow_9 : decode cX6_writeRow 9 = .ok (.putfield 61, 3) := by decide +kernel
theorem dX6_writeRow_12 : decode cX6_writeRow 12 = .ok (.iconst 0, 1) := by decide +kernel
theorem dX6_writeRow_13 : decode cX6_writeRow 13 = .ok (.istore_n 3, 1) := by decide +kernel
theorem dX6_writeRow_14 : decode cX6_writeRow 14 = .ok (.iload_n 3, 1) := by decide +kernel
theorem dX6_writeRow_15 : decode cX6_writeRow 15 = .ok (.iconst 5, 1) := by decide +kernel
theorem dX6_writeRow_16 : decode cX6_writeRow 16 = .ok (.if_icmp .ge 26, 3) := by decide +kernel
theorem dX6_writeRow_19 : decode cX6_writeRow 19 = .ok (.iload_n 3, 1) := by decide +kernel
theorem dX6_writeRow_20 : decode cX6_writeRow 20 = .ok (.ifCond .le 9, 3) := by decide +kernel
theorem dX6_writeRow_23 : decode cX6_writeRow 23 = .ok (.aload_n 0, 1) := by decide +kernel
theorem dX6_writeRow_24 : decode cX6_writeRow 24 = .ok (.bipush 32, 2) := by decide +kernel
theorem dX6_writeRow_26 : decode cX6_writeRow 26 = .ok (.invokevirtual 275, 3) := by decide +kernel
theorem dX6_writeRow_29 : decode cX6_writeRow 29 = .ok (.aload_n 0, 1) := by decide +kernel
theorem dX6_writeRow_30 : decode cX6_writeRow 30 = .ok (.iload_n 2, 1) := by decide +kernel
theorem dX6_writeRow_31 : decode cX6_writeRow 31 = .ok (.iload_n 3, 1) := by decide +kernel
theorem dX6_writeRow_32 : decode cX6_writeRow 32 = .ok (.iadd, 1) := by decide +kernel
theorem dX6_writeRow_33 : decode cX6_writeRow 33 = .ok (.invokevirtual 279, 3) := by decide +kernel
theorem dX6_writeRow_36 : decode cX6_writeRow 36 = .ok (.iinc 3 1, 3) := by decide +kernel
theorem dX6_writeRow_39 : decode cX6_writeRow 39 = .ok (.goto (-25), 3) := by decide +kernel
theorem dX6_writeRow_42 : decode cX6_writeRow 42 = .ok (.aload_n 0, 1) := by decide +kernel
theorem dX6_writeRow_43 : decode cX6_writeRow 43 = .ok (.getfield 61, 3) := by decide +kernel
theorem dX6_writeRow_46 : decode cX6_writeRow 46 = .ok (.ireturn, 1) := by decide +kernel
theorem dX6_outputAt_0 : decode cX6_outputAt 0 = .ok (.iload_n 1, 1) := by decide +kernel
theorem dX6_outputAt_1 : decode cX6_outputAt 1 = .ok (.ifCond .lt 11, 3) := by decide +kernel
theorem dX6_outputAt_4 : decode cX6_outputAt 4 = .ok (.iload_n 1, 1) := by decide +kernel
theorem dX6_outputAt_5 : decode cX6_outputAt 5 = .ok (.aload_n 0, 1) := by decide +kernel
theorem dX6_outputAt_6 : decode cX6_outputAt 6 = .ok (.getfield 61, 3) := by decide +kernel
theorem dX6_outputAt_9 : decode cX6_outputAt 9 = .ok (.if_icmp .lt 14, 3) := by decide +kernel
theorem dX6_outputAt_12 : decode cX6_outputAt 12 = .ok (.new 283, 3) := by decide +kernel
theorem dX6_outputAt_15 : decode cX6_outputAt 15 = .ok (.dup, 1) := by decide +kernel
theorem dX6_outputAt_16 : decode cX6_outputAt 16 = .ok (.ldc_w 285, 3) := by decide +kernel
theorem dX6_outputAt_19 : decode cX6_outputAt 19 = .ok (.invokespecial 287, 3) := by decide +kernel
theorem dX6_outputAt_22 : decode cX6_outputAt 22 = .ok (.athrow, 1) := by decide +kernel
theorem dX6_outputAt_23 : decode cX6_outputAt 23 = .ok (.aload_n 0, 1) := by decide +kernel
theorem dX6_outputAt_24 : decode cX6_outputAt 24 = .ok (.getfield 57, 3) := by decide +kernel
theorem dX6_outputAt_27 : decode cX6_outputAt 27 = .ok (.iload_n 1, 1) := by decide +kernel
theorem dX6_outputAt_28 : decode cX6_outputAt 28 = .ok (.caload, 1) := by decide +kernel
theorem dX6_outputAt_29 : decode cX6_outputAt 29 = .ok (.ireturn, 1) := by decide +kernel
theorem dX6_save_0 : decode cX6_save 0 = .ok (.aload_n 0, 1) := by decide +kernel
theorem dX6_save_1 : decode cX6_save 1 = .ok (.getfield 22, 3) := by decide +kernel
theorem dX6_save_4 : decode cX6_save 4 = .ok (.aload_n 0, 1) := by decide +kernel
theorem dX6_save_5 : decode cX6_save 5 = .ok (.getfield 12, 3) := by decide +kernel
theorem dX6_save_8 : decode cX6_save 8 = .ok (.invokevirtual 64, 3) := by decide +kernel
theorem dX6_save_11 : decode cX6_save 11 = .ok (.aload_n 0, 1) := by decide +kernel
theorem dX6_save_12 : decode cX6_save 12 = .ok (.iconst 1, 1) := by decide +kernel
theorem dX6_save_13 : decode cX6_save 13 = .ok (.putfield 25, 3) := by decide +kernel
theorem dX6_save_16 : decode cX6_save 16 = .ok (.return_, 1) := by decide +kernel
theorem dX6_restore_0 : decode cX6_restore 0 = .ok (.aload_n 0, 1) := by decide +kernel
theorem dX6_restore_1 : decode cX6_restore 1 = .ok (.getfield 25, 3) := by decide +kernel
theorem dX6_restore_4 : decode cX6_restore 4 = .ok (.ifCond .ne 14, 3) := by decide +kernel
theorem dX6_restore_7 : decode cX6_restore 7 = .ok (.new 242, 3) := by decide +kernel
theorem dX6_restore_10 : decode cX6_restore 10 = .ok (.dup, 1) := by decide +kernel
theorem dX6_restore_11 : decode cX6_restore 11 = .ok (.ldc_w 296, 3) := by decide +kernel
theorem dX6_restore_14 : decode cX6_restore 14 = .ok (.invokespecial 246, 3) := by decide +kernel
theorem dX6_restore_17 : decode cX6_restore 17 = .ok (.athrow, 1) := by decide +kernel
theorem dX6_restore_18 : decode cX6_restore 18 = .ok (.aload_n 0, 1) := by decide +kernel
theorem dX6_restore_19 : decode cX6_restore 19 = .ok (.getfield 12, 3) := by decide +kernel
theorem dX6_restore_22 : decode cX6_restore 22 = .ok (.aload_n 0, 1) := by decide +kernel
theorem dX6_restore_23 : decode cX6_restore 23 = .ok (.getfield 22, 3) := by decide +kernel
theorem dX6_restore_26 : decode cX6_restore 26 = .ok (.invokevirtual 64, 3) := by decide +kernel
theorem dX6_restore_29 : decode cX6_restore 29 = .ok (.aload_n 0, 1) := by decide +kernel
theorem dX6_restore_30 : decode cX6_restore 30 = .ok (.getfield 32, 3) := by decide +kernel
theorem dX6_restore_33 : decode cX6_restore 33 = .ok (.invokevirtual 298, 3) := by decide +kernel
theorem dX6_restore_36 : decode cX6_restore 36 = .ok (.return_, 1) := by decide +kernel
theorem dX6_settle_0 : decode cX6_settle 0 = .ok (.iload_n 1, 1) := by decide +kernel
theorem dX6_settle_1 : decode cX6_settle 1 = .ok (.tableswitch 89 (-5) (-1) #[79, 68, 57, 46, 35], 35) := by decide +kernel
theorem dX6_settle_36 : decode cX6_settle 36 = .ok (.new 283, 3) := by decide +kernel
theorem dX6_settle_39 : decode cX6_settle 39 = .ok (.dup, 1) := by decide +kernel
theorem dX6_settle_40 : decode cX6_settle 40 = .ok (.ldc_w 299, 3) := by decide +kernel
theorem dX6_settle_43 : decode cX6_settle 43 = .ok (.invokespecial 287, 3) := by decide +kernel
theorem dX6_settle_46 : decode cX6_settle 46 = .ok (.athrow, 1) := by decide +kernel
theorem dX6_settle_47 : decode cX6_settle 47 = .ok (.new 145, 3) := by decide +kernel
theorem dX6_settle_50 : decode cX6_settle 50 = .ok (.dup, 1) := by decide +kernel
theorem dX6_settle_51 : decode cX6_settle 51 = .ok (.ldc_w 301, 3) := by decide +kernel
theorem dX6_settle_54 : decode cX6_settle 54 = .ok (.invokespecial 149, 3) := by decide +kernel
theorem dX6_settle_57 : decode cX6_settle 57 = .ok (.athrow, 1) := by decide +kernel
theorem dX6_settle_58 : decode cX6_settle 58 = .ok (.new 242, 3) := by decide +kernel
theorem dX6_settle_61 : decode cX6_settle 61 = .ok (.dup, 1) := by decide +kernel
theorem dX6_settle_62 : decode cX6_settle 62 = .ok (.ldc_w 303, 3) := by decide +kernel
theorem dX6_settle_65 : decode cX6_settle 65 = .ok (.invokespecial 246, 3) := by decide +kernel
theorem dX6_settle_68 : decode cX6_settle 68 = .ok (.athrow, 1) := by decide +kernel
theorem dX6_settle_69 : decode cX6_settle 69 = .ok (.new 261, 3) := by decide +kernel
theorem dX6_settle_72 : decode cX6_settle 72 = .ok (.dup, 1) := by decide +kernel
theorem dX6_settle_73 : decode cX6_settle 73 = .ok (.ldc_w 305, 3) := by decide +kernel
theorem dX6_settle_76 : decode cX6_settle 76 = .ok (.invokespecial 265, 3) := by decide +kernel
theorem dX6_settle_79 : decode cX6_settle 79 = .ok (.athrow, 1) := by decide +kernel
theorem dX6_settle_80 : decode cX6_settle 80 = .ok (.new 131, 3) := by decide +kernel
theorem dX6_settle_83 : decode cX6_settle 83 = .ok (.dup, 1) := by decide +kernel
theorem dX6_settle_84 : decode cX6_settle 84 = .ok (.ldc 133, 2) := by decide +kernel
theorem dX6_settle_86 : decode cX6_settle 86 = .ok (.invokespecial 135, 3) := by decide +kernel
theorem dX6_settle_89 : decode cX6_settle 89 = .ok (.athrow, 1) := by decide +kernel
theorem dX6_settle_90 : decode cX6_settle 90 = .ok (.aload_n 0, 1) := by decide +kernel
theorem dX6_settle_91 : decode cX6_settle 91 = .ok (.getfield 32, 3) := by decide +kernel
theorem dX6_settle_94 : decode cX6_settle 94 = .ok (.aload_n 0, 1) := by decide +kernel
theorem dX6_settle_95 : decode cX6_settle 95 = .ok (.getfield 16, 3) := by decide +kernel
theorem dX6_settle_98 : decode cX6_settle 98 = .ok (.invokevirtual 266, 3) := by decide +kernel
theorem dX6_settle_101 : decode cX6_settle 101 = .ok (.iload_n 1, 1) := by decide +kernel
theorem dX6_settle_102 : decode cX6_settle 102 = .ok (.ireturn, 1) := by decide +kernel
theorem dX6_needCell_0 : decode cX6_needCell 0 = .ok (.iload_n 0, 1) := by decide +kernel
theorem dX6_needCell_1 : decode cX6_needCell 1 = .ok (.invokestatic 307, 3) := by decide +kernel
theorem dX6_needCell_4 : decode cX6_needCell 4 = .ok (.ifCond .eq 10, 3) := by decide +kernel
theorem dX6_needCell_7 : decode cX6_needCell 7 = .ok (.iload_n 1, 1) := by decide +kernel
theorem dX6_needCell_8 : decode cX6_needCell 8 = .ok (.invokestatic 307, 3) := by decide +kernel
theorem dX6_needCell_11 : decode cX6_needCell 11 = .ok (.ifCond .ne 14, 3) := by decide +kernel
theorem dX6_needCell_14 : decode cX6_needCell 14 = .ok (.new 283, 3) := by decide +kernel
theorem dX6_needCell_17 : decode cX6_needCell 17 = .ok (.dup, 1) := by decide +kernel
theorem dX6_needCell_18 : decode cX6_needCell 18 = .ok (.ldc_w 310, 3) := by decide +kernel
theorem dX6_needCell_21 : decode cX6_needCell 21 = .ok (.invokespecial 287, 3) := by decide +kernel
theorem dX6_needCell_24 : decode cX6_needCell 24 = .ok (.athrow, 1) := by decide +kernel
theorem dX6_needCell_25 : decode cX6_needCell 25 = .ok (.iload_n 0, 1) := by decide +kernel
theorem dX6_needCell_26 : decode cX6_needCell 26 = .ok (.iconst 5, 1) := by decide +kernel
theorem dX6_needCell_27 : decode cX6_needCell 27 = .ok (.imul, 1) := by decide +kernel
theorem dX6_needCell_28 : decode cX6_needCell 28 = .ok (.iload_n 1, 1) := by decide +kernel
theorem dX6_needCell_29 : decode cX6_needCell 29 = .ok (.iadd, 1) := by decide +kernel
theorem dX6_needCell_30 : decode cX6_needCell 30 = .ok (.ireturn, 1) := by decide +kernel
theorem dX6_needLine_0 : decode cX6_needLine 0 = .ok (.iload_n 0, 1) := by decide +kernel
theorem dX6_needLine_1 : decode cX6_needLine 1 = .ok (.invokestatic 307, 3) := by decide +kernel
theorem dX6_needLine_4 : decode cX6_needLine 4 = .ok (.ifCond .ne 14, 3) := by decide +kernel
theorem dX6_needLine_7 : decode cX6_needLine 7 = .ok (.new 283, 3) := by decide +kernel
theorem dX6_needLine_10 : decode cX6_needLine 10 = .ok (.dup, 1) := by decide +kernel
theorem dX6_needLine_11 : decode cX6_needLine 11 = .ok (.ldc_w 312, 3) := by decide +kernel
theorem dX6_needLine_14 : decode cX6_needLine 14 = .ok (.invokespecial 287, 3) := by decide +kernel
theorem dX6_needLine_17 : decode cX6_needLine 17 = .ok (.athrow, 1) := by decide +kernel
theorem dX6_needLine_18 : decode cX6_needLine 18 = .ok (.iload_n 0, 1) := by decide +kernel
theorem dX6_needLine_19 : decode cX6_needLine 19 = .ok (.ireturn, 1) := by decide +kernel
theorem dX6_needWalker_0 : decode cX6_needWalker 0 = .ok (.aload_n 0, 1) := by decide +kernel
theorem dX6_needWalker_1 : decode cX6_needWalker 1 = .ok (.getfield 12, 3) := by decide +kernel
theorem dX6_needWalker_4 : decode cX6_needWalker 4 = .ok (.iload_n 1, 1) := by decide +kernel
theorem dX6_needWalker_5 : decode cX6_needWalker 5 = .ok (.invokevirtual 314, 3) := by decide +kernel
theorem dX6_needWalker_8 : decode cX6_needWalker 8 = .ok (.ifCond .ne 14, 3) := by decide +kernel
theorem dX6_needWalker_11 : decode cX6_needWalker 11 = .ok (.new 283, 3) := by decide +kernel
theorem dX6_needWalker_14 : decode cX6_needWalker 14 = .ok (.dup, 1) := by decide +kernel
theorem dX6_needWalker_15 : decode cX6_needWalker 15 = .ok (.ldc_w 317, 3) := by decide +kernel
theorem dX6_needWalker_18 : decode cX6_needWalker 18 = .ok (.invokespecial 287, 3) := by decide +kernel
theorem dX6_needWalker_21 : decode cX6_needWalker 21 = .ok (.athrow, 1) := by decide +kernel
theorem dX6_needWalker_22 : decode cX6_needWalker 22 = .ok (.iload_n 1, 1) := by decide +kernel
theorem dX6_needWalker_23 : decode cX6_needWalker 23 = .ok (.ireturn, 1) := by decide +kernel
theorem dX6_needKey_0 : decode cX6_needKey 0 = .ok (.iload_n 0, 1) := by decide +kernel
theorem dX6_needKey_1 : decode cX6_needKey 1 = .ok (.invokestatic 319, 3) := by decide +kernel
theorem dX6_needKey_4 : decode cX6_needKey 4 = .ok (.ifCond .ne 14, 3) := by decide +kernel
theorem dX6_needKey_7 : decode cX6_needKey 7 = .ok (.new 145, 3) := by decide +kernel
theorem dX6_needKey_10 : decode cX6_needKey 10 = .ok (.dup, 1) := by decide +kernel
theorem dX6_needKey_11 : decode cX6_needKey 11 = .ok (.ldc_w 322, 3) := by decide +kernel
theorem dX6_needKey_14 : decode cX6_needKey 14 = .ok (.invokespecial 149, 3) := by decide +kernel
theorem dX6_needKey_17 : decode cX6_needKey 17 = .ok (.athrow, 1) := by decide +kernel
theorem dX6_needKey_18 : decode cX6_needKey 18 = .ok (.iload_n 0, 1) := by decide +kernel
theorem dX6_needKey_19 : decode cX6_needKey 19 = .ok (.bipush 97, 2) := by decide +kernel
theorem dX6_needKey_21 : decode cX6_needKey 21 = .ok (.isub, 1) := by decide +kernel
theorem dX6_needKey_22 : decode cX6_needKey 22 = .ok (.ireturn, 1) := by decide +kernel
theorem dX6_needKeyCell_0 : decode cX6_needKeyCell 0 = .ok (.aload_n 0, 1) := by decide +kernel
theorem dX6_needKeyCell_1 : decode cX6_needKeyCell 1 = .ok (.getfield 12, 3) := by decide +kernel
theorem dX6_needKeyCell_4 : decode cX6_needKeyCell 4 = .ok (.getfield 164, 3) := by decide +kernel
theorem dX6_needKeyCell_7 : decode cX6_needKeyCell 7 = .ok (.iload_n 1, 1) := by decide +kernel
theorem dX6_needKeyCell_8 : decode cX6_needKeyCell 8 = .ok (.invokestatic 167, 3) := by decide +kernel
theorem dX6_needKeyCell_11 : decode cX6_needKeyCell 11 = .ok (.iaload, 1) := by decide +kernel
theorem dX6_needKeyCell_12 : decode cX6_needKeyCell 12 = .ok (.istore_n 2, 1) := by decide +kernel
theorem dX6_needKeyCell_13 : decode cX6_needKeyCell 13 = .ok (.iload_n 2, 1) := by decide +kernel
theorem dX6_needKeyCell_14 : decode cX6_needKeyCell 14 = .ok (.invokestatic 206, 3) := by decide +kernel
theorem dX6_needKeyCell_17 : decode cX6_needKeyCell 17 = .ok (.ifCond .ne 14, 3) := by decide +kernel
theorem dX6_needKeyCell_20 : decode cX6_needKeyCell 20 = .ok (.new 131, 3) := by decide +kernel
theorem dX6_needKeyCell_23 : decode cX6_needKeyCell 23 = .ok (.dup, 1) := by decide +kernel
theorem dX6_needKeyCell_24 : decode cX6_needKeyCell 24 = .ok (.ldc_w 324, 3) := by decide +kernel
theorem dX6_needKeyCell_27 : decode cX6_needKeyCell 27 = .ok (.invokespecial 135, 3) := by decide +kernel
theorem dX6_needKeyCell_30 : decode cX6_needKeyCell 30 = .ok (.athrow, 1) := by decide +kernel
theorem dX6_needKeyCell_31 : decode cX6_needKeyCell 31 = .ok (.iload_n 2, 1) := by decide +kernel
theorem dX6_needKeyCell_32 : decode cX6_needKeyCell 32 = .ok (.ireturn, 1) := by decide +kernel
theorem dX6_needPath_0 : decode cX6_needPath 0 = .ok (.iload_n 0, 1) := by decide +kernel
theorem dX6_needPath_1 : decode cX6_needPath 1 = .ok (.bipush 25, 2) := by decide +kernel
theorem dX6_needPath_3 : decode cX6_needPath 3 = .ok (.if_icmp .lt 14, 3) := by decide +kernel
theorem dX6_needPath_6 : decode cX6_needPath 6 = .ok (.new 131, 3) := by decide +kernel
theorem dX6_needPath_9 : decode cX6_needPath 9 = .ok (.dup, 1) := by decide +kernel
theorem dX6_needPath_10 : decode cX6_needPath 10 = .ok (.ldc_w 326, 3) := by decide +kernel
theorem dX6_needPath_13 : decode cX6_needPath 13 = .ok (.invokespecial 135, 3) := by decide +kernel
theorem dX6_needPath_16 : decode cX6_needPath 16 = .ok (.athrow, 1) := by decide +kernel
theorem dX6_needPath_17 : decode cX6_needPath 17 = .ok (.iload_n 0, 1) := by decide +kernel
theorem dX6_needPath_18 : decode cX6_needPath 18 = .ok (.ireturn, 1) := by decide +kernel
theorem dX6_isLine_0 : decode cX6_isLine 0 = .ok (.iload_n 0, 1) := by decide +kernel
theorem dX6_isLine_1 : decode cX6_isLine 1 = .ok (.ifCond .lt 12, 3) := by decide +kernel
theorem dX6_isLine_4 : decode cX6_isLine 4 = .ok (.iload_n 0, 1) := by decide +kernel
theorem dX6_isLine_5 : decode cX6_isLine 5 = .ok (.iconst 5, 1) := by decide +kernel
theorem dX6_isLine_6 : decode cX6_isLine 6 = .ok (.if_icmp .ge 7, 3) := by decide +kernel
theorem dX6_isLine_9 : decode cX6_isLine 9 = .ok (.iconst 1, 1) := by decide +kernel
theorem dX6_isLine_10 : decode cX6_isLine 10 = .ok (.goto 4, 3) := by decide +kernel
theorem dX6_isLine_13 : decode cX6_isLine 13 = .ok (.iconst 0, 1) := by decide +kernel
theorem dX6_isLine_14 : decode cX6_isLine 14 = .ok (.ireturn, 1) := by decide +kernel
theorem dX6_isCell_0 : decode cX6_isCell 0 = .ok (.iload_n 0, 1) := by decide +kernel
theorem dX6_isCell_1 : decode cX6_isCell 1 = .ok (.ifCond .lt 13, 3) := by decide +kernel
theorem dX6_isCell_4 : decode cX6_isCell 4 = .ok (.iload_n 0, 1) := by decide +kernel
theorem dX6_isCell_5 : decode cX6_isCell 5 = .ok (.bipush 25, 2) := by decide +kernel
theorem dX6_isCell_7 : decode cX6_isCell 7 = .ok (.if_icmp .ge 7, 3) := by decide +kernel
theorem dX6_isCell_10 : decode cX6_isCell 10 = .ok (.iconst 1, 1) := by decide +kernel
theorem dX6_isCell_11 : decode cX6_isCell 11 = .ok (.goto 4, 3) := by decide +kernel
theorem dX6_isCell_14 : decode cX6_isCell 14 = .ok (.iconst 0, 1) := by decide +kernel
theorem dX6_isCell_15 : decode cX6_isCell 15 = .ok (.ireturn, 1) := by decide +kernel
theorem dX6_isKey_0 : decode cX6_isKey 0 = .ok (.iload_n 0, 1) := by decide +kernel
theorem dX6_isKey_1 : decode cX6_isKey 1 = .ok (.bipush 97, 2) := by decide +kernel
theorem dX6_isKey_3 : decode cX6_isKey 3 = .ok (.if_icmp .lt 13, 3) := by decide +kernel
theorem dX6_isKey_6 : decode cX6_isKey 6 = .ok (.iload_n 0, 1) := by decide +kernel
theorem dX6_isKey_7 : decode cX6_isKey 7 = .ok (.bipush 103, 2) := by decide +kernel
theorem dX6_isKey_9 : decode cX6_isKey 9 = .ok (.if_icmp .ge 7, 3) := by decide +kernel
theorem dX6_isKey_12 : decode cX6_isKey 12 = .ok (.iconst 1, 1) := by decide +kernel
theorem dX6_isKey_13 : decode cX6_isKey 13 = .ok (.goto 4, 3) := by decide +kernel
theorem dX6_isKey_16 : decode cX6_isKey 16 = .ok (.iconst 0, 1) := by decide +kernel
theorem dX6_isKey_17 : decode cX6_isKey 17 = .ok (.ireturn, 1) := by decide +kernel
theorem dX6_keyName_0 : decode cX6_keyName 0 = .ok (.bipush 97, 2) := by decide +kernel
theorem dX6_keyName_2 : decode cX6_keyName 2 = .ok (.iload_n 0, 1) := by decide +kernel
theorem dX6_keyName_3 : decode cX6_keyName 3 = .ok (.iadd, 1) := by decide +kernel
theorem dX6_keyName_4 : decode cX6_keyName 4 = .ok (.i2c, 1) := by decide +kernel
theorem dX6_keyName_5 : decode cX6_keyName 5 = .ok (.ireturn, 1) := by decide +kernel
theorem dX6_countHelpful_0 : decode cX6_countHelpful 0 = .ok (.aload_n 0, 1) := by decide +kernel
theorem dX6_countHelpful_1 : decode cX6_countHelpful 1 = .ok (.getfield 12, 3) := by decide +kernel
theorem dX6_countHelpful_4 : decode cX6_countHelpful 4 = .ok (.iload_n 3, 1) := by decide +kernel
theorem dX6_countHelpful_5 : decode cX6_countHelpful 5 = .ok (.iload 4, 2) := by decide +kernel
theorem dX6_countHelpful_7 : decode cX6_countHelpful 7 = .ok (.invokevirtual 124, 3) := by decide +kernel
theorem dX6_countHelpful_10 : decode cX6_countHelpful 10 = .ok (.ifCond .ne 5, 3) := by decide +kernel
theorem dX6_countHelpful_13 : decode cX6_countHelpful 13 = .ok (.iconst 0, 1) := by decide +kernel
theorem dX6_countHelpful_14 : decode cX6_countHelpful 14 = .ok (.ireturn, 1) := by decide +kernel
theorem dX6_countHelpful_15 : decode cX6_countHelpful 15 = .ok (.iconst 0, 1) := by decide +kernel
theorem dX6_countHelpful_16 : decode cX6_countHelpful 16 = .ok (.istore 5, 2) := by decide +kernel
theorem dX6_countHelpful_18 : decode cX6_countHelpful 18 = .ok (.iconst (-1), 1) := by decide +kernel
theorem dX6_countHelpful_19 : decode cX6_countHelpful 19 = .ok (.istore 6, 2) := by decide +kernel
theorem dX6_countHelpful_21 : decode cX6_countHelpful 21 = .ok (.iload 6, 2) := by decide +kernel
theorem dX6_countHelpful_23 : decode cX6_countHelpful 23 = .ok (.iconst 1, 1) := by decide +kernel
theorem dX6_countHelpful_24 : decode cX6_countHelpful 24 = .ok (.if_icmp .gt 61, 3) := by decide +kernel
theorem dX6_countHelpful_27 : decode cX6_countHelpful 27 = .ok (.aload_n 0, 1) := by decide +kernel
theorem dX6_countHelpful_28 : decode cX6_countHelpful 28 = .ok (.getfield 19, 3) := by decide +kernel
theorem dX6_countHelpful_31 : decode cX6_countHelpful 31 = .ok (.aload_n 0, 1) := by decide +kernel
theorem dX6_countHelpful_32 : decode cX6_countHelpful 32 = .ok (.getfield 12, 3) := by decide +kernel
theorem dX6_countHelpful_35 : decode cX6_countHelpful 35 = .ok (.invokevirtual 64, 3) := by decide +kernel
theorem dX6_countHelpful_38 : decode cX6_countHelpful 38 = .ok (.aload_n 0, 1) := by decide +kernel
theorem dX6_countHelpful_39 : decode cX6_countHelpful 39 = .ok (.getfield 19, 3) := by decide +kernel
theorem dX6_countHelpful_42 : decode cX6_countHelpful 42 = .ok (.iload_n 3, 1) := by decide +kernel
theorem dX6_countHelpful_43 : decode cX6_countHelpful 43 = .ok (.iload 4, 2) := by decide +kernel
theorem dX6_countHelpful_45 : decode cX6_countHelpful 45 = .ok (.iload 6, 2) := by decide +kernel
theorem dX6_countHelpful_47 : decode cX6_countHelpful 47 = .ok (.invokevirtual 328, 3) := by decide +kernel
theorem dX6_countHelpful_50 : decode cX6_countHelpful 50 = .ok (.aload_n 0, 1) := by decide +kernel
theorem dX6_countHelpful_51 : decode cX6_countHelpful 51 = .ok (.getfield 39, 3) := by decide +kernel
theorem dX6_countHelpful_54 : decode cX6_countHelpful 54 = .ok (.aload_n 0, 1) := by decide +kernel
theorem dX6_countHelpful_55 : decode cX6_countHelpful 55 = .ok (.getfield 19, 3) := by decide +kernel
theorem dX6_countHelpful_58 : decode cX6_countHelpful 58 = .ok (.iload_n 1, 1) := by decide +kernel
theorem dX6_countHelpful_59 : decode cX6_countHelpful 59 = .ok (.invokevirtual 181, 3) := by decide +kernel
theorem dX6_countHelpful_62 : decode cX6_countHelpful 62 = .ok (.aload_n 0, 1) := by decide +kernel
theorem dX6_countHelpful_63 : decode cX6_countHelpful 63 = .ok (.getfield 39, 3) := by decide +kernel
theorem dX6_countHelpful_66 : decode cX6_countHelpful 66 = .ok (.getfield 185, 3) := by decide +kernel
theorem dX6_countHelpful_69 : decode cX6_countHelpful 69 = .ok (.iload_n 2, 1) := by decide +kernel
theorem dX6_countHelpful_70 : decode cX6_countHelpful 70 = .ok (.iaload, 1) := by decide +kernel
theorem dX6_countHelpful_71 : decode cX6_countHelpful 71 = .ok (.bipush 25, 2) := by decide +kernel
theorem dX6_countHelpful_73 : decode cX6_countHelpful 73 = .ok (.if_icmp .ge 6, 3) := by decide +kernel
theorem dX6_countHelpful_76 : decode cX6_countHelpful 76 = .ok (.iinc 5 1, 3) := by decide +kernel
theorem dX6_countHelpful_79 : decode cX6_countHelpful 79 = .ok (.iinc 6 2, 3) := by decide +kernel
theorem dX6_countHelpful_82 : decode cX6_countHelpful 82 = .ok (.goto (-61), 3) := by decide +kernel
theorem dX6_countHelpful_85 : decode cX6_countHelpful 85 = .ok (.iload 5, 2) := by decide +kernel
theorem dX6_countHelpful_87 : decode cX6_countHelpful 87 = .ok (.ireturn, 1) := by decide +kernel
theorem dX6_findFailure_0 : decode cX6_findFailure 0 = .ok (.iconst 0, 1) := by decide +kernel
theorem dX6_findFailure_1 : decode cX6_findFailure 1 = .ok (.istore_n 1, 1) := by decide +kernel
theorem dX6_findFailure_2 : decode cX6_findFailure 2 = .ok (.iconst 0, 1) := by decide +kernel
theorem dX6_findFailure_3 : decode cX6_findFailure 3 = .ok (.istore_n 2, 1) := by decide +kernel
theorem dX6_findFailure_4 : decode cX6_findFailure 4 = .ok (.iload_n 2, 1) := by decide +kernel
theorem dX6_findFailure_5 : decode cX6_findFailure 5 = .ok (.aload_n 0, 1) := by decide +kernel
theorem dX6_findFailure_6 : decode cX6_findFailure 6 = .ok (.getfield 46, 3) := by decide +kernel
theorem dX6_findFailure_9 : decode cX6_findFailure 9 = .ok (.getfield 268, 3) := by decide +kernel
theorem dX6_findFailure_12 : decode cX6_findFailure 12 = .ok (.if_icmp .ge 49, 3) := by decide +kernel
theorem dX6_findFailure_15 : decode cX6_findFailure 15 = .ok (.aload_n 0, 1) := by decide +kernel
theorem dX6_findFailure_16 : decode cX6_findFailure 16 = .ok (.getfield 46, 3) := by decide +kernel
theorem dX6_findFailure_19 : decode cX6_findFailure 19 = .ok (.iload_n 1, 1) := by decide +kernel
theorem dX6_findFailure_20 : decode cX6_findFailure 20 = .ok (.invokevirtual 332, 3) := by decide +kernel
theorem dX6_findFailure_23 : decode cX6_findFailure 23 = .ok (.istore_n 3, 1) := by decide +kernel
theorem dX6_findFailure_24 : decode cX6_findFailure 24 = .ok (.iload_n 3, 1) := by decide +kernel
theorem dX6_findFailure_25 : decode cX6_findFailure 25 = .ok (.ifCond .lt 24, 3) := by decide +kernel
theorem dX6_findFailure_28 : decode cX6_findFailure 28 = .ok (.aload_n 0, 1) := by decide +kernel
theorem dX6_findFailure_29 : decode cX6_findFailure 29 = .ok (.aload_n 0, 1) := by decide +kernel
theorem dX6_findFailure_30 : decode cX6_findFailure 30 = .ok (.getfield 46, 3) := by decide +kernel
theorem dX6_findFailure_33 : decode cX6_findFailure 33 = .ok (.getfield 335, 3) := by decide +kernel
theorem dX6_findFailure_36 : decode cX6_findFailure 36 = .ok (.aload_n 0, 1) := by decide +kernel
theorem dX6_findFailure_37 : decode cX6_findFailure 37 = .ok (.getfield 46, 3) := by decide +kernel
theorem dX6_findFailure_40 : decode cX6_findFailure 40 = .ok (.getfield 339, 3) := by decide +kernel
theorem dX6_findFailure_43 : decode cX6_findFailure 43 = .ok (.invokevirtual 342, 3) := by decide +kernel
theorem dX6_findFailure_46 : decode cX6_findFailure 46 = .ok (.ifCond .ge 5, 3) := by decide +kernel
theorem dX6_findFailure_49 : decode cX6_findFailure 49 = .ok (.iload_n 2, 1) := by decide +kernel
theorem dX6_findFailure_50 : decode cX6_findFailure 50 = .ok (.ireturn, 1) := by decide +kernel
theorem dX6_findFailure_51 : decode cX6_findFailure 51 = .ok (.iload_n 3, 1) := by decide +kernel
theorem dX6_findFailure_52 : decode cX6_findFailure 52 = .ok (.iconst 1, 1) := by decide +kernel
theorem dX6_findFailure_53 : decode cX6_findFailure 53 = .ok (.iadd, 1) := by decide +kernel
theorem dX6_findFailure_54 : decode cX6_findFailure 54 = .ok (.istore_n 1, 1) := by decide +kernel
theorem dX6_findFailure_55 : decode cX6_findFailure 55 = .ok (.iinc 2 1, 3) := by decide +kernel
theorem dX6_findFailure_58 : decode cX6_findFailure 58 = .ok (.goto (-54), 3) := by decide +kernel
theorem dX6_findFailure_61 : decode cX6_findFailure 61 = .ok (.iconst (-1), 1) := by decide +kernel
theorem dX6_findFailure_62 : decode cX6_findFailure 62 = .ok (.ireturn, 1) := by decide +kernel
theorem dX6_carryOut_0 : decode cX6_carryOut 0 = .ok (.aload_n 2, 1) := by decide +kernel
theorem dX6_carryOut_1 : decode cX6_carryOut 1 = .ok (.iconst 0, 1) := by decide +kernel
theorem dX6_carryOut_2 : decode cX6_carryOut 2 = .ok (.iaload, 1) := by decide +kernel
theorem dX6_carryOut_3 : decode cX6_carryOut 3 = .ok (.istore_n 3, 1) := by decide +kernel
theorem dX6_carryOut_4 : decode cX6_carryOut 4 = .ok (.aload_n 2, 1) := by decide +kernel
theorem dX6_carryOut_5 : decode cX6_carryOut 5 = .ok (.iconst 1, 1) := by decide +kernel
theorem dX6_carryOut_6 : decode cX6_carryOut 6 = .ok (.iaload, 1) := by decide +kernel
theorem dX6_carryOut_7 : decode cX6_carryOut 7 = .ok (.istore 4, 2) := by decide +kernel
theorem dX6_carryOut_9 : decode cX6_carryOut 9 = .ok (.aload_n 2, 1) := by decide +kernel
theorem dX6_carryOut_10 : decode cX6_carryOut 10 = .ok (.iconst 2, 1) := by decide +kernel
theorem dX6_carryOut_11 : decode cX6_carryOut 11 = .ok (.iaload, 1) := by decide +kernel
theorem dX6_carryOut_12 : decode cX6_carryOut 12 = .ok (.istore 5, 2) := by decide +kernel
theorem dX6_carryOut_14 : decode cX6_carryOut 14 = .ok (.getstatic 346, 3) := by decide +kernel
theorem dX6_carryOut_17 : decode cX6_carryOut 17 = .ok (.aload_n 1, 1) := by decide +kernel
theorem dX6_carryOut_18 : decode cX6_carryOut 18 = .ok (.invokevirtual 351, 3) := by decide +kernel
theorem dX6_carryOut_21 : decode cX6_carryOut 21 = .ok (.iaload, 1) := by decide +kernel
theorem dX6_carryOut_22 : decode cX6_carryOut 22 = .ok (.tableswitch 180 1 10 #[54, 67, 80, 91, 102, 116, 130, 144, 158, 169], 54) := by decide +kernel
theorem dX6_carryOut_76 : decode cX6_carryOut 76 = .ok (.aload_n 0, 1) := by decide +kernel
theorem dX6_carryOut_77 : decode cX6_carryOut 77 = .ok (.getfield 12, 3) := by decide +kernel
theorem dX6_carryOut_80 : decode cX6_carryOut 80 = .ok (.iload_n 3, 1) := by decide +kernel
theorem dX6_carryOut_81 : decode cX6_carryOut 81 = .ok (.iload 4, 2) := by decide +kernel
theorem dX6_carryOut_83 : decode cX6_carryOut 83 = .ok (.iload 5, 2) := by decide +kernel
theorem dX6_carryOut_85 : decode cX6_carryOut 85 = .ok (.invokevirtual 68, 3) := by decide +kernel
theorem dX6_carryOut_88 : decode cX6_carryOut 88 = .ok (.ireturn, 1) := by decide +kernel
theorem dX6_carryOut_89 : decode cX6_carryOut 89 = .ok (.aload_n 0, 1) := by decide +kernel
theorem dX6_carryOut_90 : decode cX6_carryOut 90 = .ok (.getfield 12, 3) := by decide +kernel
theorem dX6_carryOut_93 : decode cX6_carryOut 93 = .ok (.iload_n 3, 1) := by decide +kernel
theorem dX6_carryOut_94 : decode cX6_carryOut 94 = .ok (.iload 4, 2) := by decide +kernel
theorem dX6_carryOut_96 : decode cX6_carryOut 96 = .ok (.iload 5, 2) := by decide +kernel
theorem dX6_carryOut_98 : decode cX6_carryOut 98 = .ok (.invokevirtual 76, 3) := by decide +kernel
theorem dX6_carryOut_101 : decode cX6_carryOut 101 = .ok (.ireturn, 1) := by decide +kernel
theorem dX6_carryOut_102 : decode cX6_carryOut 102 = .ok (.aload_n 0, 1) := by decide +kernel
theorem dX6_carryOut_103 : decode cX6_carryOut 103 = .ok (.getfield 12, 3) := by decide +kernel
theorem dX6_carryOut_106 : decode cX6_carryOut 106 = .ok (.iload_n 3, 1) := by decide +kernel
theorem dX6_carryOut_107 : decode cX6_carryOut 107 = .ok (.iload 4, 2) := by decide +kernel
theorem dX6_carryOut_109 : decode cX6_carryOut 109 = .ok (.invokevirtual 79, 3) := by decide +kernel
theorem dX6_carryOut_112 : decode cX6_carryOut 112 = .ok (.ireturn, 1) := by decide +kernel
theorem dX6_carryOut_113 : decode cX6_carryOut 113 = .ok (.aload_n 0, 1) := by decide +kernel
theorem dX6_carryOut_114 : decode cX6_carryOut 114 = .ok (.getfield 12, 3) := by decide +kernel
theorem dX6_carryOut_117 : decode cX6_carryOut 117 = .ok (.iload_n 3, 1) := by decide +kernel
theorem dX6_carryOut_118 : decode cX6_carryOut 118 = .ok (.iload 4, 2) := by decide +kernel
theorem dX6_carryOut_120 : decode cX6_carryOut 120 = .ok (.invokevirtual 83, 3) := by decide +kernel
theorem dX6_carryOut_123 : decode cX6_carryOut 123 = .ok (.ireturn, 1) := by decide +kernel
theorem dX6_carryOut_124 : decode cX6_carryOut 124 = .ok (.aload_n 0, 1) := by decide +kernel
theorem dX6_carryOut_125 : decode cX6_carryOut 125 = .ok (.getfield 12, 3) := by decide +kernel
theorem dX6_carryOut_128 : decode cX6_carryOut 128 = .ok (.iload_n 3, 1) := by decide +kernel
theorem dX6_carryOut_129 : decode cX6_carryOut 129 = .ok (.iload 4, 2) := by decide +kernel
theorem dX6_carryOut_131 : decode cX6_carryOut 131 = .ok (.iload 5, 2) := by decide +kernel
theorem dX6_carryOut_133 : decode cX6_carryOut 133 = .ok (.imul, 1) := by decide +kernel
theorem dX6_carryOut_134 : decode cX6_carryOut 134 = .ok (.invokevirtual 86, 3) := by decide +kernel
theorem dX6_carryOut_137 : decode cX6_carryOut 137 = .ok (.ireturn, 1) := by decide +kernel
theorem dX6_carryOut_138 : decode cX6_carryOut 138 = .ok (.aload_n 0, 1) := by decide +kernel
theorem dX6_carryOut_139 : decode cX6_carryOut 139 = .ok (.getfield 12, 3) := by decide +kernel
theorem dX6_carryOut_142 : decode cX6_carryOut 142 = .ok (.iload_n 3, 1) := by decide +kernel
theorem dX6_carryOut_143 : decode cX6_carryOut 143 = .ok (.iload 4, 2) := by decide +kernel
theorem dX6_carryOut_145 : decode cX6_carryOut 145 = .ok (.iload 5, 2) := by decide +kernel
theorem dX6_carryOut_147 : decode cX6_carryOut 147 = .ok (.imul, 1) := by decide +kernel
theorem dX6_carryOut_148 : decode cX6_carryOut 148 = .ok (.invokevirtual 89, 3) := by decide +kernel
theorem dX6_carryOut_151 : decode cX6_carryOut 151 = .ok (.ireturn, 1) := by decide +kernel
theorem dX6_carryOut_152 : decode cX6_carryOut 152 = .ok (.aload_n 0, 1) := by decide +kernel
theorem dX6_carryOut_153 : decode cX6_carryOut 153 = .ok (.getfield 12, 3) := by decide +kernel
theorem dX6_carryOut_156 : decode cX6_carryOut 156 = .ok (.iload_n 3, 1) := by decide +kernel
theorem dX6_carryOut_157 : decode cX6_carryOut 157 = .ok (.i2c, 1) := by decide +kernel
theorem dX6_carryOut_158 : decode cX6_carryOut 158 = .ok (.iload 4, 2) := by decide +kernel
theorem dX6_carryOut_160 : decode cX6_carryOut 160 = .ok (.iload 5, 2) := by decide +kernel
theorem dX6_carryOut_162 : decode cX6_carryOut 162 = .ok (.invokevirtual 92, 3) := by decide +kernel
theorem dX6_carryOut_165 : decode cX6_carryOut 165 = .ok (.ireturn, 1) := by decide +kernel
theorem dX6_carryOut_166 : decode cX6_carryOut 166 = .ok (.aload_n 0, 1) := by decide +kernel
theorem dX6_carryOut_167 : decode cX6_carryOut 167 = .ok (.getfield 12, 3) := by decide +kernel
theorem dX6_carryOut_170 : decode cX6_carryOut 170 = .ok (.iload_n 3, 1) := by decide +kernel
theorem dX6_carryOut_171 : decode cX6_carryOut 171 = .ok (.iload 4, 2) := by decide +kernel
theorem dX6_carryOut_173 : decode cX6_carryOut 173 = .ok (.iload 5, 2) := by decide +kernel
theorem dX6_carryOut_175 : decode cX6_carryOut 175 = .ok (.i2c, 1) := by decide +kernel
theorem dX6_carryOut_176 : decode cX6_carryOut 176 = .ok (.invokevirtual 96, 3) := by decide +kernel
theorem dX6_carryOut_179 : decode cX6_carryOut 179 = .ok (.ireturn, 1) := by decide +kernel
theorem dX6_carryOut_180 : decode cX6_carryOut 180 = .ok (.aload_n 0, 1) := by decide +kernel
theorem dX6_carryOut_181 : decode cX6_carryOut 181 = .ok (.getfield 12, 3) := by decide +kernel
theorem dX6_carryOut_184 : decode cX6_carryOut 184 = .ok (.iload_n 3, 1) := by decide +kernel
theorem dX6_carryOut_185 : decode cX6_carryOut 185 = .ok (.iload 4, 2) := by decide +kernel
theorem dX6_carryOut_187 : decode cX6_carryOut 187 = .ok (.invokevirtual 100, 3) := by decide +kernel
theorem dX6_carryOut_190 : decode cX6_carryOut 190 = .ok (.ireturn, 1) := by decide +kernel
theorem dX6_carryOut_191 : decode cX6_carryOut 191 = .ok (.aload_n 0, 1) := by decide +kernel
theorem dX6_carryOut_192 : decode cX6_carryOut 192 = .ok (.getfield 12, 3) := by decide +kernel
theorem dX6_carryOut_195 : decode cX6_carryOut 195 = .ok (.iload_n 3, 1) := by decide +kernel
theorem dX6_carryOut_196 : decode cX6_carryOut 196 = .ok (.iload 4, 2) := by decide +kernel
theorem dX6_carryOut_198 : decode cX6_carryOut 198 = .ok (.invokevirtual 103, 3) := by decide +kernel
theorem dX6_carryOut_201 : decode cX6_carryOut 201 = .ok (.ireturn, 1) := by decide +kernel
theorem dX6_carryOut_202 : decode cX6_carryOut 202 = .ok (.aload_n 0, 1) := by decide +kernel
theorem dX6_carryOut_203 : decode cX6_carryOut 203 = .ok (.getfield 12, 3) := by decide +kernel
theorem dX6_carryOut_206 : decode cX6_carryOut 206 = .ok (.aload_n 0, 1) := by decide +kernel
theorem dX6_carryOut_207 : decode cX6_carryOut 207 = .ok (.getfield 39, 3) := by decide +kernel
theorem dX6_carryOut_210 : decode cX6_carryOut 210 = .ok (.iload_n 3, 1) := by decide +kernel
theorem dX6_carryOut_211 : decode cX6_carryOut 211 = .ok (.iload 4, 2) := by decide +kernel
theorem dX6_carryOut_213 : decode cX6_carryOut 213 = .ok (.iload 5, 2) := by decide +kernel
theorem dX6_carryOut_215 : decode cX6_carryOut 215 = .ok (.invokevirtual 106, 3) := by decide +kernel
theorem dX6_carryOut_218 : decode cX6_carryOut 218 = .ok (.ireturn, 1) := by decide +kernel
theorem dX6_writeTile_0 : decode cX6_writeTile 0 = .ok (.aload_n 0, 1) := by decide +kernel
theorem dX6_writeTile_1 : decode cX6_writeTile 1 = .ok (.getfield 12, 3) := by decide +kernel
theorem dX6_writeTile_4 : decode cX6_writeTile 4 = .ok (.getfield 110, 3) := by decide +kernel
theorem dX6_writeTile_7 : decode cX6_writeTile 7 = .ok (.iload_n 1, 1) := by decide +kernel
theorem dX6_writeTile_8 : decode cX6_writeTile 8 = .ok (.iaload, 1) := by decide +kernel
theorem dX6_writeTile_9 : decode cX6_writeTile 9 = .ok (.istore_n 2, 1) := by decide +kernel
theorem dX6_writeTile_10 : decode cX6_writeTile 10 = .ok (.aload_n 0, 1) := by decide +kernel
theorem dX6_writeTile_11 : decode cX6_writeTile 11 = .ok (.iload_n 2, 1) := by decide +kernel
theorem dX6_writeTile_12 : decode cX6_writeTile 12 = .ok (.bipush 10, 2) := by decide +kernel
theorem dX6_writeTile_14 : decode cX6_writeTile 14 = .ok (.if_icmp .ge 10, 3) := by decide +kernel
theorem dX6_writeTile_17 : decode cX6_writeTile 17 = .ok (.bipush 48, 2) := by decide +kernel
theorem dX6_writeTile_19 : decode cX6_writeTile 19 = .ok (.iload_n 2, 1) := by decide +kernel
theorem dX6_writeTile_20 : decode cX6_writeTile 20 = .ok (.iadd, 1) := by decide +kernel
theorem dX6_writeTile_21 : decode cX6_writeTile 21 = .ok (.goto 10, 3) := by decide +kernel
theorem dX6_writeTile_24 : decode cX6_writeTile 24 = .ok (.bipush 65, 2) := by decide +kernel
theorem dX6_writeTile_26 : decode cX6_writeTile 26 = .ok (.iload_n 2, 1) := by decide +kernel
theorem dX6_writeTile_27 : decode cX6_writeTile 27 = .ok (.iadd, 1) := by decide +kernel
theorem dX6_writeTile_28 : decode cX6_writeTile 28 = .ok (.bipush 10, 2) := by decide +kernel
theorem dX6_writeTile_30 : decode cX6_writeTile 30 = .ok (.isub, 1) := by decide +kernel
theorem dX6_writeTile_31 : decode cX6_writeTile 31 = .ok (.i2c, 1) := by decide +kernel
theorem dX6_writeTile_32 : decode cX6_writeTile 32 = .ok (.invokevirtual 275, 3) := by decide +kernel
theorem dX6_writeTile_35 : decode cX6_writeTile 35 = .ok (.aload_n 0, 1) := by decide +kernel
theorem dX6_writeTile_36 : decode cX6_writeTile 36 = .ok (.getfield 12, 3) := by decide +kernel
theorem dX6_writeTile_39 : decode cX6_writeTile 39 = .ok (.iload_n 1, 1) := by decide +kernel
theorem dX6_writeTile_40 : decode cX6_writeTile 40 = .ok (.invokevirtual 117, 3) := by decide +kernel
theorem dX6_writeTile_43 : decode cX6_writeTile 43 = .ok (.ifCond .eq 9, 3) := by decide +kernel
theorem dX6_writeTile_46 : decode cX6_writeTile 46 = .ok (.aload_n 0, 1) := by decide +kernel
theorem dX6_writeTile_47 : decode cX6_writeTile 47 = .ok (.bipush 42, 2) := by decide +kernel
theorem dX6_writeTile_49 : decode cX6_writeTile 49 = .ok (.invokevirtual 275, 3) := by decide +kernel
theorem dX6_writeTile_52 : decode cX6_writeTile 52 = .ok (.aload_n 0, 1) := by decide +kernel
theorem dX6_writeTile_53 : decode cX6_writeTile 53 = .ok (.getfield 12, 3) := by decide +kernel
theorem dX6_writeTile_56 : decode cX6_writeTile 56 = .ok (.getfield 128, 3) := by decide +kernel
theorem dX6_writeTile_59 : decode cX6_writeTile 59 = .ok (.iload_n 1, 1) := by decide +kernel
theorem dX6_writeTile_60 : decode cX6_writeTile 60 = .ok (.iaload, 1) := by decide +kernel
theorem dX6_writeTile_61 : decode cX6_writeTile 61 = .ok (.iconst (-1), 1) := by decide +kernel
theorem dX6_writeTile_62 : decode cX6_writeTile 62 = .ok (.if_icmp .eq 25, 3) := by decide +kernel
theorem dX6_writeTile_65 : decode cX6_writeTile 65 = .ok (.aload_n 0, 1) := by decide +kernel
theorem dX6_writeTile_66 : decode cX6_writeTile 66 = .ok (.bipush 35, 2) := by decide +kernel
theorem dX6_writeTile_68 : decode cX6_writeTile 68 = .ok (.invokevirtual 275, 3) := by decide +kernel
theorem dX6_writeTile_71 : decode cX6_writeTile 71 = .ok (.aload_n 0, 1) := by decide +kernel
theorem dX6_writeTile_72 : decode cX6_writeTile 72 = .ok (.aload_n 0, 1) := by decide +kernel
theorem dX6_writeTile_73 : decode cX6_writeTile 73 = .ok (.getfield 12, 3) := by decide +kernel
theorem dX6_writeTile_76 : decode cX6_writeTile 76 = .ok (.getfield 128, 3) := by decide +kernel
theorem dX6_writeTile_79 : decode cX6_writeTile 79 = .ok (.iload_n 1, 1) := by decide +kernel
theorem dX6_writeTile_80 : decode cX6_writeTile 80 = .ok (.iaload, 1) := by decide +kernel
theorem dX6_writeTile_81 : decode cX6_writeTile 81 = .ok (.invokestatic 138, 3) := by decide +kernel
theorem dX6_writeTile_84 : decode cX6_writeTile 84 = .ok (.invokevirtual 275, 3) := by decide +kernel
theorem dX6_writeTile_87 : decode cX6_writeTile 87 = .ok (.aload_n 0, 1) := by decide +kernel
theorem dX6_writeTile_88 : decode cX6_writeTile 88 = .ok (.getfield 12, 3) := by decide +kernel
theorem dX6_writeTile_91 : decode cX6_writeTile 91 = .ok (.iload_n 1, 1) := by decide +kernel
theorem dX6_writeTile_92 : decode cX6_writeTile 92 = .ok (.invokevirtual 356, 3) := by decide +kernel
theorem dX6_writeTile_95 : decode cX6_writeTile 95 = .ok (.ifCond .le 9, 3) := by decide +kernel
theorem dX6_writeTile_98 : decode cX6_writeTile 98 = .ok (.aload_n 0, 1) := by decide +kernel
theorem dX6_writeTile_99 : decode cX6_writeTile 99 = .ok (.bipush 64, 2) := by decide +kernel
theorem dX6_writeTile_101 : decode cX6_writeTile 101 = .ok (.invokevirtual 275, 3) := by decide +kernel
theorem dX6_writeTile_104 : decode cX6_writeTile 104 = .ok (.iconst 0, 1) := by decide +kernel
theorem dX6_writeTile_105 : decode cX6_writeTile 105 = .ok (.istore_n 3, 1) := by decide +kernel
theorem dX6_writeTile_106 : decode cX6_writeTile 106 = .ok (.iload_n 3, 1) := by decide +kernel
theorem dX6_writeTile_107 : decode cX6_writeTile 107 = .ok (.bipush 6, 2) := by decide +kernel
theorem dX6_writeTile_109 : decode cX6_writeTile 109 = .ok (.if_icmp .ge 30, 3) := by decide +kernel
theorem dX6_writeTile_112 : decode cX6_writeTile 112 = .ok (.aload_n 0, 1) := by decide +kernel
theorem dX6_writeTile_113 : decode cX6_writeTile 113 = .ok (.getfield 12, 3) := by decide +kernel
theorem dX6_writeTile_116 : decode cX6_writeTile 116 = .ok (.getfield 164, 3) := by decide +kernel
theorem dX6_writeTile_119 : decode cX6_writeTile 119 = .ok (.iload_n 3, 1) := by decide +kernel
theorem dX6_writeTile_120 : decode cX6_writeTile 120 = .ok (.iaload, 1) := by decide +kernel
theorem dX6_writeTile_121 : decode cX6_writeTile 121 = .ok (.iload_n 1, 1) := by decide +kernel
theorem dX6_writeTile_122 : decode cX6_writeTile 122 = .ok (.if_icmp .ne 11, 3) := by decide +kernel
theorem dX6_writeTile_125 : decode cX6_writeTile 125 = .ok (.aload_n 0, 1) := by decide +kernel
theorem dX6_writeTile_126 : decode cX6_writeTile 126 = .ok (.iload_n 3, 1) := by decide +kernel
theorem dX6_writeTile_127 : decode cX6_writeTile 127 = .ok (.invokestatic 138, 3) := by decide +kernel
theorem dX6_writeTile_130 : decode cX6_writeTile 130 = .ok (.invokevirtual 275, 3) := by decide +kernel
theorem dX6_writeTile_133 : decode cX6_writeTile 133 = .ok (.iinc 3 1, 3) := by decide +kernel
theorem dX6_writeTile_136 : decode cX6_writeTile 136 = .ok (.goto (-30), 3) := by decide +kernel
theorem dX6_writeTile_139 : decode cX6_writeTile 139 = .ok (.return_, 1) := by decide +kernel
theorem dX6_write_0 : decode cX6_write 0 = .ok (.aload_n 0, 1) := by decide +kernel
theorem dX6_write_1 : decode cX6_write 1 = .ok (.getfield 61, 3) := by decide +kernel
theorem dX6_write_4 : decode cX6_write 4 = .ok (.bipush 35, 2) := by decide +kernel
theorem dX6_write_6 : decode cX6_write 6 = .ok (.if_icmp .ge 23, 3) := by decide +kernel
theorem dX6_write_9 : decode cX6_write 9 = .ok (.aload_n 0, 1) := by decide +kernel
theorem dX6_write_10 : decode cX6_write 10 = .ok (.getfield 57, 3) := by decide +kernel
theorem dX6_write_13 : decode cX6_write 13 = .ok (.aload_n 0, 1) := by decide +kernel
theorem dX6_write_14 : decode cX6_write 14 = .ok (.getfield 61, 3) := by decide +kernel
theorem dX6_write_17 : decode cX6_write 17 = .ok (.iload_n 1, 1) := by decide +kernel
theorem dX6_write_18 : decode cX6_write 18 = .ok (.castore, 1) := by decide +kernel
theorem dX6_write_19 : decode cX6_write 19 = .ok (.aload_n 0, 1) := by decide +kernel
theorem dX6_write_20 : decode cX6_write 20 = .ok (.dup, 1) := by decide +kernel
theorem dX6_write_21 : decode cX6_write 21 = .ok (.getfield 61, 3) := by decide +kernel
theorem dX6_write_24 : decode cX6_write 24 = .ok (.iconst 1, 1) := by decide +kernel
theorem dX6_write_25 : decode cX6_write 25 = .ok (.iadd, 1) := by decide +kernel
theorem dX6_write_26 : decode cX6_write 26 = .ok (.putfield 61, 3) := by decide +kernel
theorem dX6_write_29 : decode cX6_write 29 = .ok (.return_, 1) := by decide +kernel
theorem dJ5_init_d00df_0 : decode cJ5_init_d00df 0 = .ok (.aload_n 0, 1) := by decide +kernel
theorem dJ5_init_d00df_1 : decode cJ5_init_d00df 1 = .ok (.invokespecial 3, 3) := by decide +kernel
theorem dJ5_init_d00df_4 : decode cJ5_init_d00df 4 = .ok (.getstatic 18, 3) := by decide +kernel
theorem dJ5_init_d00df_7 : decode cJ5_init_d00df 7 = .ok (.ifCond .eq 18, 3) := by decide +kernel
theorem dJ5_init_d00df_10 : decode cJ5_init_d00df 10 = .ok (.aload_n 0, 1) := by decide +kernel
theorem dJ5_init_d00df_11 : decode cJ5_init_d00df 11 = .ok (.iload_n 1, 1) := by decide +kernel
theorem dJ5_init_d00df_12 : decode cJ5_init_d00df 12 = .ok (.newarray .byte, 2) := by decide +kernel
theorem dJ5_init_d00df_14 : decode cJ5_init_d00df 14 = .ok (.putfield 15, 3) := by decide +kernel
theorem dJ5_init_d00df_17 : decode cJ5_init_d00df 17 = .ok (.aload_n 0, 1) := by decide +kernel
theorem dJ5_init_d00df_18 : decode cJ5_init_d00df 18 = .ok (.iconst 0, 1) := by decide +kernel
theorem dJ5_init_d00df_19 : decode cJ5_init_d00df 19 = .ok (.putfield 22, 3) := by decide +kernel
theorem dJ5_init_d00df_22 : decode cJ5_init_d00df 22 = .ok (.goto 16, 3) := by decide +kernel
theorem dJ5_init_d00df_25 : decode cJ5_init_d00df 25 = .ok (.aload_n 0, 1) := by decide +kernel
theorem dJ5_init_d00df_26 : decode cJ5_init_d00df 26 = .ok (.iload_n 1, 1) := by decide +kernel
theorem dJ5_init_d00df_27 : decode cJ5_init_d00df 27 = .ok (.invokestatic 26, 3) := by decide +kernel
theorem dJ5_init_d00df_30 : decode cJ5_init_d00df 30 = .ok (.putfield 15, 3) := by decide +kernel
theorem dJ5_init_d00df_33 : decode cJ5_init_d00df 33 = .ok (.aload_n 0, 1) := by decide +kernel
theorem dJ5_init_d00df_34 : decode cJ5_init_d00df 34 = .ok (.iconst 1, 1) := by decide +kernel
theorem dJ5_init_d00df_35 : decode cJ5_init_d00df 35 = .ok (.putfield 22, 3) := by decide +kernel
theorem dJ5_init_d00df_38 : decode cJ5_init_d00df 38 = .ok (.return_, 1) := by decide +kernel
theorem dJ5_length_8abf5_0 : decode cJ5_length_8abf5 0 = .ok (.aload_n 0, 1) := by decide +kernel
theorem dJ5_length_8abf5_1 : decode cJ5_length_8abf5 1 = .ok (.getfield 79, 3) := by decide +kernel
theorem dJ5_length_8abf5_4 : decode cJ5_length_8abf5 4 = .ok (.ireturn, 1) := by decide +kernel
theorem dJ5_ensureCapacityInternal_d00df_0 : decode cJ5_ensureCapacityInternal_d00df 0 = .ok (.aload_n 0, 1) := by decide +kernel
theorem dJ5_ensureCapacityInternal_d00df_1 : decode cJ5_ensureCapacityInternal_d00df 1 = .ok (.getfield 15, 3) := by decide +kernel
theorem dJ5_ensureCapacityInternal_d00df_4 : decode cJ5_ensureCapacityInternal_d00df 4 = .ok (.arraylength, 1) := by decide +kernel
theorem dJ5_ensureCapacityInternal_d00df_5 : decode cJ5_ensureCapacityInternal_d00df 5 = .ok (.aload_n 0, 1) := by decide +kernel
theorem dJ5_ensureCapacityInternal_d00df_6 : decode cJ5_ensureCapacityInternal_d00df 6 = .ok (.getfield 22, 3) := by decide +kernel
theorem dJ5_ensureCapacityInternal_d00df_9 : decode cJ5_ensureCapacityInternal_d00df 9 = .ok (.ishr, 1) := by decide +kernel
theorem dJ5_ensureCapacityInternal_d00df_10 : decode cJ5_ensureCapacityInternal_d00df 10 = .ok (.istore_n 2, 1) := by decide +kernel
theorem dJ5_ensureCapacityInternal_d00df_11 : decode cJ5_ensureCapacityInternal_d00df 11 = .ok (.iload_n 1, 1) := by decide +kernel
theorem dJ5_ensureCapacityInternal_d00df_12 : decode cJ5_ensureCapacityInternal_d00df 12 = .ok (.iload_n 2, 1) := by decide +kernel
theorem dJ5_ensureCapacityInternal_d00df_13 : decode cJ5_ensureCapacityInternal_d00df 13 = .ok (.isub, 1) := by decide +kernel
theorem dJ5_ensureCapacityInternal_d00df_14 : decode cJ5_ensureCapacityInternal_d00df 14 = .ok (.ifCond .le 24, 3) := by decide +kernel
theorem dJ5_ensureCapacityInternal_d00df_17 : decode cJ5_ensureCapacityInternal_d00df 17 = .ok (.aload_n 0, 1) := by decide +kernel
theorem dJ5_ensureCapacityInternal_d00df_18 : decode cJ5_ensureCapacityInternal_d00df 18 = .ok (.aload_n 0, 1) := by decide +kernel
theorem dJ5_ensureCapacityInternal_d00df_19 : decode cJ5_ensureCapacityInternal_d00df 19 = .ok (.getfield 15, 3) := by decide +kernel
theorem dJ5_ensureCapacityInternal_d00df_22 : decode cJ5_ensureCapacityInternal_d00df 22 = .ok (.aload_n 0, 1) := by decide +kernel
theorem dJ5_ensureCapacityInternal_d00df_23 : decode cJ5_ensureCapacityInternal_d00df 23 = .ok (.iload_n 1, 1) := by decide +kernel
theorem dJ5_ensureCapacityInternal_d00df_24 : decode cJ5_ensureCapacityInternal_d00df 24 = .ok (.invokevirtual 104, 3) := by decide +kernel
theorem dJ5_ensureCapacityInternal_d00df_27 : decode cJ5_ensureCapacityInternal_d00df 27 = .ok (.aload_n 0, 1) := by decide +kernel
theorem dJ5_ensureCapacityInternal_d00df_28 : decode cJ5_ensureCapacityInternal_d00df 28 = .ok (.getfield 22, 3) := by decide +kernel
theorem dJ5_ensureCapacityInternal_d00df_31 : decode cJ5_ensureCapacityInternal_d00df 31 = .ok (.ishl, 1) := by decide +kernel
theorem dJ5_ensureCapacityInternal_d00df_32 : decode cJ5_ensureCapacityInternal_d00df 32 = .ok (.invokestatic 108, 3) := by decide +kernel
theorem dJ5_ensureCapacityInternal_d00df_35 : decode cJ5_ensureCapacityInternal_d00df 35 = .ok (.putfield 15, 3) := by decide +kernel
theorem dJ5_ensureCapacityInternal_d00df_38 : decode cJ5_ensureCapacityInternal_d00df 38 = .ok (.return_, 1) := by decide +kernel
theorem dJ5_newCapacity_0f7a4_0 : decode cJ5_newCapacity_0f7a4 0 = .ok (.aload_n 0, 1) := by decide +kernel
theorem dJ5_newCapacity_0f7a4_1 : decode cJ5_newCapacity_0f7a4 1 = .ok (.getfield 15, 3) := by decide +kernel
theorem dJ5_newCapacity_0f7a4_4 : decode cJ5_newCapacity_0f7a4 4 = .ok (.arraylength, 1) := by decide +kernel
theorem dJ5_newCapacity_0f7a4_5 : decode cJ5_newCapacity_0f7a4 5 = .ok (.istore_n 2, 1) := by decide +kernel
theorem dJ5_newCapacity_0f7a4_6 : decode cJ5_newCapacity_0f7a4 6 = .ok (.iload_n 1, 1) := by decide +kernel
theorem dJ5_newCapacity_0f7a4_7 : decode cJ5_newCapacity_0f7a4 7 = .ok (.aload_n 0, 1) := by decide +kernel
theorem dJ5_newCapacity_0f7a4_8 : decode cJ5_newCapacity_0f7a4 8 = .ok (.getfield 22, 3) := by decide +kernel
theorem dJ5_newCapacity_0f7a4_11 : decode cJ5_newCapacity_0f7a4 11 = .ok (.ishl, 1) := by decide +kernel
theorem dJ5_newCapacity_0f7a4_12 : decode cJ5_newCapacity_0f7a4 12 = .ok (.istore_n 3, 1) := by decide +kernel
theorem dJ5_newCapacity_0f7a4_13 : decode cJ5_newCapacity_0f7a4 13 = .ok (.iload_n 3, 1) := by decide +kernel
theorem dJ5_newCapacity_0f7a4_14 : decode cJ5_newCapacity_0f7a4 14 = .ok (.iload_n 2, 1) := by decide +kernel
theorem dJ5_newCapacity_0f7a4_15 : decode cJ5_newCapacity_0f7a4 15 = .ok (.isub, 1) := by decide +kernel
theorem dJ5_newCapacity_0f7a4_16 : decode cJ5_newCapacity_0f7a4 16 = .ok (.istore 4, 2) := by decide +kernel
theorem dJ5_newCapacity_0f7a4_18 : decode cJ5_newCapacity_0f7a4 18 = .ok (.iload_n 2, 1) := by decide +kernel
theorem dJ5_newCapacity_0f7a4_19 : decode cJ5_newCapacity_0f7a4 19 = .ok (.iload 4, 2) := by decide +kernel
theorem dJ5_newCapacity_0f7a4_21 : decode cJ5_newCapacity_0f7a4 21 = .ok (.iload_n 2, 1) := by decide +kernel
theorem dJ5_newCapacity_0f7a4_22 : decode cJ5_newCapacity_0f7a4 22 = .ok (.iconst 2, 1) := by decide +kernel
theorem dJ5_newCapacity_0f7a4_23 : decode cJ5_newCapacity_0f7a4 23 = .ok (.aload_n 0, 1) := by decide +kernel
theorem dJ5_newCapacity_0f7a4_24 : decode cJ5_newCapacity_0f7a4 24 = .ok (.getfield 22, 3) := by decide +kernel
theorem dJ5_newCapacity_0f7a4_27 : decode cJ5_newCapacity_0f7a4 27 = .ok (.ishl, 1) := by decide +kernel
theorem dJ5_newCapacity_0f7a4_28 : decode cJ5_newCapacity_0f7a4 28 = .ok (.iadd, 1) := by decide +kernel
theorem dJ5_newCapacity_0f7a4_29 : decode cJ5_newCapacity_0f7a4 29 = .ok (.invokestatic 114, 3) := by decide +kernel
theorem dJ5_newCapacity_0f7a4_32 : decode cJ5_newCapacity_0f7a4 32 = .ok (.istore 5, 2) := by decide +kernel
theorem dJ5_newCapacity_0f7a4_34 : decode cJ5_newCapacity_0f7a4 34 = .ok (.iload 5, 2) := by decide +kernel
theorem dJ5_newCapacity_0f7a4_36 : decode cJ5_newCapacity_0f7a4 36 = .ok (.ldc 39, 2) := by decide +kernel
theorem dJ5_newCapacity_0f7a4_38 : decode cJ5_newCapacity_0f7a4 38 = .ok (.if_icmp .ne 13, 3) := by decide +kernel
theorem dJ5_newCapacity_0f7a4_41 : decode cJ5_newCapacity_0f7a4 41 = .ok (.new 120, 3) := by decide +kernel
theorem dJ5_newCapacity_0f7a4_44 : decode cJ5_newCapacity_0f7a4 44 = .ok (.dup, 1) := by decide +kernel
theorem dJ5_newCapacity_0f7a4_45 : decode cJ5_newCapacity_0f7a4 45 = .ok (.ldc 122, 2) := by decide +kernel
theorem dJ5_newCapacity_0f7a4_47 : decode cJ5_newCapacity_0f7a4 47 = .ok (.invokespecial 124, 3) := by decide +kernel
theorem dJ5_newCapacity_0f7a4_50 : decode cJ5_newCapacity_0f7a4 50 = .ok (.athrow, 1) := by decide +kernel
theorem dJ5_newCapacity_0f7a4_51 : decode cJ5_newCapacity_0f7a4 51 = .ok (.iload 5, 2) := by decide +kernel
theorem dJ5_newCapacity_0f7a4_53 : decode cJ5_newCapacity_0f7a4 53 = .ok (.aload_n 0, 1) := by decide +kernel
theorem dJ5_newCapacity_0f7a4_54 : decode cJ5_newCapacity_0f7a4 54 = .ok (.getfield 22, 3) := by decide +kernel
theorem dJ5_newCapacity_0f7a4_57 : decode cJ5_newCapacity_0f7a4 57 = .ok (.ishr, 1) := by decide +kernel
theorem dJ5_newCapacity_0f7a4_58 : decode cJ5_newCapacity_0f7a4 58 = .ok (.ireturn, 1) := by decide +kernel
theorem dJ5_inflate_da8c8_0 : decode cJ5_inflate_da8c8 0 = .ok (.aload_n 0, 1) := by decide +kernel
theorem dJ5_inflate_da8c8_1 : decode cJ5_inflate_da8c8 1 = .ok (.invokevirtual 83, 3) := by decide +kernel
theorem dJ5_inflate_da8c8_4 : decode cJ5_inflate_da8c8 4 = .ok (.ifCond .ne 4, 3) := by decide +kernel
theorem dJ5_inflate_da8c8_7 : decode cJ5_inflate_da8c8 7 = .ok (.return_, 1) := by decide +kernel
theorem dJ5_inflate_da8c8_8 : decode cJ5_inflate_da8c8 8 = .ok (.aload_n 0, 1) := by decide +kernel
theorem dJ5_inflate_da8c8_9 : decode cJ5_inflate_da8c8 9 = .ok (.getfield 15, 3) := by decide +kernel
theorem dJ5_inflate_da8c8_12 : decode cJ5_inflate_da8c8 12 = .ok (.arraylength, 1) := by decide +kernel
theorem dJ5_inflate_da8c8_13 : decode cJ5_inflate_da8c8 13 = .ok (.invokestatic 26, 3) := by decide +kernel
theorem dJ5_inflate_da8c8_16 : decode cJ5_inflate_da8c8 16 = .ok (.astore_n 1, 1) := by decide +kernel
theorem dJ5_inflate_da8c8_17 : decode cJ5_inflate_da8c8 17 = .ok (.aload_n 0, 1) := by decide +kernel
theorem dJ5_inflate_da8c8_18 : decode cJ5_inflate_da8c8 18 = .ok (.getfield 15, 3) := by decide +kernel
theorem dJ5_inflate_da8c8_21 : decode cJ5_inflate_da8c8 21 = .ok (.iconst 0, 1) := by decide +kernel
theorem dJ5_inflate_da8c8_22 : decode cJ5_inflate_da8c8 22 = .ok (.aload_n 1, 1) := by decide +kernel
theorem dJ5_inflate_da8c8_23 : decode cJ5_inflate_da8c8 23 = .ok (.iconst 0, 1) := by decide +kernel
theorem dJ5_inflate_da8c8_24 : decode cJ5_inflate_da8c8 24 = .ok (.aload_n 0, 1) := by decide +kernel
theorem dJ5_inflate_da8c8_25 : decode cJ5_inflate_da8c8 25 = .ok (.getfield 79, 3) := by decide +kernel
theorem dJ5_inflate_da8c8_28 : decode cJ5_inflate_da8c8 28 = .ok (.invokestatic 125, 3) := by decide +kernel
theorem dJ5_inflate_da8c8_31 : decode cJ5_inflate_da8c8 31 = .ok (.aload_n 0, 1) := by decide +kernel
theorem dJ5_inflate_da8c8_32 : decode cJ5_inflate_da8c8 32 = .ok (.aload_n 1, 1) := by decide +kernel
theorem dJ5_inflate_da8c8_33 : decode cJ5_inflate_da8c8 33 = .ok (.putfield 15, 3) := by decide +kernel
theorem dJ5_inflate_da8c8_36 : decode cJ5_inflate_da8c8 36 = .ok (.aload_n 0, 1) := by decide +kernel
theorem dJ5_inflate_da8c8_37 : decode cJ5_inflate_da8c8 37 = .ok (.iconst 1, 1) := by decide +kernel
theorem dJ5_inflate_da8c8_38 : decode cJ5_inflate_da8c8 38 = .ok (.putfield 22, 3) := by decide +kernel
theorem dJ5_inflate_da8c8_41 : decode cJ5_inflate_da8c8 41 = .ok (.return_, 1) := by decide +kernel
theorem dJ5_append_cf1ce_0 : decode cJ5_append_cf1ce 0 = .ok (.aload_n 1, 1) := by decide +kernel
theorem dJ5_append_cf1ce_1 : decode cJ5_append_cf1ce 1 = .ok (.ifnonnull 8, 3) := by decide +kernel
theorem dJ5_append_cf1ce_4 : decode cJ5_append_cf1ce 4 = .ok (.aload_n 0, 1) := by decide +kernel
theorem dJ5_append_cf1ce_5 : decode cJ5_append_cf1ce 5 = .ok (.invokevirtual 204, 3) := by decide +kernel
theorem dJ5_append_cf1ce_8 : decode cJ5_append_cf1ce 8 = .ok (.areturn, 1) := by decide +kernel
theorem dJ5_append_cf1ce_9 : decode cJ5_append_cf1ce 9 = .ok (.aload_n 1, 1) := by decide +kernel
theorem dJ5_append_cf1ce_10 : decode cJ5_append_cf1ce 10 = .ok (.invokevirtual 32, 3) := by decide +kernel
theorem dJ5_append_cf1ce_13 : decode cJ5_append_cf1ce 13 = .ok (.istore_n 2, 1) := by decide +kernel
theorem dJ5_append_cf1ce_14 : decode cJ5_append_cf1ce 14 = .ok (.aload_n 0, 1) := by decide +kernel
theorem dJ5_append_cf1ce_15 : decode cJ5_append_cf1ce 15 = .ok (.aload_n 0, 1) := by decide +kernel
theorem dJ5_append_cf1ce_16 : decode cJ5_append_cf1ce 16 = .ok (.getfield 79, 3) := by decide +kernel
theorem dJ5_append_cf1ce_19 : decode cJ5_append_cf1ce 19 = .ok (.iload_n 2, 1) := by decide +kernel
theorem dJ5_append_cf1ce_20 : decode cJ5_append_cf1ce 20 = .ok (.iadd, 1) := by decide +kernel
theorem dJ5_append_cf1ce_21 : decode cJ5_append_cf1ce 21 = .ok (.invokevirtual 100, 3) := by decide +kernel
theorem dJ5_append_cf1ce_24 : decode cJ5_append_cf1ce 24 = .ok (.aload_n 0, 1) := by decide +kernel
theorem dJ5_append_cf1ce_25 : decode cJ5_append_cf1ce 25 = .ok (.aload_n 0, 1) := by decide +kernel
theorem dJ5_append_cf1ce_26 : decode cJ5_append_cf1ce 26 = .ok (.getfield 79, 3) := by decide +kernel
theorem dJ5_append_cf1ce_29 : decode cJ5_append_cf1ce 29 = .ok (.aload_n 1, 1) := by decide +kernel
theorem dJ5_append_cf1ce_30 : decode cJ5_append_cf1ce 30 = .ok (.invokevirtual 208, 3) := by decide +kernel
theorem dJ5_append_cf1ce_33 : decode cJ5_append_cf1ce 33 = .ok (.aload_n 0, 1) := by decide +kernel
theorem dJ5_append_cf1ce_34 : decode cJ5_append_cf1ce 34 = .ok (.dup, 1) := by decide +kernel
theorem dJ5_append_cf1ce_35 : decode cJ5_append_cf1ce 35 = .ok (.getfield 79, 3) := by decide +kernel
theorem dJ5_append_cf1ce_38 : decode cJ5_append_cf1ce 38 = .ok (.iload_n 2, 1) := by decide +kernel
theorem dJ5_append_cf1ce_39 : decode cJ5_append_cf1ce 39 = .ok (.iadd, 1) := by decide +kernel
theorem dJ5_append_cf1ce_40 : decode cJ5_append_cf1ce 40 = .ok (.putfield 79, 3) := by decide +kernel
theorem dJ5_append_cf1ce_43 : decode cJ5_append_cf1ce 43 = .ok (.aload_n 0, 1) := by decide +kernel
theorem dJ5_append_cf1ce_44 : decode cJ5_append_cf1ce 44 = .ok (.areturn, 1) := by decide +kernel
theorem dJ5_appendNull_278bc_0 : decode cJ5_appendNull_278bc 0 = .ok (.aload_n 0, 1) := by decide +kernel
theorem dJ5_appendNull_278bc_1 : decode cJ5_appendNull_278bc 1 = .ok (.aload_n 0, 1) := by decide +kernel
theorem dJ5_appendNull_278bc_2 : decode cJ5_appendNull_278bc 2 = .ok (.getfield 79, 3) := by decide +kernel
theorem dJ5_appendNull_278bc_5 : decode cJ5_appendNull_278bc 5 = .ok (.iconst 4, 1) := by decide +kernel
theorem dJ5_appendNull_278bc_6 : decode cJ5_appendNull_278bc 6 = .ok (.iadd, 1) := by decide +kernel
theorem dJ5_appendNull_278bc_7 : decode cJ5_appendNull_278bc 7 = .ok (.invokevirtual 100, 3) := by decide +kernel
theorem dJ5_appendNull_278bc_10 : decode cJ5_appendNull_278bc 10 = .ok (.aload_n 0, 1) := by decide +kernel
theorem dJ5_appendNull_278bc_11 : decode cJ5_appendNull_278bc 11 = .ok (.getfield 79, 3) := by decide +kernel
theorem dJ5_appendNull_278bc_14 : decode cJ5_appendNull_278bc 14 = .ok (.istore_n 1, 1) := by decide +kernel
theorem dJ5_appendNull_278bc_15 : decode cJ5_appendNull_278bc 15 = .ok (.aload_n 0, 1) := by decide +kernel
theorem dJ5_appendNull_278bc_16 : decode cJ5_appendNull_278bc 16 = .ok (.getfield 15, 3) := by decide +kernel
theorem dJ5_appendNull_278bc_19 : decode cJ5_appendNull_278bc 19 = .ok (.astore_n 2, 1) := by decide +kernel
theorem dJ5_appendNull_278bc_20 : decode cJ5_appendNull_278bc 20 = .ok (.aload_n 0, 1) := by decide +kernel
theorem dJ5_appendNull_278bc_21 : decode cJ5_appendNull_278bc 21 = .ok (.invokevirtual 83, 3) := by decide +kernel
theorem dJ5_appendNull_278bc_24 : decode cJ5_appendNull_278bc 24 = .ok (.ifCond .eq 38, 3) := by decide +kernel
theorem dJ5_appendNull_278bc_27 : decode cJ5_appendNull_278bc 27 = .ok (.aload_n 2, 1) := by decide +kernel
theorem dJ5_appendNull_278bc_28 : decode cJ5_appendNull_278bc 28 = .ok (.iload_n 1, 1) := by decide +kernel
theorem dJ5_appendNull_278bc_29 : decode cJ5_appendNull_278bc 29 = .ok (.iinc 1 1, 3) := by decide +kernel
theorem dJ5_appendNull_278bc_32 : decode cJ5_appendNull_278bc 32 = .ok (.bipush 110, 2) := by decide +kernel
theorem dJ5_appendNull_278bc_34 : decode cJ5_appendNull_278bc 34 = .ok (.bastore, 1) := by decide +kernel
theorem dJ5_appendNull_278bc_35 : decode cJ5_appendNull_278bc 35 = .ok (.aload_n 2, 1) := by decide +kernel
theorem dJ5_appendNull_278bc_36 : decode cJ5_appendNull_278bc 36 = .ok (.iload_n 1, 1) := by decide +kernel
theorem dJ5_appendNull_278bc_37 : decode cJ5_appendNull_278bc 37 = .ok (.iinc 1 1, 3) := by decide +kernel
theorem dJ5_appendNull_278bc_40 : decode cJ5_appendNull_278bc 40 = .ok (.bipush 117, 2) := by decide +kernel
theorem dJ5_appendNull_278bc_42 : decode cJ5_appendNull_278bc 42 = .ok (.bastore, 1) := by decide +kernel
theorem dJ5_appendNull_278bc_43 : decode cJ5_appendNull_278bc 43 = .ok (.aload_n 2, 1) := by decide +kernel
theorem dJ5_appendNull_278bc_44 : decode cJ5_appendNull_278bc 44 = .ok (.iload_n 1, 1) := by decide +kernel
theorem dJ5_appendNull_278bc_45 : decode cJ5_appendNull_278bc 45 = .ok (.iinc 1 1, 3) := by decide +kernel
theorem dJ5_appendNull_278bc_48 : decode cJ5_appendNull_278bc 48 = .ok (.bipush 108, 2) := by decide +kernel
theorem dJ5_appendNull_278bc_50 : decode cJ5_appendNull_278bc 50 = .ok (.bastore, 1) := by decide +kernel
theorem dJ5_appendNull_278bc_51 : decode cJ5_appendNull_278bc 51 = .ok (.aload_n 2, 1) := by decide +kernel
theorem dJ5_appendNull_278bc_52 : decode cJ5_appendNull_278bc 52 = .ok (.iload_n 1, 1) := by decide +kernel
theorem dJ5_appendNull_278bc_53 : decode cJ5_appendNull_278bc 53 = .ok (.iinc 1 1, 3) := by decide +kernel
theorem dJ5_appendNull_278bc_56 : decode cJ5_appendNull_278bc 56 = .ok (.bipush 108, 2) := by decide +kernel
theorem dJ5_appendNull_278bc_58 : decode cJ5_appendNull_278bc 58 = .ok (.bastore, 1) := by decide +kernel
theorem dJ5_appendNull_278bc_59 : decode cJ5_appendNull_278bc 59 = .ok (.goto 17, 3) := by decide +kernel
theorem dJ5_appendNull_278bc_62 : decode cJ5_appendNull_278bc 62 = .ok (.aload_n 2, 1) := by decide +kernel
theorem dJ5_appendNull_278bc_63 : decode cJ5_appendNull_278bc 63 = .ok (.iload_n 1, 1) := by decide +kernel
theorem dJ5_appendNull_278bc_64 : decode cJ5_appendNull_278bc 64 = .ok (.bipush 110, 2) := by decide +kernel
theorem dJ5_appendNull_278bc_66 : decode cJ5_appendNull_278bc 66 = .ok (.bipush 117, 2) := by decide +kernel
theorem dJ5_appendNull_278bc_68 : decode cJ5_appendNull_278bc 68 = .ok (.bipush 108, 2) := by decide +kernel
theorem dJ5_appendNull_278bc_70 : decode cJ5_appendNull_278bc 70 = .ok (.bipush 108, 2) := by decide +kernel
theorem dJ5_appendNull_278bc_72 : decode cJ5_appendNull_278bc 72 = .ok (.invokestatic 226, 3) := by decide +kernel
theorem dJ5_appendNull_278bc_75 : decode cJ5_appendNull_278bc 75 = .ok (.istore_n 1, 1) := by decide +kernel
theorem dJ5_appendNull_278bc_76 : decode cJ5_appendNull_278bc 76 = .ok (.aload_n 0, 1) := by decide +kernel
theorem dJ5_appendNull_278bc_77 : decode cJ5_appendNull_278bc 77 = .ok (.iload_n 1, 1) := by decide +kernel
theorem dJ5_appendNull_278bc_78 : decode cJ5_appendNull_278bc 78 = .ok (.putfield 79, 3) := by decide +kernel
theorem dJ5_appendNull_278bc_81 : decode cJ5_appendNull_278bc 81 = .ok (.aload_n 0, 1) := by decide +kernel
theorem dJ5_appendNull_278bc_82 : decode cJ5_appendNull_278bc 82 = .ok (.areturn, 1) := by decide +kernel
theorem dJ5_append_3fe6f_0 : decode cJ5_append_3fe6f 0 = .ok (.aload_n 0, 1) := by decide +kernel
theorem dJ5_append_3fe6f_1 : decode cJ5_append_3fe6f 1 = .ok (.aload_n 0, 1) := by decide +kernel
theorem dJ5_append_3fe6f_2 : decode cJ5_append_3fe6f 2 = .ok (.getfield 79, 3) := by decide +kernel
theorem dJ5_append_3fe6f_5 : decode cJ5_append_3fe6f 5 = .ok (.iconst 1, 1) := by decide +kernel
theorem dJ5_append_3fe6f_6 : decode cJ5_append_3fe6f 6 = .ok (.iadd, 1) := by decide +kernel
theorem dJ5_append_3fe6f_7 : decode cJ5_append_3fe6f 7 = .ok (.invokevirtual 100, 3) := by decide +kernel
theorem dJ5_append_3fe6f_10 : decode cJ5_append_3fe6f 10 = .ok (.aload_n 0, 1) := by decide +kernel
theorem dJ5_append_3fe6f_11 : decode cJ5_append_3fe6f 11 = .ok (.invokevirtual 83, 3) := by decide +kernel
theorem dJ5_append_3fe6f_14 : decode cJ5_append_3fe6f 14 = .ok (.ifCond .eq 31, 3) := by decide +kernel
theorem dJ5_append_3fe6f_17 : decode cJ5_append_3fe6f 17 = .ok (.iload_n 1, 1) := by decide +kernel
theorem dJ5_append_3fe6f_18 : decode cJ5_append_3fe6f 18 = .ok (.invokestatic 191, 3) := by decide +kernel
theorem dJ5_append_3fe6f_21 : decode cJ5_append_3fe6f 21 = .ok (.ifCond .eq 24, 3) := by decide +kernel
theorem dJ5_append_3fe6f_24 : decode cJ5_append_3fe6f 24 = .ok (.aload_n 0, 1) := by decide +kernel
theorem dJ5_append_3fe6f_25 : decode cJ5_append_3fe6f 25 = .ok (.getfield 15, 3) := by decide +kernel
theorem dJ5_append_3fe6f_28 : decode cJ5_append_3fe6f 28 = .ok (.aload_n 0, 1) := by decide +kernel
theorem dJ5_append_3fe6f_29 : decode cJ5_append_3fe6f 29 = .ok (.dup, 1) := by decide +kernel
theorem dJ5_append_3fe6f_30 : decode cJ5_append_3fe6f 30 = .ok (.getfield 79, 3) := by decide +kernel
theorem dJ5_append_3fe6f_33 : decode cJ5_append_3fe6f 33 = .ok (.dup_x1, 1) := by decide +kernel
theorem dJ5_append_3fe6f_34 : decode cJ5_append_3fe6f 34 = .ok (.iconst 1, 1) := by decide +kernel
theorem dJ5_append_3fe6f_35 : decode cJ5_append_3fe6f 35 = .ok (.iadd, 1) := by decide +kernel
theorem dJ5_append_3fe6f_36 : decode cJ5_append_3fe6f 36 = .ok (.putfield 79, 3) := by decide +kernel
theorem dJ5_append_3fe6f_39 : decode cJ5_append_3fe6f 39 = .ok (.iload_n 1, 1) := by decide +kernel
theorem dJ5_append_3fe6f_40 : decode cJ5_append_3fe6f 40 = .ok (.i2b, 1) := by decide +kernel
theorem dJ5_append_3fe6f_41 : decode cJ5_append_3fe6f 41 = .ok (.bastore, 1) := by decide +kernel
theorem dJ5_append_3fe6f_42 : decode cJ5_append_3fe6f 42 = .ok (.goto 33, 3) := by decide +kernel
theorem dJ5_append_3fe6f_45 : decode cJ5_append_3fe6f 45 = .ok (.aload_n 0, 1) := by decide +kernel
theorem dJ5_append_3fe6f_46 : decode cJ5_append_3fe6f 46 = .ok (.invokevirtual 83, 3) := by decide +kernel
theorem dJ5_append_3fe6f_49 : decode cJ5_append_3fe6f 49 = .ok (.ifCond .eq 7, 3) := by decide +kernel
theorem dJ5_append_3fe6f_52 : decode cJ5_append_3fe6f 52 = .ok (.aload_n 0, 1) := by decide +kernel
theorem dJ5_append_3fe6f_53 : decode cJ5_append_3fe6f 53 = .ok (.invokevirtual 195, 3) := by decide +kernel
theorem dJ5_append_3fe6f_56 : decode cJ5_append_3fe6f 56 = .ok (.aload_n 0, 1) := by decide +kernel
theorem dJ5_append_3fe6f_57 : decode cJ5_append_3fe6f 57 = .ok (.getfield 15, 3) := by decide +kernel
theorem dJ5_append_3fe6f_60 : decode cJ5_append_3fe6f 60 = .ok (.aload_n 0, 1) := by decide +kernel
theorem dJ5_append_3fe6f_61 : decode cJ5_append_3fe6f 61 = .ok (.dup, 1) := by decide +kernel
theorem dJ5_append_3fe6f_62 : decode cJ5_append_3fe6f 62 = .ok (.getfield 79, 3) := by decide +kernel
theorem dJ5_append_3fe6f_65 : decode cJ5_append_3fe6f 65 = .ok (.dup_x1, 1) := by decide +kernel
theorem dJ5_append_3fe6f_66 : decode cJ5_append_3fe6f 66 = .ok (.iconst 1, 1) := by decide +kernel
theorem dJ5_append_3fe6f_67 : decode cJ5_append_3fe6f 67 = .ok (.iadd, 1) := by decide +kernel
theorem dJ5_append_3fe6f_68 : decode cJ5_append_3fe6f 68 = .ok (.putfield 79, 3) := by decide +kernel
theorem dJ5_append_3fe6f_71 : decode cJ5_append_3fe6f 71 = .ok (.iload_n 1, 1) := by decide +kernel
theorem dJ5_append_3fe6f_72 : decode cJ5_append_3fe6f 72 = .ok (.invokestatic 197, 3) := by decide +kernel
theorem dJ5_append_3fe6f_75 : decode cJ5_append_3fe6f 75 = .ok (.aload_n 0, 1) := by decide +kernel
theorem dJ5_append_3fe6f_76 : decode cJ5_append_3fe6f 76 = .ok (.areturn, 1) := by decide +kernel
theorem dJ5_append_c97b9_0 : decode cJ5_append_c97b9 0 = .ok (.aload_n 0, 1) := by decide +kernel
theorem dJ5_append_c97b9_1 : decode cJ5_append_c97b9 1 = .ok (.getfield 79, 3) := by decide +kernel
theorem dJ5_append_c97b9_4 : decode cJ5_append_c97b9 4 = .ok (.istore_n 2, 1) := by decide +kernel
theorem dJ5_append_c97b9_5 : decode cJ5_append_c97b9 5 = .ok (.iload_n 2, 1) := by decide +kernel
theorem dJ5_append_c97b9_6 : decode cJ5_append_c97b9 6 = .ok (.iload_n 1, 1) := by decide +kernel
theorem dJ5_append_c97b9_7 : decode cJ5_append_c97b9 7 = .ok (.invokestatic 245, 3) := by decide +kernel
theorem dJ5_append_c97b9_10 : decode cJ5_append_c97b9 10 = .ok (.iadd, 1) := by decide +kernel
theorem dJ5_append_c97b9_11 : decode cJ5_append_c97b9 11 = .ok (.istore_n 3, 1) := by decide +kernel
theorem dJ5_append_c97b9_12 : decode cJ5_append_c97b9 12 = .ok (.aload_n 0, 1) := by decide +kernel
theorem dJ5_append_c97b9_13 : decode cJ5_append_c97b9 13 = .ok (.iload_n 3, 1) := by decide +kernel
theorem dJ5_append_c97b9_14 : decode cJ5_append_c97b9 14 = .ok (.invokevirtual 100, 3) := by decide +kernel
theorem dJ5_append_c97b9_17 : decode cJ5_append_c97b9 17 = .ok (.aload_n 0, 1) := by decide +kernel
theorem dJ5_append_c97b9_18 : decode cJ5_append_c97b9 18 = .ok (.invokevirtual 83, 3) := by decide +kernel
theorem dJ5_append_c97b9_21 : decode cJ5_append_c97b9 21 = .ok (.ifCond .eq 16, 3) := by decide +kernel
theorem dJ5_append_c97b9_24 : decode cJ5_append_c97b9 24 = .ok (.iload_n 1, 1) := by decide +kernel
theorem dJ5_append_c97b9_25 : decode cJ5_append_c97b9 25 = .ok (.iload_n 3, 1) := by decide +kernel
theorem dJ5_append_c97b9_26 : decode cJ5_append_c97b9 26 = .ok (.aload_n 0, 1) := by decide +kernel
theorem dJ5_append_c97b9_27 : decode cJ5_append_c97b9 27 = .ok (.getfield 15, 3) := by decide +kernel
theorem dJ5_append_c97b9_30 : decode cJ5_append_c97b9 30 = .ok (.invokestatic 248, 3) := by decide +kernel
theorem dJ5_append_c97b9_33 : decode cJ5_append_c97b9 33 = .ok (.pop, 1) := by decide +kernel
theorem dJ5_append_c97b9_34 : decode cJ5_append_c97b9 34 = .ok (.goto 14, 3) := by decide +kernel
theorem dJ5_append_c97b9_37 : decode cJ5_append_c97b9 37 = .ok (.iload_n 1, 1) := by decide +kernel
theorem dJ5_append_c97b9_38 : decode cJ5_append_c97b9 38 = .ok (.iload_n 2, 1) := by decide +kernel
theorem dJ5_append_c97b9_39 : decode cJ5_append_c97b9 39 = .ok (.iload_n 3, 1) := by decide +kernel
theorem dJ5_append_c97b9_40 : decode cJ5_append_c97b9 40 = .ok (.aload_n 0, 1) := by decide +kernel
theorem dJ5_append_c97b9_41 : decode cJ5_append_c97b9 41 = .ok (.getfield 15, 3) := by decide +kernel
theorem dJ5_append_c97b9_44 : decode cJ5_append_c97b9 44 = .ok (.invokestatic 251, 3) := by decide +kernel
theorem dJ5_append_c97b9_47 : decode cJ5_append_c97b9 47 = .ok (.pop, 1) := by decide +kernel
theorem dJ5_append_c97b9_48 : decode cJ5_append_c97b9 48 = .ok (.aload_n 0, 1) := by decide +kernel
theorem dJ5_append_c97b9_49 : decode cJ5_append_c97b9 49 = .ok (.iload_n 3, 1) := by decide +kernel
theorem dJ5_append_c97b9_50 : decode cJ5_append_c97b9 50 = .ok (.putfield 79, 3) := by decide +kernel
theorem dJ5_append_c97b9_53 : decode cJ5_append_c97b9 53 = .ok (.aload_n 0, 1) := by decide +kernel
theorem dJ5_append_c97b9_54 : decode cJ5_append_c97b9 54 = .ok (.areturn, 1) := by decide +kernel
theorem dJ5_getValue_6d5f1_0 : decode cJ5_getValue_6d5f1 0 = .ok (.aload_n 0, 1) := by decide +kernel
theorem dJ5_getValue_6d5f1_1 : decode cJ5_getValue_6d5f1 1 = .ok (.getfield 15, 3) := by decide +kernel
theorem dJ5_getValue_6d5f1_4 : decode cJ5_getValue_6d5f1 4 = .ok (.areturn, 1) := by decide +kernel
theorem dJ5_isLatin1_aae02_0 : decode cJ5_isLatin1_aae02 0 = .ok (.getstatic 18, 3) := by decide +kernel
theorem dJ5_isLatin1_aae02_3 : decode cJ5_isLatin1_aae02 3 = .ok (.ifCond .eq 14, 3) := by decide +kernel
theorem dJ5_isLatin1_aae02_6 : decode cJ5_isLatin1_aae02 6 = .ok (.aload_n 0, 1) := by decide +kernel
theorem dJ5_isLatin1_aae02_7 : decode cJ5_isLatin1_aae02 7 = .ok (.getfield 22, 3) := by decide +kernel
theorem dJ5_isLatin1_aae02_10 : decode cJ5_isLatin1_aae02 10 = .ok (.ifCond .ne 7, 3) := by decide +kernel
theorem dJ5_isLatin1_aae02_13 : decode cJ5_isLatin1_aae02 13 = .ok (.iconst 1, 1) := by decide +kernel
theorem dJ5_isLatin1_aae02_14 : decode cJ5_isLatin1_aae02 14 = .ok (.goto 4, 3) := by decide +kernel
theorem dJ5_isLatin1_aae02_17 : decode cJ5_isLatin1_aae02 17 = .ok (.iconst 0, 1) := by decide +kernel
theorem dJ5_isLatin1_aae02_18 : decode cJ5_isLatin1_aae02 18 = .ok (.ireturn, 1) := by decide +kernel
theorem dJ5_inflateIfNeededFor_a7421_0 : decode cJ5_inflateIfNeededFor_a7421 0 = .ok (.getstatic 18, 3) := by decide +kernel
theorem dJ5_inflateIfNeededFor_a7421_3 : decode cJ5_inflateIfNeededFor_a7421 3 = .ok (.ifCond .eq 18, 3) := by decide +kernel
theorem dJ5_inflateIfNeededFor_a7421_6 : decode cJ5_inflateIfNeededFor_a7421 6 = .ok (.aload_n 0, 1) := by decide +kernel
theorem dJ5_inflateIfNeededFor_a7421_7 : decode cJ5_inflateIfNeededFor_a7421 7 = .ok (.getfield 22, 3) := by decide +kernel
theorem dJ5_inflateIfNeededFor_a7421_10 : decode cJ5_inflateIfNeededFor_a7421 10 = .ok (.aload_n 1, 1) := by decide +kernel
theorem dJ5_inflateIfNeededFor_a7421_11 : decode cJ5_inflateIfNeededFor_a7421 11 = .ok (.invokevirtual 40, 3) := by decide +kernel
theorem dJ5_inflateIfNeededFor_a7421_14 : decode cJ5_inflateIfNeededFor_a7421 14 = .ok (.if_icmp .eq 7, 3) := by decide +kernel
theorem dJ5_inflateIfNeededFor_a7421_17 : decode cJ5_inflateIfNeededFor_a7421 17 = .ok (.aload_n 0, 1) := by decide +kernel
theorem dJ5_inflateIfNeededFor_a7421_18 : decode cJ5_inflateIfNeededFor_a7421 18 = .ok (.invokevirtual 195, 3) := by decide +kernel
theorem dJ5_inflateIfNeededFor_a7421_21 : decode cJ5_inflateIfNeededFor_a7421 21 = .ok (.return_, 1) := by decide +kernel
theorem dJ5_putStringAt_47b60_0 : decode cJ5_putStringAt_47b60 0 = .ok (.aload_n 0, 1) := by decide +kernel
theorem dJ5_putStringAt_47b60_1 : decode cJ5_putStringAt_47b60 1 = .ok (.aload_n 2, 1) := by decide +kernel
theorem dJ5_putStringAt_47b60_2 : decode cJ5_putStringAt_47b60 2 = .ok (.invokevirtual 397, 3) := by decide +kernel
theorem dJ5_putStringAt_47b60_5 : decode cJ5_putStringAt_47b60 5 = .ok (.aload_n 2, 1) := by decide +kernel
theorem dJ5_putStringAt_47b60_6 : decode cJ5_putStringAt_47b60 6 = .ok (.aload_n 0, 1) := by decide +kernel
theorem dJ5_putStringAt_47b60_7 : decode cJ5_putStringAt_47b60 7 = .ok (.getfield 15, 3) := by decide +kernel
theorem dJ5_putStringAt_47b60_10 : decode cJ5_putStringAt_47b60 10 = .ok (.iload_n 1, 1) := by decide +kernel
theorem dJ5_putStringAt_47b60_11 : decode cJ5_putStringAt_47b60 11 = .ok (.aload_n 0, 1) := by decide +kernel
theorem dJ5_putStringAt_47b60_12 : decode cJ5_putStringAt_47b60 12 = .ok (.getfield 22, 3) := by decide +kernel
theorem dJ5_putStringAt_47b60_15 : decode cJ5_putStringAt_47b60 15 = .ok (.invokevirtual 399, 3) := by decide +kernel
theorem dJ5_putStringAt_47b60_18 : decode cJ5_putStringAt_47b60 18 = .ok (.return_, 1) := by decide +kernel
theorem dJx29ce0_ordinal_8abf5_0 : decode cJx29ce0_ordinal_8abf5 0 = .ok (.aload_n 0, 1) := by decide +kernel
theorem dJx29ce0_ordinal_8abf5_1 : decode cJx29ce0_ordinal_8abf5 1 = .ok (.getfield 7, 3) := by decide +kernel
theorem dJx29ce0_ordinal_8abf5_4 : decode cJx29ce0_ordinal_8abf5 4 = .ok (.ireturn, 1) := by decide +kernel
theorem dJ6_getChars_ba4f3_0 : decode cJ6_getChars_ba4f3 0 = .ok (.iload_n 1, 1) := by decide +kernel
theorem dJ6_getChars_ba4f3_1 : decode cJ6_getChars_ba4f3 1 = .ok (.istore 5, 2) := by decide +kernel
theorem dJ6_getChars_ba4f3_3 : decode cJ6_getChars_ba4f3 3 = .ok (.iload_n 0, 1) := by decide +kernel
theorem dJ6_getChars_ba4f3_4 : decode cJ6_getChars_ba4f3 4 = .ok (.ifCond .ge 7, 3) := by decide +kernel
theorem dJ6_getChars_ba4f3_7 : decode cJ6_getChars_ba4f3 7 = .ok (.iconst 1, 1) := by decide +kernel
theorem dJ6_getChars_ba4f3_8 : decode cJ6_getChars_ba4f3 8 = .ok (.goto 4, 3) := by decide +kernel
theorem dJ6_getChars_ba4f3_11 : decode cJ6_getChars_ba4f3 11 = .ok (.iconst 0, 1) := by decide +kernel
theorem dJ6_getChars_ba4f3_12 : decode cJ6_getChars_ba4f3 12 = .ok (.istore 6, 2) := by decide +kernel
theorem dJ6_getChars_ba4f3_14 : decode cJ6_getChars_ba4f3 14 = .ok (.iload 6, 2) := by decide +kernel
theorem dJ6_getChars_ba4f3_16 : decode cJ6_getChars_ba4f3 16 = .ok (.ifCond .ne 6, 3) := by decide +kernel
theorem dJ6_getChars_ba4f3_19 : decode cJ6_getChars_ba4f3 19 = .ok (.iload_n 0, 1) := by decide +kernel
theorem dJ6_getChars_ba4f3_20 : decode cJ6_getChars_ba4f3 20 = .ok (.ineg, 1) := by decide +kernel
theorem dJ6_getChars_ba4f3_21 : decode cJ6_getChars_ba4f3 21 = .ok (.istore_n 0, 1) := by decide +kernel
theorem dJ6_getChars_ba4f3_22 : decode cJ6_getChars_ba4f3 22 = .ok (.iload_n 0, 1) := by decide +kernel
theorem dJ6_getChars_ba4f3_23 : decode cJ6_getChars_ba4f3 23 = .ok (.bipush (-100), 2) := by decide +kernel
theorem dJ6_getChars_ba4f3_25 : decode cJ6_getChars_ba4f3 25 = .ok (.if_icmp .gt 47, 3) := by decide +kernel
theorem dJ6_getChars_ba4f3_28 : decode cJ6_getChars_ba4f3 28 = .ok (.iload_n 0, 1) := by decide +kernel
theorem dJ6_getChars_ba4f3_29 : decode cJ6_getChars_ba4f3 29 = .ok (.bipush 100, 2) := by decide +kernel
theorem dJ6_getChars_ba4f3_31 : decode cJ6_getChars_ba4f3 31 = .ok (.idiv, 1) := by decide +kernel
theorem dJ6_getChars_ba4f3_32 : decode cJ6_getChars_ba4f3 32 = .ok (.istore_n 3, 1) := by decide +kernel
theorem dJ6_getChars_ba4f3_33 : decode cJ6_getChars_ba4f3 33 = .ok (.iload_n 3, 1) := by decide +kernel
theorem dJ6_getChars_ba4f3_34 : decode cJ6_getChars_ba4f3 34 = .ok (.bipush 100, 2) := by decide +kernel
theorem dJ6_getChars_ba4f3_36 : decode cJ6_getChars_ba4f3 36 = .ok (.imul, 1) := by decide +kernel
theorem dJ6_getChars_ba4f3_37 : decode cJ6_getChars_ba4f3 37 = .ok (.iload_n 0, 1) := by decide +kernel
theorem dJ6_getChars_ba4f3_38 : decode cJ6_getChars_ba4f3 38 = .ok (.isub, 1) := by decide +kernel
theorem dJ6_getChars_ba4f3_39 : decode cJ6_getChars_ba4f3 39 = .ok (.istore 4, 2) := by decide +kernel
theorem dJ6_getChars_ba4f3_41 : decode cJ6_getChars_ba4f3 41 = .ok (.iload_n 3, 1) := by decide +kernel
theorem dJ6_getChars_ba4f3_42 : decode cJ6_getChars_ba4f3 42 = .ok (.istore_n 0, 1) := by decide +kernel
theorem dJ6_getChars_ba4f3_43 : decode cJ6_getChars_ba4f3 43 = .ok (.aload_n 2, 1) := by decide +kernel
theorem dJ6_getChars_ba4f3_44 : decode cJ6_getChars_ba4f3 44 = .ok (.iinc 5 (-1), 3) := by decide +kernel
theorem dJ6_getChars_ba4f3_47 : decode cJ6_getChars_ba4f3 47 = .ok (.iload 5, 2) := by decide +kernel
theorem dJ6_getChars_ba4f3_49 : decode cJ6_getChars_ba4f3 49 = .ok (.getstatic 83, 3) := by decide +kernel
theorem dJ6_getChars_ba4f3_52 : decode cJ6_getChars_ba4f3 52 = .ok (.iload 4, 2) := by decide +kernel
theorem dJ6_getChars_ba4f3_54 : decode cJ6_getChars_ba4f3 54 = .ok (.baload, 1) := by decide +kernel
theorem dJ6_getChars_ba4f3_55 : decode cJ6_getChars_ba4f3 55 = .ok (.bastore, 1) := by decide +kernel
theorem dJ6_getChars_ba4f3_56 : decode cJ6_getChars_ba4f3 56 = .ok (.aload_n 2, 1) := by decide +kernel
theorem dJ6_getChars_ba4f3_57 : decode cJ6_getChars_ba4f3 57 = .ok (.iinc 5 (-1), 3) := by decide +kernel
theorem dJ6_getChars_ba4f3_60 : decode cJ6_getChars_ba4f3 60 = .ok (.iload 5, 2) := by decide +kernel
theorem dJ6_getChars_ba4f3_62 : decode cJ6_getChars_ba4f3 62 = .ok (.getstatic 87, 3) := by decide +kernel
theorem dJ6_getChars_ba4f3_65 : decode cJ6_getChars_ba4f3 65 = .ok (.iload 4, 2) := by decide +kernel
theorem dJ6_getChars_ba4f3_67 : decode cJ6_getChars_ba4f3 67 = .ok (.baload, 1) := by decide +kernel
theorem dJ6_getChars_ba4f3_68 : decode cJ6_getChars_ba4f3 68 = .ok (.bastore, 1) := by decide +kernel
theorem dJ6_getChars_ba4f3_69 : decode cJ6_getChars_ba4f3 69 = .ok (.goto (-47), 3) := by decide +kernel
theorem dJ6_getChars_ba4f3_72 : decode cJ6_getChars_ba4f3 72 = .ok (.aload_n 2, 1) := by decide +kernel
theorem dJ6_getChars_ba4f3_73 : decode cJ6_getChars_ba4f3 73 = .ok (.iinc 5 (-1), 3) := by decide +kernel
theorem dJ6_getChars_ba4f3_76 : decode cJ6_getChars_ba4f3 76 = .ok (.iload 5, 2) := by decide +kernel
theorem dJ6_getChars_ba4f3_78 : decode cJ6_getChars_ba4f3 78 = .ok (.getstatic 83, 3) := by decide +kernel
theorem dJ6_getChars_ba4f3_81 : decode cJ6_getChars_ba4f3 81 = .ok (.iload_n 0, 1) := by decide +kernel
theorem dJ6_getChars_ba4f3_82 : decode cJ6_getChars_ba4f3 82 = .ok (.ineg, 1) := by decide +kernel
theorem dJ6_getChars_ba4f3_83 : decode cJ6_getChars_ba4f3 83 = .ok (.baload, 1) := by decide +kernel
theorem dJ6_getChars_ba4f3_84 : decode cJ6_getChars_ba4f3 84 = .ok (.bastore, 1) := by decide +kernel
theorem dJ6_getChars_ba4f3_85 : decode cJ6_getChars_ba4f3 85 = .ok (.iload_n 0, 1) := by decide +kernel
theorem dJ6_getChars_ba4f3_86 : decode cJ6_getChars_ba4f3 86 = .ok (.bipush (-9), 2) := by decide +kernel
theorem dJ6_getChars_ba4f3_88 : decode cJ6_getChars_ba4f3 88 = .ok (.if_icmp .ge 16, 3) := by decide +kernel
theorem dJ6_getChars_ba4f3_91 : decode cJ6_getChars_ba4f3 91 = .ok (.aload_n 2, 1) := by decide +kernel
theorem dJ6_getChars_ba4f3_92 : decode cJ6_getChars_ba4f3 92 = .ok (.iinc 5 (-1), 3) := by decide +kernel
theorem dJ6_getChars_ba4f3_95 : decode cJ6_getChars_ba4f3 95 = .ok (.iload 5, 2) := by decide +kernel
theorem dJ6_getChars_ba4f3_97 : decode cJ6_getChars_ba4f3 97 = .ok (.getstatic 87, 3) := by decide +kernel
theorem dJ6_getChars_ba4f3_100 : decode cJ6_getChars_ba4f3 100 = .ok (.iload_n 0, 1) := by decide +kernel
theorem dJ6_getChars_ba4f3_101 : decode cJ6_getChars_ba4f3 101 = .ok (.ineg, 1) := by decide +kernel
theorem dJ6_getChars_ba4f3_102 : decode cJ6_getChars_ba4f3 102 = .ok (.baload, 1) := by decide +kernel
theorem dJ6_getChars_ba4f3_103 : decode cJ6_getChars_ba4f3 103 = .ok (.bastore, 1) := by decide +kernel
theorem dJ6_getChars_ba4f3_104 : decode cJ6_getChars_ba4f3 104 = .ok (.iload 6, 2) := by decide +kernel
theorem dJ6_getChars_ba4f3_106 : decode cJ6_getChars_ba4f3 106 = .ok (.ifCond .eq 12, 3) := by decide +kernel
theorem dJ6_getChars_ba4f3_109 : decode cJ6_getChars_ba4f3 109 = .ok (.aload_n 2, 1) := by decide +kernel
theorem dJ6_getChars_ba4f3_110 : decode cJ6_getChars_ba4f3 110 = .ok (.iinc 5 (-1), 3) := by decide +kernel
theorem dJ6_getChars_ba4f3_113 : decode cJ6_getChars_ba4f3 113 = .ok (.iload 5, 2) := by decide +kernel
theorem dJ6_getChars_ba4f3_115 : decode cJ6_getChars_ba4f3 115 = .ok (.bipush 45, 2) := by decide +kernel
theorem dJ6_getChars_ba4f3_117 : decode cJ6_getChars_ba4f3 117 = .ok (.bastore, 1) := by decide +kernel
theorem dJ6_getChars_ba4f3_118 : decode cJ6_getChars_ba4f3 118 = .ok (.iload 5, 2) := by decide +kernel
theorem dJ6_getChars_ba4f3_120 : decode cJ6_getChars_ba4f3 120 = .ok (.ireturn, 1) := by decide +kernel
theorem dJ6_stringSize_0f7a4_0 : decode cJ6_stringSize_0f7a4 0 = .ok (.iconst 1, 1) := by decide +kernel
theorem dJ6_stringSize_0f7a4_1 : decode cJ6_stringSize_0f7a4 1 = .ok (.istore_n 1, 1) := by decide +kernel
theorem dJ6_stringSize_0f7a4_2 : decode cJ6_stringSize_0f7a4 2 = .ok (.iload_n 0, 1) := by decide +kernel
theorem dJ6_stringSize_0f7a4_3 : decode cJ6_stringSize_0f7a4 3 = .ok (.ifCond .lt 8, 3) := by decide +kernel
theorem dJ6_stringSize_0f7a4_6 : decode cJ6_stringSize_0f7a4 6 = .ok (.iconst 0, 1) := by decide +kernel
theorem dJ6_stringSize_0f7a4_7 : decode cJ6_stringSize_0f7a4 7 = .ok (.istore_n 1, 1) := by decide +kernel
theorem dJ6_stringSize_0f7a4_8 : decode cJ6_stringSize_0f7a4 8 = .ok (.iload_n 0, 1) := by decide +kernel
theorem dJ6_stringSize_0f7a4_9 : decode cJ6_stringSize_0f7a4 9 = .ok (.ineg, 1) := by decide +kernel
theorem dJ6_stringSize_0f7a4_10 : decode cJ6_stringSize_0f7a4 10 = .ok (.istore_n 0, 1) := by decide +kernel
theorem dJ6_stringSize_0f7a4_11 : decode cJ6_stringSize_0f7a4 11 = .ok (.bipush (-10), 2) := by decide +kernel
theorem dJ6_stringSize_0f7a4_13 : decode cJ6_stringSize_0f7a4 13 = .ok (.istore_n 2, 1) := by decide +kernel
theorem dJ6_stringSize_0f7a4_14 : decode cJ6_stringSize_0f7a4 14 = .ok (.iconst 1, 1) := by decide +kernel
theorem dJ6_stringSize_0f7a4_15 : decode cJ6_stringSize_0f7a4 15 = .ok (.istore_n 3, 1) := by decide +kernel
theorem dJ6_stringSize_0f7a4_16 : decode cJ6_stringSize_0f7a4 16 = .ok (.iload_n 3, 1) := by decide +kernel
theorem dJ6_stringSize_0f7a4_17 : decode cJ6_stringSize_0f7a4 17 = .ok (.bipush 10, 2) := by decide +kernel
theorem dJ6_stringSize_0f7a4_19 : decode cJ6_stringSize_0f7a4 19 = .ok (.if_icmp .ge 23, 3) := by decide +kernel
theorem dJ6_stringSize_0f7a4_22 : decode cJ6_stringSize_0f7a4 22 = .ok (.iload_n 0, 1) := by decide +kernel
theorem dJ6_stringSize_0f7a4_23 : decode cJ6_stringSize_0f7a4 23 = .ok (.iload_n 2, 1) := by decide +kernel
theorem dJ6_stringSize_0f7a4_24 : decode cJ6_stringSize_0f7a4 24 = .ok (.if_icmp .le 7, 3) := by decide +kernel
theorem dJ6_stringSize_0f7a4_27 : decode cJ6_stringSize_0f7a4 27 = .ok (.iload_n 3, 1) := by decide +kernel
theorem dJ6_stringSize_0f7a4_28 : decode cJ6_stringSize_0f7a4 28 = .ok (.iload_n 1, 1) := by decide +kernel
theorem dJ6_stringSize_0f7a4_29 : decode cJ6_stringSize_0f7a4 29 = .ok (.iadd, 1) := by decide +kernel
theorem dJ6_stringSize_0f7a4_30 : decode cJ6_stringSize_0f7a4 30 = .ok (.ireturn, 1) := by decide +kernel
theorem dJ6_stringSize_0f7a4_31 : decode cJ6_stringSize_0f7a4 31 = .ok (.bipush 10, 2) := by decide +kernel
theorem dJ6_stringSize_0f7a4_33 : decode cJ6_stringSize_0f7a4 33 = .ok (.iload_n 2, 1) := by decide +kernel
theorem dJ6_stringSize_0f7a4_34 : decode cJ6_stringSize_0f7a4 34 = .ok (.imul, 1) := by decide +kernel
theorem dJ6_stringSize_0f7a4_35 : decode cJ6_stringSize_0f7a4 35 = .ok (.istore_n 2, 1) := by decide +kernel
theorem dJ6_stringSize_0f7a4_36 : decode cJ6_stringSize_0f7a4 36 = .ok (.iinc 3 1, 3) := by decide +kernel
theorem dJ6_stringSize_0f7a4_39 : decode cJ6_stringSize_0f7a4 39 = .ok (.goto (-23), 3) := by decide +kernel
theorem dJ6_stringSize_0f7a4_42 : decode cJ6_stringSize_0f7a4 42 = .ok (.bipush 10, 2) := by decide +kernel
theorem dJ6_stringSize_0f7a4_44 : decode cJ6_stringSize_0f7a4 44 = .ok (.iload_n 1, 1) := by decide +kernel
theorem dJ6_stringSize_0f7a4_45 : decode cJ6_stringSize_0f7a4 45 = .ok (.iadd, 1) := by decide +kernel
theorem dJ6_stringSize_0f7a4_46 : decode cJ6_stringSize_0f7a4 46 = .ok (.ireturn, 1) := by decide +kernel
theorem dJ6_bitCount_0f7a4_0 : decode cJ6_bitCount_0f7a4 0 = .ok (.iload_n 0, 1) := by decide +kernel
theorem dJ6_bitCount_0f7a4_1 : decode cJ6_bitCount_0f7a4 1 = .ok (.iload_n 0, 1) := by decide +kernel
theorem dJ6_bitCount_0f7a4_2 : decode cJ6_bitCount_0f7a4 2 = .ok (.iconst 1, 1) := by decide +kernel
theorem dJ6_bitCount_0f7a4_3 : decode cJ6_bitCount_0f7a4 3 = .ok (.iushr, 1) := by decide +kernel
theorem dJ6_bitCount_0f7a4_4 : decode cJ6_bitCount_0f7a4 4 = .ok (.ldc_w 265, 3) := by decide +kernel
theorem dJ6_bitCount_0f7a4_7 : decode cJ6_bitCount_0f7a4 7 = .ok (.iand, 1) := by decide +kernel
theorem dJ6_bitCount_0f7a4_8 : decode cJ6_bitCount_0f7a4 8 = .ok (.isub, 1) := by decide +kernel
theorem dJ6_bitCount_0f7a4_9 : decode cJ6_bitCount_0f7a4 9 = .ok (.istore_n 0, 1) := by decide +kernel
theorem dJ6_bitCount_0f7a4_10 : decode cJ6_bitCount_0f7a4 10 = .ok (.iload_n 0, 1) := by decide +kernel
theorem dJ6_bitCount_0f7a4_11 : decode cJ6_bitCount_0f7a4 11 = .ok (.ldc_w 266, 3) := by decide +kernel
theorem dJ6_bitCount_0f7a4_14 : decode cJ6_bitCount_0f7a4 14 = .ok (.iand, 1) := by decide +kernel
theorem dJ6_bitCount_0f7a4_15 : decode cJ6_bitCount_0f7a4 15 = .ok (.iload_n 0, 1) := by decide +kernel
theorem dJ6_bitCount_0f7a4_16 : decode cJ6_bitCount_0f7a4 16 = .ok (.iconst 2, 1) := by decide +kernel
theorem dJ6_bitCount_0f7a4_17 : decode cJ6_bitCount_0f7a4 17 = .ok (.iushr, 1) := by decide +kernel
theorem dJ6_bitCount_0f7a4_18 : decode cJ6_bitCount_0f7a4 18 = .ok (.ldc_w 266, 3) := by decide +kernel
theorem dJ6_bitCount_0f7a4_21 : decode cJ6_bitCount_0f7a4 21 = .ok (.iand, 1) := by decide +kernel
theorem dJ6_bitCount_0f7a4_22 : decode cJ6_bitCount_0f7a4 22 = .ok (.iadd, 1) := by decide +kernel
theorem dJ6_bitCount_0f7a4_23 : decode cJ6_bitCount_0f7a4 23 = .ok (.istore_n 0, 1) := by decide +kernel
theorem dJ6_bitCount_0f7a4_24 : decode cJ6_bitCount_0f7a4 24 = .ok (.iload_n 0, 1) := by decide +kernel
theorem dJ6_bitCount_0f7a4_25 : decode cJ6_bitCount_0f7a4 25 = .ok (.iload_n 0, 1) := by decide +kernel
theorem dJ6_bitCount_0f7a4_26 : decode cJ6_bitCount_0f7a4 26 = .ok (.iconst 4, 1) := by decide +kernel
theorem dJ6_bitCount_0f7a4_27 : decode cJ6_bitCount_0f7a4 27 = .ok (.iushr, 1) := by decide +kernel
theorem dJ6_bitCount_0f7a4_28 : decode cJ6_bitCount_0f7a4 28 = .ok (.iadd, 1) := by decide +kernel
theorem dJ6_bitCount_0f7a4_29 : decode cJ6_bitCount_0f7a4 29 = .ok (.ldc_w 267, 3) := by decide +kernel
theorem dJ6_bitCount_0f7a4_32 : decode cJ6_bitCount_0f7a4 32 = .ok (.iand, 1) := by decide +kernel
theorem dJ6_bitCount_0f7a4_33 : decode cJ6_bitCount_0f7a4 33 = .ok (.istore_n 0, 1) := by decide +kernel
theorem dJ6_bitCount_0f7a4_34 : decode cJ6_bitCount_0f7a4 34 = .ok (.iload_n 0, 1) := by decide +kernel
theorem dJ6_bitCount_0f7a4_35 : decode cJ6_bitCount_0f7a4 35 = .ok (.iload_n 0, 1) := by decide +kernel
theorem dJ6_bitCount_0f7a4_36 : decode cJ6_bitCount_0f7a4 36 = .ok (.bipush 8, 2) := by decide +kernel
theorem dJ6_bitCount_0f7a4_38 : decode cJ6_bitCount_0f7a4 38 = .ok (.iushr, 1) := by decide +kernel
theorem dJ6_bitCount_0f7a4_39 : decode cJ6_bitCount_0f7a4 39 = .ok (.iadd, 1) := by decide +kernel
theorem dJ6_bitCount_0f7a4_40 : decode cJ6_bitCount_0f7a4 40 = .ok (.istore_n 0, 1) := by decide +kernel
theorem dJ6_bitCount_0f7a4_41 : decode cJ6_bitCount_0f7a4 41 = .ok (.iload_n 0, 1) := by decide +kernel
theorem dJ6_bitCount_0f7a4_42 : decode cJ6_bitCount_0f7a4 42 = .ok (.iload_n 0, 1) := by decide +kernel
theorem dJ6_bitCount_0f7a4_43 : decode cJ6_bitCount_0f7a4 43 = .ok (.bipush 16, 2) := by decide +kernel
theorem dJ6_bitCount_0f7a4_45 : decode cJ6_bitCount_0f7a4 45 = .ok (.iushr, 1) := by decide +kernel
theorem dJ6_bitCount_0f7a4_46 : decode cJ6_bitCount_0f7a4 46 = .ok (.iadd, 1) := by decide +kernel
theorem dJ6_bitCount_0f7a4_47 : decode cJ6_bitCount_0f7a4 47 = .ok (.istore_n 0, 1) := by decide +kernel
theorem dJ6_bitCount_0f7a4_48 : decode cJ6_bitCount_0f7a4 48 = .ok (.iload_n 0, 1) := by decide +kernel
theorem dJ6_bitCount_0f7a4_49 : decode cJ6_bitCount_0f7a4 49 = .ok (.bipush 63, 2) := by decide +kernel
theorem dJ6_bitCount_0f7a4_51 : decode cJ6_bitCount_0f7a4 51 = .ok (.iand, 1) := by decide +kernel
theorem dJ6_bitCount_0f7a4_52 : decode cJ6_bitCount_0f7a4 52 = .ok (.ireturn, 1) := by decide +kernel
theorem dJ9_floorMod_7cf53_0 : decode cJ9_floorMod_7cf53 0 = .ok (.iload_n 0, 1) := by decide +kernel
theorem dJ9_floorMod_7cf53_1 : decode cJ9_floorMod_7cf53 1 = .ok (.iload_n 1, 1) := by decide +kernel
theorem dJ9_floorMod_7cf53_2 : decode cJ9_floorMod_7cf53 2 = .ok (.irem, 1) := by decide +kernel
theorem dJ9_floorMod_7cf53_3 : decode cJ9_floorMod_7cf53 3 = .ok (.istore_n 2, 1) := by decide +kernel
theorem dJ9_floorMod_7cf53_4 : decode cJ9_floorMod_7cf53 4 = .ok (.iload_n 0, 1) := by decide +kernel
theorem dJ9_floorMod_7cf53_5 : decode cJ9_floorMod_7cf53 5 = .ok (.iload_n 1, 1) := by decide +kernel
theorem dJ9_floorMod_7cf53_6 : decode cJ9_floorMod_7cf53 6 = .ok (.ixor, 1) := by decide +kernel
theorem dJ9_floorMod_7cf53_7 : decode cJ9_floorMod_7cf53 7 = .ok (.ifCond .ge 11, 3) := by decide +kernel
theorem dJ9_floorMod_7cf53_10 : decode cJ9_floorMod_7cf53 10 = .ok (.iload_n 2, 1) := by decide +kernel
theorem dJ9_floorMod_7cf53_11 : decode cJ9_floorMod_7cf53 11 = .ok (.ifCond .eq 7, 3) := by decide +kernel
theorem dJ9_floorMod_7cf53_14 : decode cJ9_floorMod_7cf53 14 = .ok (.iload_n 2, 1) := by decide +kernel
theorem dJ9_floorMod_7cf53_15 : decode cJ9_floorMod_7cf53 15 = .ok (.iload_n 1, 1) := by decide +kernel
theorem dJ9_floorMod_7cf53_16 : decode cJ9_floorMod_7cf53 16 = .ok (.iadd, 1) := by decide +kernel
theorem dJ9_floorMod_7cf53_17 : decode cJ9_floorMod_7cf53 17 = .ok (.ireturn, 1) := by decide +kernel
theorem dJ9_floorMod_7cf53_18 : decode cJ9_floorMod_7cf53 18 = .ok (.iload_n 2, 1) := by decide +kernel
theorem dJ9_floorMod_7cf53_19 : decode cJ9_floorMod_7cf53 19 = .ok (.ireturn, 1) := by decide +kernel
theorem dJ9_max_7cf53_0 : decode cJ9_max_7cf53 0 = .ok (.iload_n 0, 1) := by decide +kernel
theorem dJ9_max_7cf53_1 : decode cJ9_max_7cf53 1 = .ok (.iload_n 1, 1) := by decide +kernel
theorem dJ9_max_7cf53_2 : decode cJ9_max_7cf53 2 = .ok (.if_icmp .lt 7, 3) := by decide +kernel
theorem dJ9_max_7cf53_5 : decode cJ9_max_7cf53 5 = .ok (.iload_n 0, 1) := by decide +kernel
theorem dJ9_max_7cf53_6 : decode cJ9_max_7cf53 6 = .ok (.goto 4, 3) := by decide +kernel
theorem dJ9_max_7cf53_9 : decode cJ9_max_7cf53 9 = .ok (.iload_n 1, 1) := by decide +kernel
theorem dJ9_max_7cf53_10 : decode cJ9_max_7cf53 10 = .ok (.ireturn, 1) := by decide +kernel
theorem dJ9_min_7cf53_0 : decode cJ9_min_7cf53 0 = .ok (.iload_n 0, 1) := by decide +kernel
theorem dJ9_min_7cf53_1 : decode cJ9_min_7cf53 1 = .ok (.iload_n 1, 1) := by decide +kernel
theorem dJ9_min_7cf53_2 : decode cJ9_min_7cf53 2 = .ok (.if_icmp .gt 7, 3) := by decide +kernel
theorem dJ9_min_7cf53_5 : decode cJ9_min_7cf53 5 = .ok (.iload_n 0, 1) := by decide +kernel
theorem dJ9_min_7cf53_6 : decode cJ9_min_7cf53 6 = .ok (.goto 4, 3) := by decide +kernel
theorem dJ9_min_7cf53_9 : decode cJ9_min_7cf53 9 = .ok (.iload_n 1, 1) := by decide +kernel
theorem dJ9_min_7cf53_10 : decode cJ9_min_7cf53 10 = .ok (.ireturn, 1) := by decide +kernel
theorem dJ0_init_81219_0 : decode cJ0_init_81219 0 = .ok (.aload_n 0, 1) := by decide +kernel
theorem dJ0_init_81219_1 : decode cJ0_init_81219 1 = .ok (.aload_n 1, 1) := by decide +kernel
theorem dJ0_init_81219_2 : decode cJ0_init_81219 2 = .ok (.aconst_null, 1) := by decide +kernel
theorem dJ0_init_81219_3 : decode cJ0_init_81219 3 = .ok (.invokespecial 489, 3) := by decide +kernel
theorem dJ0_init_81219_6 : decode cJ0_init_81219 6 = .ok (.return_, 1) := by decide +kernel
theorem dJ0_length_8abf5_0 : decode cJ0_length_8abf5 0 = .ok (.aload_n 0, 1) := by decide +kernel
theorem dJ0_length_8abf5_1 : decode cJ0_length_8abf5 1 = .ok (.getfield 9, 3) := by decide +kernel
theorem dJ0_length_8abf5_4 : decode cJ0_length_8abf5 4 = .ok (.arraylength, 1) := by decide +kernel
theorem dJ0_length_8abf5_5 : decode cJ0_length_8abf5 5 = .ok (.aload_n 0, 1) := by decide +kernel
theorem dJ0_length_8abf5_6 : decode cJ0_length_8abf5 6 = .ok (.invokevirtual 335, 3) := by decide +kernel
theorem dJ0_length_8abf5_9 : decode cJ0_length_8abf5 9 = .ok (.ishr, 1) := by decide +kernel
theorem dJ0_length_8abf5_10 : decode cJ0_length_8abf5 10 = .ok (.ireturn, 1) := by decide +kernel
theorem dJ0_charAt_5068e_0 : decode cJ0_charAt_5068e 0 = .ok (.aload_n 0, 1) := by decide +kernel
theorem dJ0_charAt_5068e_1 : decode cJ0_charAt_5068e 1 = .ok (.invokevirtual 492, 3) := by decide +kernel
theorem dJ0_charAt_5068e_4 : decode cJ0_charAt_5068e 4 = .ok (.ifCond .eq 12, 3) := by decide +kernel
theorem dJ0_charAt_5068e_7 : decode cJ0_charAt_5068e 7 = .ok (.aload_n 0, 1) := by decide +kernel
theorem dJ0_charAt_5068e_8 : decode cJ0_charAt_5068e 8 = .ok (.getfield 9, 3) := by decide +kernel
theorem dJ0_charAt_5068e_11 : decode cJ0_charAt_5068e 11 = .ok (.iload_n 1, 1) := by decide +kernel
theorem dJ0_charAt_5068e_12 : decode cJ0_charAt_5068e 12 = .ok (.invokestatic 495, 3) := by decide +kernel
theorem dJ0_charAt_5068e_15 : decode cJ0_charAt_5068e 15 = .ok (.ireturn, 1) := by decide +kernel
theorem dJ0_charAt_5068e_16 : decode cJ0_charAt_5068e 16 = .ok (.aload_n 0, 1) := by decide +kernel
theorem dJ0_charAt_5068e_17 : decode cJ0_charAt_5068e 17 = .ok (.getfield 9, 3) := by decide +kernel
theorem dJ0_charAt_5068e_20 : decode cJ0_charAt_5068e 20 = .ok (.iload_n 1, 1) := by decide +kernel
theorem dJ0_charAt_5068e_21 : decode cJ0_charAt_5068e 21 = .ok (.invokestatic 498, 3) := by decide +kernel
theorem dJ0_charAt_5068e_24 : decode cJ0_charAt_5068e 24 = .ok (.ireturn, 1) := by decide +kernel
theorem dJ0_getBytes_840e7_0 : decode cJ0_getBytes_840e7 0 = .ok (.aload_n 0, 1) := by decide +kernel
theorem dJ0_getBytes_840e7_1 : decode cJ0_getBytes_840e7 1 = .ok (.invokevirtual 335, 3) := by decide +kernel
theorem dJ0_getBytes_840e7_4 : decode cJ0_getBytes_840e7 4 = .ok (.iload_n 3, 1) := by decide +kernel
theorem dJ0_getBytes_840e7_5 : decode cJ0_getBytes_840e7 5 = .ok (.if_icmp .ne 23, 3) := by decide +kernel
theorem dJ0_getBytes_840e7_8 : decode cJ0_getBytes_840e7 8 = .ok (.aload_n 0, 1) := by decide +kernel
theorem dJ0_getBytes_840e7_9 : decode cJ0_getBytes_840e7 9 = .ok (.getfield 9, 3) := by decide +kernel
theorem dJ0_getBytes_840e7_12 : decode cJ0_getBytes_840e7 12 = .ok (.iconst 0, 1) := by decide +kernel
theorem dJ0_getBytes_840e7_13 : decode cJ0_getBytes_840e7 13 = .ok (.aload_n 1, 1) := by decide +kernel
theorem dJ0_getBytes_840e7_14 : decode cJ0_getBytes_840e7 14 = .ok (.iload_n 2, 1) := by decide +kernel
theorem dJ0_getBytes_840e7_15 : decode cJ0_getBytes_840e7 15 = .ok (.iload_n 3, 1) := by decide +kernel
theorem dJ0_getBytes_840e7_16 : decode cJ0_getBytes_840e7 16 = .ok (.ishl, 1) := by decide +kernel
theorem dJ0_getBytes_840e7_17 : decode cJ0_getBytes_840e7 17 = .ok (.aload_n 0, 1) := by decide +kernel
theorem dJ0_getBytes_840e7_18 : decode cJ0_getBytes_840e7 18 = .ok (.getfield 9, 3) := by decide +kernel
theorem dJ0_getBytes_840e7_21 : decode cJ0_getBytes_840e7 21 = .ok (.arraylength, 1) := by decide +kernel
theorem dJ0_getBytes_840e7_22 : decode cJ0_getBytes_840e7 22 = .ok (.invokestatic 212, 3) := by decide +kernel
theorem dJ0_getBytes_840e7_25 : decode cJ0_getBytes_840e7 25 = .ok (.goto 18, 3) := by decide +kernel
theorem dJ0_getBytes_840e7_28 : decode cJ0_getBytes_840e7 28 = .ok (.aload_n 0, 1) := by decide +kernel
theorem dJ0_getBytes_840e7_29 : decode cJ0_getBytes_840e7 29 = .ok (.getfield 9, 3) := by decide +kernel
theorem dJ0_getBytes_840e7_32 : decode cJ0_getBytes_840e7 32 = .ok (.iconst 0, 1) := by decide +kernel
theorem dJ0_getBytes_840e7_33 : decode cJ0_getBytes_840e7 33 = .ok (.aload_n 1, 1) := by decide +kernel
theorem dJ0_getBytes_840e7_34 : decode cJ0_getBytes_840e7 34 = .ok (.iload_n 2, 1) := by decide +kernel
theorem dJ0_getBytes_840e7_35 : decode cJ0_getBytes_840e7 35 = .ok (.aload_n 0, 1) := by decide +kernel
theorem dJ0_getBytes_840e7_36 : decode cJ0_getBytes_840e7 36 = .ok (.getfield 9, 3) := by decide +kernel
theorem dJ0_getBytes_840e7_39 : decode cJ0_getBytes_840e7 39 = .ok (.arraylength, 1) := by decide +kernel
theorem dJ0_getBytes_840e7_40 : decode cJ0_getBytes_840e7 40 = .ok (.invokestatic 106, 3) := by decide +kernel
theorem dJ0_getBytes_840e7_43 : decode cJ0_getBytes_840e7 43 = .ok (.return_, 1) := by decide +kernel
theorem dJ0_init_db425_0 : decode cJ0_init_db425 0 = .ok (.aload_n 0, 1) := by decide +kernel
theorem dJ0_init_db425_1 : decode cJ0_init_db425 1 = .ok (.invokespecial 1, 3) := by decide +kernel
theorem dJ0_init_db425_4 : decode cJ0_init_db425 4 = .ok (.aload_n 1, 1) := by decide +kernel
theorem dJ0_init_db425_5 : decode cJ0_init_db425 5 = .ok (.invokevirtual 552, 3) := by decide +kernel
theorem dJ0_init_db425_8 : decode cJ0_init_db425 8 = .ok (.astore_n 3, 1) := by decide +kernel
theorem dJ0_init_db425_9 : decode cJ0_init_db425 9 = .ok (.aload_n 1, 1) := by decide +kernel
theorem dJ0_init_db425_10 : decode cJ0_init_db425 10 = .ok (.invokevirtual 549, 3) := by decide +kernel
theorem dJ0_init_db425_13 : decode cJ0_init_db425 13 = .ok (.istore 4, 2) := by decide +kernel
theorem dJ0_init_db425_15 : decode cJ0_init_db425 15 = .ok (.aload_n 1, 1) := by decide +kernel
theorem dJ0_init_db425_16 : decode cJ0_init_db425 16 = .ok (.invokevirtual 1047, 3) := by decide +kernel
theorem dJ0_init_db425_19 : decode cJ0_init_db425 19 = .ok (.ifCond .eq 22, 3) := by decide +kernel
theorem dJ0_init_db425_22 : decode cJ0_init_db425 22 = .ok (.aload_n 0, 1) := by decide +kernel
theorem dJ0_init_db425_23 : decode cJ0_init_db425 23 = .ok (.iconst 0, 1) := by decide +kernel
theorem dJ0_init_db425_24 : decode cJ0_init_db425 24 = .ok (.putfield 15, 3) := by decide +kernel
theorem dJ0_init_db425_27 : decode cJ0_init_db425 27 = .ok (.aload_n 0, 1) := by decide +kernel
theorem dJ0_init_db425_28 : decode cJ0_init_db425 28 = .ok (.aload_n 3, 1) := by decide +kernel
theorem dJ0_init_db425_29 : decode cJ0_init_db425 29 = .ok (.iconst 0, 1) := by decide +kernel
theorem dJ0_init_db425_30 : decode cJ0_init_db425 30 = .ok (.iload 4, 2) := by decide +kernel
theorem dJ0_init_db425_32 : decode cJ0_init_db425 32 = .ok (.invokestatic 54, 3) := by decide +kernel
theorem dJ0_init_db425_35 : decode cJ0_init_db425 35 = .ok (.putfield 9, 3) := by decide +kernel
theorem dJ0_init_db425_38 : decode cJ0_init_db425 38 = .ok (.goto 59, 3) := by decide +kernel
theorem dJ0_init_db425_41 : decode cJ0_init_db425 41 = .ok (.getstatic 38, 3) := by decide +kernel
theorem dJ0_init_db425_44 : decode cJ0_init_db425 44 = .ok (.ifCond .eq 35, 3) := by decide +kernel
theorem dJ0_init_db425_47 : decode cJ0_init_db425 47 = .ok (.aload_n 1, 1) := by decide +kernel
theorem dJ0_init_db425_48 : decode cJ0_init_db425 48 = .ok (.getfield 1048, 3) := by decide +kernel
theorem dJ0_init_db425_51 : decode cJ0_init_db425 51 = .ok (.ifCond .eq 28, 3) := by decide +kernel
theorem dJ0_init_db425_54 : decode cJ0_init_db425 54 = .ok (.aload_n 0, 1) := by decide +kernel
theorem dJ0_init_db425_55 : decode cJ0_init_db425 55 = .ok (.aload_n 3, 1) := by decide +kernel
theorem dJ0_init_db425_56 : decode cJ0_init_db425 56 = .ok (.iconst 0, 1) := by decide +kernel
theorem dJ0_init_db425_57 : decode cJ0_init_db425 57 = .ok (.iload 4, 2) := by decide +kernel
theorem dJ0_init_db425_59 : decode cJ0_init_db425 59 = .ok (.invokestatic 1051, 3) := by decide +kernel
theorem dJ0_init_db425_62 : decode cJ0_init_db425 62 = .ok (.putfield 9, 3) := by decide +kernel
theorem dJ0_init_db425_65 : decode cJ0_init_db425 65 = .ok (.aload_n 0, 1) := by decide +kernel
theorem dJ0_init_db425_66 : decode cJ0_init_db425 66 = .ok (.aload_n 0, 1) := by decide +kernel
theorem dJ0_init_db425_67 : decode cJ0_init_db425 67 = .ok (.getfield 9, 3) := by decide +kernel
theorem dJ0_init_db425_70 : decode cJ0_init_db425 70 = .ok (.iload 4, 2) := by decide +kernel
theorem dJ0_init_db425_72 : decode cJ0_init_db425 72 = .ok (.invokestatic 47, 3) := by decide +kernel
theorem dJ0_init_db425_75 : decode cJ0_init_db425 75 = .ok (.putfield 15, 3) := by decide +kernel
theorem dJ0_init_db425_78 : decode cJ0_init_db425 78 = .ok (.return_, 1) := by decide +kernel
theorem dJ0_init_db425_79 : decode cJ0_init_db425 79 = .ok (.aload_n 0, 1) := by decide +kernel
theorem dJ0_init_db425_80 : decode cJ0_init_db425 80 = .ok (.iconst 1, 1) := by decide +kernel
theorem dJ0_init_db425_81 : decode cJ0_init_db425 81 = .ok (.putfield 15, 3) := by decide +kernel
theorem dJ0_init_db425_84 : decode cJ0_init_db425 84 = .ok (.aload_n 0, 1) := by decide +kernel
theorem dJ0_init_db425_85 : decode cJ0_init_db425 85 = .ok (.aload_n 3, 1) := by decide +kernel
theorem dJ0_init_db425_86 : decode cJ0_init_db425 86 = .ok (.iconst 0, 1) := by decide +kernel
theorem dJ0_init_db425_87 : decode cJ0_init_db425 87 = .ok (.iload 4, 2) := by decide +kernel
theorem dJ0_init_db425_89 : decode cJ0_init_db425 89 = .ok (.iconst 1, 1) := by decide +kernel
theorem dJ0_init_db425_90 : decode cJ0_init_db425 90 = .ok (.ishl, 1) := by decide +kernel
theorem dJ0_init_db425_91 : decode cJ0_init_db425 91 = .ok (.invokestatic 54, 3) := by decide +kernel
theorem dJ0_init_db425_94 : decode cJ0_init_db425 94 = .ok (.putfield 9, 3) := by decide +kernel
theorem dJ0_init_db425_97 : decode cJ0_init_db425 97 = .ok (.return_, 1) := by decide +kernel
theorem dJ0_coder_7d493_0 : decode cJ0_coder_7d493 0 = .ok (.getstatic 38, 3) := by decide +kernel
theorem dJ0_coder_7d493_3 : decode cJ0_coder_7d493 3 = .ok (.ifCond .eq 10, 3) := by decide +kernel
theorem dJ0_coder_7d493_6 : decode cJ0_coder_7d493 6 = .ok (.aload_n 0, 1) := by decide +kernel
theorem dJ0_coder_7d493_7 : decode cJ0_coder_7d493 7 = .ok (.getfield 15, 3) := by decide +kernel
theorem dJ0_coder_7d493_10 : decode cJ0_coder_7d493 10 = .ok (.goto 4, 3) := by decide +kernel
theorem dJ0_coder_7d493_13 : decode cJ0_coder_7d493 13 = .ok (.iconst 1, 1) := by decide +kernel
theorem dJ0_coder_7d493_14 : decode cJ0_coder_7d493 14 = .ok (.ireturn, 1) := by decide +kernel
theorem dJ0_isLatin1_aae02_0 : decode cJ0_isLatin1_aae02 0 = .ok (.getstatic 38, 3) := by decide +kernel
theorem dJ0_isLatin1_aae02_3 : decode cJ0_isLatin1_aae02 3 = .ok (.ifCond .eq 14, 3) := by decide +kernel
theorem dJ0_isLatin1_aae02_6 : decode cJ0_isLatin1_aae02 6 = .ok (.aload_n 0, 1) := by decide +kernel
theorem dJ0_isLatin1_aae02_7 : decode cJ0_isLatin1_aae02 7 = .ok (.getfield 15, 3) := by decide +kernel
theorem dJ0_isLatin1_aae02_10 : decode cJ0_isLatin1_aae02 10 = .ok (.ifCond .ne 7, 3) := by decide +kernel
theorem dJ0_isLatin1_aae02_13 : decode cJ0_isLatin1_aae02 13 = .ok (.iconst 1, 1) := by decide +kernel
theorem dJ0_isLatin1_aae02_14 : decode cJ0_isLatin1_aae02 14 = .ok (.goto 4, 3) := by decide +kernel
theorem dJ0_isLatin1_aae02_17 : decode cJ0_isLatin1_aae02 17 = .ok (.iconst 0, 1) := by decide +kernel
theorem dJ0_isLatin1_aae02_18 : decode cJ0_isLatin1_aae02 18 = .ok (.ireturn, 1) := by decide +kernel
theorem dJ0_checkIndex_df160_0 : decode cJ0_checkIndex_df160 0 = .ok (.iload_n 0, 1) := by decide +kernel
theorem dJ0_checkIndex_df160_1 : decode cJ0_checkIndex_df160 1 = .ok (.iload_n 1, 1) := by decide +kernel
theorem dJ0_checkIndex_df160_2 : decode cJ0_checkIndex_df160 2 = .ok (.getstatic 1053, 3) := by decide +kernel
theorem dJ0_checkIndex_df160_5 : decode cJ0_checkIndex_df160 5 = .ok (.invokestatic 1059, 3) := by decide +kernel
theorem dJ0_checkIndex_df160_8 : decode cJ0_checkIndex_df160 8 = .ok (.pop, 1) := by decide +kernel
theorem dJ0_checkIndex_df160_9 : decode cJ0_checkIndex_df160 9 = .ok (.return_, 1) := by decide +kernel
theorem dJ0_checkBoundsOffCount_cabcc_0 : decode cJ0_checkBoundsOffCount_cabcc 0 = .ok (.iload_n 0, 1) := by decide +kernel
theorem dJ0_checkBoundsOffCount_cabcc_1 : decode cJ0_checkBoundsOffCount_cabcc 1 = .ok (.iload_n 1, 1) := by decide +kernel
theorem dJ0_checkBoundsOffCount_cabcc_2 : decode cJ0_checkBoundsOffCount_cabcc 2 = .ok (.iload_n 2, 1) := by decide +kernel
theorem dJ0_checkBoundsOffCount_cabcc_3 : decode cJ0_checkBoundsOffCount_cabcc 3 = .ok (.getstatic 1053, 3) := by decide +kernel
theorem dJ0_checkBoundsOffCount_cabcc_6 : decode cJ0_checkBoundsOffCount_cabcc 6 = .ok (.invokestatic 1065, 3) := by decide +kernel
theorem dJ0_checkBoundsOffCount_cabcc_9 : decode cJ0_checkBoundsOffCount_cabcc 9 = .ok (.ireturn, 1) := by decide +kernel
theorem dJ0_checkBoundsBeginEnd_23922_0 : decode cJ0_checkBoundsBeginEnd_23922 0 = .ok (.iload_n 0, 1) := by decide +kernel
theorem dJ0_checkBoundsBeginEnd_23922_1 : decode cJ0_checkBoundsBeginEnd_23922 1 = .ok (.iload_n 1, 1) := by decide +kernel
theorem dJ0_checkBoundsBeginEnd_23922_2 : decode cJ0_checkBoundsBeginEnd_23922 2 = .ok (.iload_n 2, 1) := by decide +kernel
theorem dJ0_checkBoundsBeginEnd_23922_3 : decode cJ0_checkBoundsBeginEnd_23922 3 = .ok (.getstatic 1053, 3) := by decide +kernel
theorem dJ0_checkBoundsBeginEnd_23922_6 : decode cJ0_checkBoundsBeginEnd_23922 6 = .ok (.invokestatic 1062, 3) := by decide +kernel
theorem dJ0_checkBoundsBeginEnd_23922_9 : decode cJ0_checkBoundsBeginEnd_23922 9 = .ok (.pop, 1) := by decide +kernel
theorem dJ0_checkBoundsBeginEnd_23922_10 : decode cJ0_checkBoundsBeginEnd_23922 10 = .ok (.return_, 1) := by decide +kernel
theorem dJ4_init_da8c8_0 : decode cJ4_init_da8c8 0 = .ok (.aload_n 0, 1) := by decide +kernel
theorem dJ4_init_da8c8_1 : decode cJ4_init_da8c8 1 = .ok (.bipush 16, 2) := by decide +kernel
theorem dJ4_init_da8c8_3 : decode cJ4_init_da8c8 3 = .ok (.invokespecial 1, 3) := by decide +kernel
theorem dJ4_init_da8c8_6 : decode cJ4_init_da8c8 6 = .ok (.return_, 1) := by decide +kernel
theorem dJ4_append_15ec4_0 : decode cJ4_append_15ec4 0 = .ok (.aload_n 0, 1) := by decide +kernel
theorem dJ4_append_15ec4_1 : decode cJ4_append_15ec4 1 = .ok (.aload_n 1, 1) := by decide +kernel
theorem dJ4_append_15ec4_2 : decode cJ4_append_15ec4 2 = .ok (.invokespecial 29, 3) := by decide +kernel
theorem dJ4_append_15ec4_5 : decode cJ4_append_15ec4 5 = .ok (.pop, 1) := by decide +kernel
theorem dJ4_append_15ec4_6 : decode cJ4_append_15ec4 6 = .ok (.aload_n 0, 1) := by decide +kernel
theorem dJ4_append_15ec4_7 : decode cJ4_append_15ec4 7 = .ok (.areturn, 1) := by decide +kernel
theorem dJ4_append_cf468_0 : decode cJ4_append_cf468 0 = .ok (.aload_n 0, 1) := by decide +kernel
theorem dJ4_append_cf468_1 : decode cJ4_append_cf468 1 = .ok (.iload_n 1, 1) := by decide +kernel
theorem dJ4_append_cf468_2 : decode cJ4_append_cf468 2 = .ok (.invokespecial 50, 3) := by decide +kernel
theorem dJ4_append_cf468_5 : decode cJ4_append_cf468 5 = .ok (.pop, 1) := by decide +kernel
theorem dJ4_append_cf468_6 : decode cJ4_append_cf468 6 = .ok (.aload_n 0, 1) := by decide +kernel
theorem dJ4_append_cf468_7 : decode cJ4_append_cf468 7 = .ok (.areturn, 1) := by decide +kernel
theorem dJ4_append_bf812_0 : decode cJ4_append_bf812 0 = .ok (.aload_n 0, 1) := by decide +kernel
theorem dJ4_append_bf812_1 : decode cJ4_append_bf812 1 = .ok (.iload_n 1, 1) := by decide +kernel
theorem dJ4_append_bf812_2 : decode cJ4_append_bf812 2 = .ok (.invokespecial 53, 3) := by decide +kernel
theorem dJ4_append_bf812_5 : decode cJ4_append_bf812 5 = .ok (.pop, 1) := by decide +kernel
theorem dJ4_append_bf812_6 : decode cJ4_append_bf812 6 = .ok (.aload_n 0, 1) := by decide +kernel
theorem dJ4_append_bf812_7 : decode cJ4_append_bf812 7 = .ok (.areturn, 1) := by decide +kernel
theorem dJ4_toString_0e30d_0 : decode cJ4_toString_0e30d 0 = .ok (.new 18, 3) := by decide +kernel
theorem dJ4_toString_0e30d_3 : decode cJ4_toString_0e30d 3 = .ok (.dup, 1) := by decide +kernel
theorem dJ4_toString_0e30d_4 : decode cJ4_toString_0e30d 4 = .ok (.aload_n 0, 1) := by decide +kernel
theorem dJ4_toString_0e30d_5 : decode cJ4_toString_0e30d 5 = .ok (.invokespecial 137, 3) := by decide +kernel
theorem dJ4_toString_0e30d_8 : decode cJ4_toString_0e30d 8 = .ok (.areturn, 1) := by decide +kernel
theorem dJ4_length_8abf5_0 : decode cJ4_length_8abf5 0 = .ok (.aload_n 0, 1) := by decide +kernel
theorem dJ4_length_8abf5_1 : decode cJ4_length_8abf5 1 = .ok (.invokespecial 343, 3) := by decide +kernel
theorem dJ4_length_8abf5_4 : decode cJ4_length_8abf5 4 = .ok (.ireturn, 1) := by decide +kernel
theorem dJ1_charAt_3b067_0 : decode cJ1_charAt_3b067 0 = .ok (.iload_n 1, 1) := by decide +kernel
theorem dJ1_charAt_3b067_1 : decode cJ1_charAt_3b067 1 = .ok (.aload_n 0, 1) := by decide +kernel
theorem dJ1_charAt_3b067_2 : decode cJ1_charAt_3b067 2 = .ok (.arraylength, 1) := by decide +kernel
theorem dJ1_charAt_3b067_3 : decode cJ1_charAt_3b067 3 = .ok (.invokestatic 9, 3) := by decide +kernel
theorem dJ1_charAt_3b067_6 : decode cJ1_charAt_3b067 6 = .ok (.aload_n 0, 1) := by decide +kernel
theorem dJ1_charAt_3b067_7 : decode cJ1_charAt_3b067 7 = .ok (.iload_n 1, 1) := by decide +kernel
theorem dJ1_charAt_3b067_8 : decode cJ1_charAt_3b067 8 = .ok (.baload, 1) := by decide +kernel
theorem dJ1_charAt_3b067_9 : decode cJ1_charAt_3b067 9 = .ok (.sipush 255, 3) := by decide +kernel
theorem dJ1_charAt_3b067_12 : decode cJ1_charAt_3b067 12 = .ok (.iand, 1) := by decide +kernel
theorem dJ1_charAt_3b067_13 : decode cJ1_charAt_3b067 13 = .ok (.i2c, 1) := by decide +kernel
theorem dJ1_charAt_3b067_14 : decode cJ1_charAt_3b067 14 = .ok (.ireturn, 1) := by decide +kernel
theorem dJ1_canEncode_fc78d_0 : decode cJ1_canEncode_fc78d 0 = .ok (.iload_n 0, 1) := by decide +kernel
theorem dJ1_canEncode_fc78d_1 : decode cJ1_canEncode_fc78d 1 = .ok (.sipush 255, 3) := by decide +kernel
theorem dJ1_canEncode_fc78d_4 : decode cJ1_canEncode_fc78d 4 = .ok (.if_icmp .gt 7, 3) := by decide +kernel
theorem dJ1_canEncode_fc78d_7 : decode cJ1_canEncode_fc78d 7 = .ok (.iconst 1, 1) := by decide +kernel
theorem dJ1_canEncode_fc78d_8 : decode cJ1_canEncode_fc78d 8 = .ok (.goto 4, 3) := by decide +kernel
theorem dJ1_canEncode_fc78d_11 : decode cJ1_canEncode_fc78d 11 = .ok (.iconst 0, 1) := by decide +kernel
theorem dJ1_canEncode_fc78d_12 : decode cJ1_canEncode_fc78d 12 = .ok (.ireturn, 1) := by decide +kernel
theorem dJ1_inflate_0e8fd_0 : decode cJ1_inflate_0e8fd 0 = .ok (.aload_n 0, 1) := by decide +kernel
theorem dJ1_inflate_0e8fd_1 : decode cJ1_inflate_0e8fd 1 = .ok (.iload_n 1, 1) := by decide +kernel
theorem dJ1_inflate_0e8fd_2 : decode cJ1_inflate_0e8fd 2 = .ok (.aload_n 2, 1) := by decide +kernel
theorem dJ1_inflate_0e8fd_3 : decode cJ1_inflate_0e8fd 3 = .ok (.iload_n 3, 1) := by decide +kernel
theorem dJ1_inflate_0e8fd_4 : decode cJ1_inflate_0e8fd 4 = .ok (.iload 4, 2) := by decide +kernel
theorem dJ1_inflate_0e8fd_6 : decode cJ1_inflate_0e8fd 6 = .ok (.invokestatic 240, 3) := by decide +kernel
theorem dJ1_inflate_0e8fd_9 : decode cJ1_inflate_0e8fd 9 = .ok (.return_, 1) := by decide +kernel
theorem dJ2_newBytesFor_77867_0 : decode cJ2_newBytesFor_77867 0 = .ok (.iload_n 0, 1) := by decide +kernel
theorem dJ2_newBytesFor_77867_1 : decode cJ2_newBytesFor_77867 1 = .ok (.invokestatic 11, 3) := by decide +kernel
theorem dJ2_newBytesFor_77867_4 : decode cJ2_newBytesFor_77867 4 = .ok (.newarray .byte, 2) := by decide +kernel
theorem dJ2_newBytesFor_77867_6 : decode cJ2_newBytesFor_77867 6 = .ok (.areturn, 1) := by decide +kernel
theorem dJ2_newBytesLength_0f7a4_0 : decode cJ2_newBytesLength_0f7a4 0 = .ok (.iload_n 0, 1) := by decide +kernel
theorem dJ2_newBytesLength_0f7a4_1 : decode cJ2_newBytesLength_0f7a4 1 = .ok (.ifCond .ge 11, 3) := by decide +kernel
theorem dJ2_newBytesLength_0f7a4_4 : decode cJ2_newBytesLength_0f7a4 4 = .ok (.new 17, 3) := by decide +kernel
theorem dJ2_newBytesLength_0f7a4_7 : decode cJ2_newBytesLength_0f7a4 7 = .ok (.dup, 1) := by decide +kernel
theorem dJ2_newBytesLength_0f7a4_8 : decode cJ2_newBytesLength_0f7a4 8 = .ok (.invokespecial 19, 3) := by decide +kernel
theorem dJ2_newBytesLength_0f7a4_11 : decode cJ2_newBytesLength_0f7a4 11 = .ok (.athrow, 1) := by decide +kernel
theorem dJ2_newBytesLength_0f7a4_12 : decode cJ2_newBytesLength_0f7a4 12 = .ok (.iload_n 0, 1) := by decide +kernel
theorem dJ2_newBytesLength_0f7a4_13 : decode cJ2_newBytesLength_0f7a4 13 = .ok (.ldc 20, 2) := by decide +kernel
theorem dJ2_newBytesLength_0f7a4_15 : decode cJ2_newBytesLength_0f7a4 15 = .ok (.if_icmp .lt 40, 3) := by decide +kernel
theorem dJ2_newBytesLength_0f7a4_18 : decode cJ2_newBytesLength_0f7a4 18 = .ok (.new 21, 3) := by decide +kernel
theorem dJ2_newBytesLength_0f7a4_21 : decode cJ2_newBytesLength_0f7a4 21 = .ok (.dup, 1) := by decide +kernel
theorem dJ2_newBytesLength_0f7a4_22 : decode cJ2_newBytesLength_0f7a4 22 = .ok (.new 23, 3) := by decide +kernel
theorem dJ2_newBytesLength_0f7a4_25 : decode cJ2_newBytesLength_0f7a4 25 = .ok (.dup, 1) := by decide +kernel
theorem dJ2_newBytesLength_0f7a4_26 : decode cJ2_newBytesLength_0f7a4 26 = .ok (.invokespecial 25, 3) := by decide +kernel
theorem dJ2_newBytesLength_0f7a4_29 : decode cJ2_newBytesLength_0f7a4 29 = .ok (.ldc 26, 2) := by decide +kernel
theorem dJ2_newBytesLength_0f7a4_31 : decode cJ2_newBytesLength_0f7a4 31 = .ok (.invokevirtual 28, 3) := by decide +kernel
theorem dJ2_newBytesLength_0f7a4_34 : decode cJ2_newBytesLength_0f7a4 34 = .ok (.iload_n 0, 1) := by decide +kernel
theorem dJ2_newBytesLength_0f7a4_35 : decode cJ2_newBytesLength_0f7a4 35 = .ok (.invokevirtual 32, 3) := by decide +kernel
theorem dJ2_newBytesLength_0f7a4_38 : decode cJ2_newBytesLength_0f7a4 38 = .ok (.ldc 35, 2) := by decide +kernel
theorem dJ2_newBytesLength_0f7a4_40 : decode cJ2_newBytesLength_0f7a4 40 = .ok (.invokevirtual 28, 3) := by decide +kernel
theorem dJ2_newBytesLength_0f7a4_43 : decode cJ2_newBytesLength_0f7a4 43 = .ok (.ldc 20, 2) := by decide +kernel
theorem dJ2_newBytesLength_0f7a4_45 : decode cJ2_newBytesLength_0f7a4 45 = .ok (.invokevirtual 32, 3) := by decide +kernel
theorem dJ2_newBytesLength_0f7a4_48 : decode cJ2_newBytesLength_0f7a4 48 = .ok (.invokevirtual 37, 3) := by decide +kernel
theorem dJ2_newBytesLength_0f7a4_51 : decode cJ2_newBytesLength_0f7a4 51 = .ok (.invokespecial 41, 3) := by decide +kernel
theorem dJ2_newBytesLength_0f7a4_54 : decode cJ2_newBytesLength_0f7a4 54 = .ok (.athrow, 1) := by decide +kernel
theorem dJ2_newBytesLength_0f7a4_55 : decode cJ2_newBytesLength_0f7a4 55 = .ok (.iload_n 0, 1) := by decide +kernel
theorem dJ2_newBytesLength_0f7a4_56 : decode cJ2_newBytesLength_0f7a4 56 = .ok (.iconst 1, 1) := by decide +kernel
theorem dJ2_newBytesLength_0f7a4_57 : decode cJ2_newBytesLength_0f7a4 57 = .ok (.ishl, 1) := by decide +kernel
theorem dJ2_newBytesLength_0f7a4_58 : decode cJ2_newBytesLength_0f7a4 58 = .ok (.ireturn, 1) := by decide +kernel
theorem dJ2_putChar_b72d1_0 : decode cJ2_putChar_b72d1 0 = .ok (.getstatic 44, 3) := by decide +kernel
theorem dJ2_putChar_b72d1_3 : decode cJ2_putChar_b72d1 3 = .ok (.ifCond .ne 25, 3) := by decide +kernel
theorem dJ2_putChar_b72d1_6 : decode cJ2_putChar_b72d1 6 = .ok (.iload_n 1, 1) := by decide +kernel
theorem dJ2_putChar_b72d1_7 : decode cJ2_putChar_b72d1 7 = .ok (.ifCond .lt 11, 3) := by decide +kernel
theorem dJ2_putChar_b72d1_10 : decode cJ2_putChar_b72d1 10 = .ok (.iload_n 1, 1) := by decide +kernel
theorem dJ2_putChar_b72d1_11 : decode cJ2_putChar_b72d1 11 = .ok (.aload_n 0, 1) := by decide +kernel
theorem dJ2_putChar_b72d1_12 : decode cJ2_putChar_b72d1 12 = .ok (.invokestatic 48, 3) := by decide +kernel
theorem dJ2_putChar_b72d1_15 : decode cJ2_putChar_b72d1 15 = .ok (.if_icmp .lt 13, 3) := by decide +kernel
theorem dJ2_putChar_b72d1_18 : decode cJ2_putChar_b72d1 18 = .ok (.new 52, 3) := by decide +kernel
theorem dJ2_putChar_b72d1_21 : decode cJ2_putChar_b72d1 21 = .ok (.dup, 1) := by decide +kernel
theorem dJ2_putChar_b72d1_22 : decode cJ2_putChar_b72d1 22 = .ok (.ldc 54, 2) := by decide +kernel
theorem dJ2_putChar_b72d1_24 : decode cJ2_putChar_b72d1 24 = .ok (.invokespecial 56, 3) := by decide +kernel
theorem dJ2_putChar_b72d1_27 : decode cJ2_putChar_b72d1 27 = .ok (.athrow, 1) := by decide +kernel
theorem dJ2_putChar_b72d1_28 : decode cJ2_putChar_b72d1 28 = .ok (.iload_n 1, 1) := by decide +kernel
theorem dJ2_putChar_b72d1_29 : decode cJ2_putChar_b72d1 29 = .ok (.iconst 1, 1) := by decide +kernel
theorem dJ2_putChar_b72d1_30 : decode cJ2_putChar_b72d1 30 = .ok (.ishl, 1) := by decide +kernel
theorem dJ2_putChar_b72d1_31 : decode cJ2_putChar_b72d1 31 = .ok (.istore_n 1, 1) := by decide +kernel
theorem dJ2_putChar_b72d1_32 : decode cJ2_putChar_b72d1 32 = .ok (.aload_n 0, 1) := by decide +kernel
theorem dJ2_putChar_b72d1_33 : decode cJ2_putChar_b72d1 33 = .ok (.iload_n 1, 1) := by decide +kernel
theorem dJ2_putChar_b72d1_34 : decode cJ2_putChar_b72d1 34 = .ok (.iinc 1 1, 3) := by decide +kernel
theorem dJ2_putChar_b72d1_37 : decode cJ2_putChar_b72d1 37 = .ok (.iload_n 2, 1) := by decide +kernel
theorem dJ2_putChar_b72d1_38 : decode cJ2_putChar_b72d1 38 = .ok (.getstatic 59, 3) := by decide +kernel
theorem dJ2_putChar_b72d1_41 : decode cJ2_putChar_b72d1 41 = .ok (.ishr, 1) := by decide +kernel
theorem dJ2_putChar_b72d1_42 : decode cJ2_putChar_b72d1 42 = .ok (.i2b, 1) := by decide +kernel
theorem dJ2_putChar_b72d1_43 : decode cJ2_putChar_b72d1 43 = .ok (.bastore, 1) := by decide +kernel
theorem dJ2_putChar_b72d1_44 : decode cJ2_putChar_b72d1 44 = .ok (.aload_n 0, 1) := by decide +kernel
theorem dJ2_putChar_b72d1_45 : decode cJ2_putChar_b72d1 45 = .ok (.iload_n 1, 1) := by decide +kernel
theorem dJ2_putChar_b72d1_46 : decode cJ2_putChar_b72d1 46 = .ok (.iload_n 2, 1) := by decide +kernel
theorem dJ2_putChar_b72d1_47 : decode cJ2_putChar_b72d1 47 = .ok (.getstatic 63, 3) := by decide +kernel
theorem dJ2_putChar_b72d1_50 : decode cJ2_putChar_b72d1 50 = .ok (.ishr, 1) := by decide +kernel
theorem dJ2_putChar_b72d1_51 : decode cJ2_putChar_b72d1 51 = .ok (.i2b, 1) := by decide +kernel
theorem dJ2_putChar_b72d1_52 : decode cJ2_putChar_b72d1 52 = .ok (.bastore, 1) := by decide +kernel
theorem dJ2_putChar_b72d1_53 : decode cJ2_putChar_b72d1 53 = .ok (.return_, 1) := by decide +kernel
theorem dJ2_getChar_3b067_0 : decode cJ2_getChar_3b067 0 = .ok (.getstatic 44, 3) := by decide +kernel
theorem dJ2_getChar_3b067_3 : decode cJ2_getChar_3b067 3 = .ok (.ifCond .ne 25, 3) := by decide +kernel
theorem dJ2_getChar_3b067_6 : decode cJ2_getChar_3b067 6 = .ok (.iload_n 1, 1) := by decide +kernel
theorem dJ2_getChar_3b067_7 : decode cJ2_getChar_3b067 7 = .ok (.ifCond .lt 11, 3) := by decide +kernel
theorem dJ2_getChar_3b067_10 : decode cJ2_getChar_3b067 10 = .ok (.iload_n 1, 1) := by decide +kernel
theorem dJ2_getChar_3b067_11 : decode cJ2_getChar_3b067 11 = .ok (.aload_n 0, 1) := by decide +kernel
theorem dJ2_getChar_3b067_12 : decode cJ2_getChar_3b067 12 = .ok (.invokestatic 48, 3) := by decide +kernel
theorem dJ2_getChar_3b067_15 : decode cJ2_getChar_3b067 15 = .ok (.if_icmp .lt 13, 3) := by decide +kernel
theorem dJ2_getChar_3b067_18 : decode cJ2_getChar_3b067 18 = .ok (.new 52, 3) := by decide +kernel
theorem dJ2_getChar_3b067_21 : decode cJ2_getChar_3b067 21 = .ok (.dup, 1) := by decide +kernel
theorem dJ2_getChar_3b067_22 : decode cJ2_getChar_3b067 22 = .ok (.ldc 54, 2) := by decide +kernel
theorem dJ2_getChar_3b067_24 : decode cJ2_getChar_3b067 24 = .ok (.invokespecial 56, 3) := by decide +kernel
theorem dJ2_getChar_3b067_27 : decode cJ2_getChar_3b067 27 = .ok (.athrow, 1) := by decide +kernel
theorem dJ2_getChar_3b067_28 : decode cJ2_getChar_3b067 28 = .ok (.iload_n 1, 1) := by decide +kernel
theorem dJ2_getChar_3b067_29 : decode cJ2_getChar_3b067 29 = .ok (.iconst 1, 1) := by decide +kernel
theorem dJ2_getChar_3b067_30 : decode cJ2_getChar_3b067 30 = .ok (.ishl, 1) := by decide +kernel
theorem dJ2_getChar_3b067_31 : decode cJ2_getChar_3b067 31 = .ok (.istore_n 1, 1) := by decide +kernel
theorem dJ2_getChar_3b067_32 : decode cJ2_getChar_3b067 32 = .ok (.aload_n 0, 1) := by decide +kernel
theorem dJ2_getChar_3b067_33 : decode cJ2_getChar_3b067 33 = .ok (.iload_n 1, 1) := by decide +kernel
theorem dJ2_getChar_3b067_34 : decode cJ2_getChar_3b067 34 = .ok (.iinc 1 1, 3) := by decide +kernel
theorem dJ2_getChar_3b067_37 : decode cJ2_getChar_3b067 37 = .ok (.baload, 1) := by decide +kernel
theorem dJ2_getChar_3b067_38 : decode cJ2_getChar_3b067 38 = .ok (.sipush 255, 3) := by decide +kernel
theorem dJ2_getChar_3b067_41 : decode cJ2_getChar_3b067 41 = .ok (.iand, 1) := by decide +kernel
theorem dJ2_getChar_3b067_42 : decode cJ2_getChar_3b067 42 = .ok (.getstatic 59, 3) := by decide +kernel
theorem dJ2_getChar_3b067_45 : decode cJ2_getChar_3b067 45 = .ok (.ishl, 1) := by decide +kernel
theorem dJ2_getChar_3b067_46 : decode cJ2_getChar_3b067 46 = .ok (.aload_n 0, 1) := by decide +kernel
theorem dJ2_getChar_3b067_47 : decode cJ2_getChar_3b067 47 = .ok (.iload_n 1, 1) := by decide +kernel
theorem dJ2_getChar_3b067_48 : decode cJ2_getChar_3b067 48 = .ok (.baload, 1) := by decide +kernel
theorem dJ2_getChar_3b067_49 : decode cJ2_getChar_3b067 49 = .ok (.sipush 255, 3) := by decide +kernel
theorem dJ2_getChar_3b067_52 : decode cJ2_getChar_3b067 52 = .ok (.iand, 1) := by decide +kernel
theorem dJ2_getChar_3b067_53 : decode cJ2_getChar_3b067 53 = .ok (.getstatic 63, 3) := by decide +kernel
theorem dJ2_getChar_3b067_56 : decode cJ2_getChar_3b067 56 = .ok (.ishl, 1) := by decide +kernel
theorem dJ2_getChar_3b067_57 : decode cJ2_getChar_3b067 57 = .ok (.ior, 1) := by decide +kernel
theorem dJ2_getChar_3b067_58 : decode cJ2_getChar_3b067 58 = .ok (.i2c, 1) := by decide +kernel
theorem dJ2_getChar_3b067_59 : decode cJ2_getChar_3b067 59 = .ok (.ireturn, 1) := by decide +kernel
theorem dJ2_length_9d52b_0 : decode cJ2_length_9d52b 0 = .ok (.aload_n 0, 1) := by decide +kernel
theorem dJ2_length_9d52b_1 : decode cJ2_length_9d52b 1 = .ok (.arraylength, 1) := by decide +kernel
theorem dJ2_length_9d52b_2 : decode cJ2_length_9d52b 2 = .ok (.iconst 1, 1) := by decide +kernel
theorem dJ2_length_9d52b_3 : decode cJ2_length_9d52b 3 = .ok (.ishr, 1) := by decide +kernel
theorem dJ2_length_9d52b_4 : decode cJ2_length_9d52b 4 = .ok (.ireturn, 1) := by decide +kernel
theorem dJ2_coderFromArrayLen_85cad_0 : decode cJ2_coderFromArrayLen_85cad 0 = .ok (.iload_n 1, 1) := by decide +kernel
theorem dJ2_coderFromArrayLen_85cad_1 : decode cJ2_coderFromArrayLen_85cad 1 = .ok (.aload_n 0, 1) := by decide +kernel
theorem dJ2_coderFromArrayLen_85cad_2 : decode cJ2_coderFromArrayLen_85cad 2 = .ok (.arraylength, 1) := by decide +kernel
theorem dJ2_coderFromArrayLen_85cad_3 : decode cJ2_coderFromArrayLen_85cad 3 = .ok (.isub, 1) := by decide +kernel
theorem dJ2_coderFromArrayLen_85cad_4 : decode cJ2_coderFromArrayLen_85cad 4 = .ok (.bipush 31, 2) := by decide +kernel
theorem dJ2_coderFromArrayLen_85cad_6 : decode cJ2_coderFromArrayLen_85cad 6 = .ok (.iushr, 1) := by decide +kernel
theorem dJ2_coderFromArrayLen_85cad_7 : decode cJ2_coderFromArrayLen_85cad 7 = .ok (.i2b, 1) := by decide +kernel
theorem dJ2_coderFromArrayLen_85cad_8 : decode cJ2_coderFromArrayLen_85cad 8 = .ok (.ireturn, 1) := by decide +kernel
theorem dJ2_compress_39247_0 : decode cJ2_compress_39247 0 = .ok (.iload_n 2, 1) := by decide +kernel
theorem dJ2_compress_39247_1 : decode cJ2_compress_39247 1 = .ok (.newarray .byte, 2) := by decide +kernel
theorem dJ2_compress_39247_3 : decode cJ2_compress_39247 3 = .ok (.astore_n 3, 1) := by decide +kernel
theorem dJ2_compress_39247_4 : decode cJ2_compress_39247 4 = .ok (.aload_n 0, 1) := by decide +kernel
theorem dJ2_compress_39247_5 : decode cJ2_compress_39247 5 = .ok (.iload_n 1, 1) := by decide +kernel
theorem dJ2_compress_39247_6 : decode cJ2_compress_39247 6 = .ok (.aload_n 3, 1) := by decide +kernel
theorem dJ2_compress_39247_7 : decode cJ2_compress_39247 7 = .ok (.iconst 0, 1) := by decide +kernel
theorem dJ2_compress_39247_8 : decode cJ2_compress_39247 8 = .ok (.iload_n 2, 1) := by decide +kernel
theorem dJ2_compress_39247_9 : decode cJ2_compress_39247 9 = .ok (.invokestatic 123, 3) := by decide +kernel
theorem dJ2_compress_39247_12 : decode cJ2_compress_39247 12 = .ok (.istore 4, 2) := by decide +kernel
theorem dJ2_compress_39247_14 : decode cJ2_compress_39247 14 = .ok (.iload 4, 2) := by decide +kernel
theorem dJ2_compress_39247_16 : decode cJ2_compress_39247 16 = .ok (.iload_n 2, 1) := by decide +kernel
theorem dJ2_compress_39247_17 : decode cJ2_compress_39247 17 = .ok (.if_icmp .eq 47, 3) := by decide +kernel
theorem dJ2_compress_39247_20 : decode cJ2_compress_39247 20 = .ok (.aload_n 0, 1) := by decide +kernel
theorem dJ2_compress_39247_21 : decode cJ2_compress_39247 21 = .ok (.iload_n 1, 1) := by decide +kernel
theorem dJ2_compress_39247_22 : decode cJ2_compress_39247 22 = .ok (.iconst 1, 1) := by decide +kernel
theorem dJ2_compress_39247_23 : decode cJ2_compress_39247 23 = .ok (.ishl, 1) := by decide +kernel
theorem dJ2_compress_39247_24 : decode cJ2_compress_39247 24 = .ok (.iload_n 1, 1) := by decide +kernel
theorem dJ2_compress_39247_25 : decode cJ2_compress_39247 25 = .ok (.iload_n 2, 1) := by decide +kernel
theorem dJ2_compress_39247_26 : decode cJ2_compress_39247 26 = .ok (.iadd, 1) := by decide +kernel
theorem dJ2_compress_39247_27 : decode cJ2_compress_39247 27 = .ok (.invokestatic 11, 3) := by decide +kernel
theorem dJ2_compress_39247_30 : decode cJ2_compress_39247 30 = .ok (.invokestatic 126, 3) := by decide +kernel
theorem dJ2_compress_39247_33 : decode cJ2_compress_39247 33 = .ok (.astore 5, 2) := by decide +kernel
theorem dJ2_compress_39247_35 : decode cJ2_compress_39247 35 = .ok (.aload 5, 2) := by decide +kernel
theorem dJ2_compress_39247_37 : decode cJ2_compress_39247 37 = .ok (.iload 4, 2) := by decide +kernel
theorem dJ2_compress_39247_39 : decode cJ2_compress_39247 39 = .ok (.invokestatic 71, 3) := by decide +kernel
theorem dJ2_compress_39247_42 : decode cJ2_compress_39247 42 = .ok (.sipush 255, 3) := by decide +kernel
theorem dJ2_compress_39247_45 : decode cJ2_compress_39247 45 = .ok (.if_icmp .gt 16, 3) := by decide +kernel
theorem dJ2_compress_39247_48 : decode cJ2_compress_39247 48 = .ok (.aload 5, 2) := by decide +kernel
theorem dJ2_compress_39247_50 : decode cJ2_compress_39247 50 = .ok (.iconst 0, 1) := by decide +kernel
theorem dJ2_compress_39247_51 : decode cJ2_compress_39247 51 = .ok (.aload_n 3, 1) := by decide +kernel
theorem dJ2_compress_39247_52 : decode cJ2_compress_39247 52 = .ok (.iconst 0, 1) := by decide +kernel
theorem dJ2_compress_39247_53 : decode cJ2_compress_39247 53 = .ok (.iload_n 2, 1) := by decide +kernel
theorem dJ2_compress_39247_54 : decode cJ2_compress_39247 54 = .ok (.invokestatic 123, 3) := by decide +kernel
theorem dJ2_compress_39247_57 : decode cJ2_compress_39247 57 = .ok (.iload_n 2, 1) := by decide +kernel
theorem dJ2_compress_39247_58 : decode cJ2_compress_39247 58 = .ok (.if_icmp .eq 6, 3) := by decide +kernel
theorem dJ2_compress_39247_61 : decode cJ2_compress_39247 61 = .ok (.aload 5, 2) := by decide +kernel
theorem dJ2_compress_39247_63 : decode cJ2_compress_39247 63 = .ok (.areturn, 1) := by decide +kernel
theorem dJ2_compress_39247_64 : decode cJ2_compress_39247 64 = .ok (.aload_n 3, 1) := by decide +kernel
theorem dJ2_compress_39247_65 : decode cJ2_compress_39247 65 = .ok (.areturn, 1) := by decide +kernel
theorem dJ2_compress_5af95_0 : decode cJ2_compress_5af95 0 = .ok (.iload_n 1, 1) := by decide +kernel
theorem dJ2_compress_5af95_1 : decode cJ2_compress_5af95 1 = .ok (.iload 4, 2) := by decide +kernel
theorem dJ2_compress_5af95_3 : decode cJ2_compress_5af95 3 = .ok (.aload_n 0, 1) := by decide +kernel
theorem dJ2_compress_5af95_4 : decode cJ2_compress_5af95 4 = .ok (.invokestatic 173, 3) := by decide +kernel
theorem dJ2_compress_5af95_7 : decode cJ2_compress_5af95 7 = .ok (.iconst 0, 1) := by decide +kernel
theorem dJ2_compress_5af95_8 : decode cJ2_compress_5af95 8 = .ok (.istore 5, 2) := by decide +kernel
theorem dJ2_compress_5af95_10 : decode cJ2_compress_5af95 10 = .ok (.iload 5, 2) := by decide +kernel
theorem dJ2_compress_5af95_12 : decode cJ2_compress_5af95 12 = .ok (.iload 4, 2) := by decide +kernel
theorem dJ2_compress_5af95_14 : decode cJ2_compress_5af95 14 = .ok (.if_icmp .ge 39, 3) := by decide +kernel
theorem dJ2_compress_5af95_17 : decode cJ2_compress_5af95 17 = .ok (.aload_n 0, 1) := by decide +kernel
theorem dJ2_compress_5af95_18 : decode cJ2_compress_5af95 18 = .ok (.iload_n 1, 1) := by decide +kernel
theorem dJ2_compress_5af95_19 : decode cJ2_compress_5af95 19 = .ok (.invokestatic 71, 3) := by decide +kernel
theorem dJ2_compress_5af95_22 : decode cJ2_compress_5af95 22 = .ok (.istore 6, 2) := by decide +kernel
theorem dJ2_compress_5af95_24 : decode cJ2_compress_5af95 24 = .ok (.iload 6, 2) := by decide +kernel
theorem dJ2_compress_5af95_26 : decode cJ2_compress_5af95 26 = .ok (.sipush 255, 3) := by decide +kernel
theorem dJ2_compress_5af95_29 : decode cJ2_compress_5af95 29 = .ok (.if_icmp .le 6, 3) := by decide +kernel
theorem dJ2_compress_5af95_32 : decode cJ2_compress_5af95 32 = .ok (.iload 5, 2) := by decide +kernel
theorem dJ2_compress_5af95_34 : decode cJ2_compress_5af95 34 = .ok (.ireturn, 1) := by decide +kernel
theorem dJ2_compress_5af95_35 : decode cJ2_compress_5af95 35 = .ok (.aload_n 2, 1) := by decide +kernel
theorem dJ2_compress_5af95_36 : decode cJ2_compress_5af95 36 = .ok (.iload_n 3, 1) := by decide +kernel
theorem dJ2_compress_5af95_37 : decode cJ2_compress_5af95 37 = .ok (.iload 6, 2) := by decide +kernel
theorem dJ2_compress_5af95_39 : decode cJ2_compress_5af95 39 = .ok (.i2b, 1) := by decide +kernel
theorem dJ2_compress_5af95_40 : decode cJ2_compress_5af95 40 = .ok (.bastore, 1) := by decide +kernel
theorem dJ2_compress_5af95_41 : decode cJ2_compress_5af95 41 = .ok (.iinc 1 1, 3) := by decide +kernel
theorem dJ2_compress_5af95_44 : decode cJ2_compress_5af95 44 = .ok (.iinc 3 1, 3) := by decide +kernel
theorem dJ2_compress_5af95_47 : decode cJ2_compress_5af95 47 = .ok (.iinc 5 1, 3) := by decide +kernel
theorem dJ2_compress_5af95_50 : decode cJ2_compress_5af95 50 = .ok (.goto (-40), 3) := by decide +kernel
theorem dJ2_compress_5af95_53 : decode cJ2_compress_5af95 53 = .ok (.iload 4, 2) := by decide +kernel
theorem dJ2_compress_5af95_55 : decode cJ2_compress_5af95 55 = .ok (.ireturn, 1) := by decide +kernel
theorem dJ2_putCharSB_b72d1_0 : decode cJ2_putCharSB_b72d1 0 = .ok (.iload_n 1, 1) := by decide +kernel
theorem dJ2_putCharSB_b72d1_1 : decode cJ2_putCharSB_b72d1 1 = .ok (.aload_n 0, 1) := by decide +kernel
theorem dJ2_putCharSB_b72d1_2 : decode cJ2_putCharSB_b72d1 2 = .ok (.invokestatic 67, 3) := by decide +kernel
theorem dJ2_putCharSB_b72d1_5 : decode cJ2_putCharSB_b72d1 5 = .ok (.aload_n 0, 1) := by decide +kernel
theorem dJ2_putCharSB_b72d1_6 : decode cJ2_putCharSB_b72d1 6 = .ok (.iload_n 1, 1) := by decide +kernel
theorem dJ2_putCharSB_b72d1_7 : decode cJ2_putCharSB_b72d1 7 = .ok (.iload_n 2, 1) := by decide +kernel
theorem dJ2_putCharSB_b72d1_8 : decode cJ2_putCharSB_b72d1 8 = .ok (.invokestatic 111, 3) := by decide +kernel
theorem dJ2_putCharSB_b72d1_11 : decode cJ2_putCharSB_b72d1 11 = .ok (.return_, 1) := by decide +kernel
theorem dJ2_getChars_46870_0 : decode cJ2_getChars_46870 0 = .ok (.iload_n 1, 1) := by decide +kernel
theorem dJ2_getChars_46870_1 : decode cJ2_getChars_46870 1 = .ok (.iload_n 2, 1) := by decide +kernel
theorem dJ2_getChars_46870_2 : decode cJ2_getChars_46870 2 = .ok (.aload_n 3, 1) := by decide +kernel
theorem dJ2_getChars_46870_3 : decode cJ2_getChars_46870 3 = .ok (.invokestatic 96, 3) := by decide +kernel
theorem dJ2_getChars_46870_6 : decode cJ2_getChars_46870 6 = .ok (.iload_n 0, 1) := by decide +kernel
theorem dJ2_getChars_46870_7 : decode cJ2_getChars_46870 7 = .ok (.iload_n 2, 1) := by decide +kernel
theorem dJ2_getChars_46870_8 : decode cJ2_getChars_46870 8 = .ok (.aload_n 3, 1) := by decide +kernel
theorem dJ2_getChars_46870_9 : decode cJ2_getChars_46870 9 = .ok (.invokestatic 393, 3) := by decide +kernel
theorem dJ2_getChars_46870_12 : decode cJ2_getChars_46870 12 = .ok (.istore 4, 2) := by decide +kernel
theorem dJ2_getChars_46870_14 : decode cJ2_getChars_46870 14 = .ok (.getstatic 44, 3) := by decide +kernel
theorem dJ2_getChars_46870_17 : decode cJ2_getChars_46870 17 = .ok (.ifCond .ne 17, 3) := by decide +kernel
theorem dJ2_getChars_46870_20 : decode cJ2_getChars_46870 20 = .ok (.iload_n 1, 1) := by decide +kernel
theorem dJ2_getChars_46870_21 : decode cJ2_getChars_46870 21 = .ok (.iload 4, 2) := by decide +kernel
theorem dJ2_getChars_46870_23 : decode cJ2_getChars_46870 23 = .ok (.if_icmp .eq 11, 3) := by decide +kernel
theorem dJ2_getChars_46870_26 : decode cJ2_getChars_46870 26 = .ok (.new 52, 3) := by decide +kernel
theorem dJ2_getChars_46870_29 : decode cJ2_getChars_46870 29 = .ok (.dup, 1) := by decide +kernel
theorem dJ2_getChars_46870_30 : decode cJ2_getChars_46870 30 = .ok (.invokespecial 66, 3) := by decide +kernel
theorem dJ2_getChars_46870_33 : decode cJ2_getChars_46870 33 = .ok (.athrow, 1) := by decide +kernel
theorem dJ2_getChars_46870_34 : decode cJ2_getChars_46870 34 = .ok (.iload 4, 2) := by decide +kernel
theorem dJ2_getChars_46870_36 : decode cJ2_getChars_46870 36 = .ok (.ireturn, 1) := by decide +kernel
theorem dJ2_putCharsAt_cd4e5_0 : decode cJ2_putCharsAt_cd4e5 0 = .ok (.iload_n 1, 1) := by decide +kernel
theorem dJ2_putCharsAt_cd4e5_1 : decode cJ2_putCharsAt_cd4e5 1 = .ok (.iconst 4, 1) := by decide +kernel
theorem dJ2_putCharsAt_cd4e5_2 : decode cJ2_putCharsAt_cd4e5 2 = .ok (.iadd, 1) := by decide +kernel
theorem dJ2_putCharsAt_cd4e5_3 : decode cJ2_putCharsAt_cd4e5 3 = .ok (.istore 6, 2) := by decide +kernel
theorem dJ2_putCharsAt_cd4e5_5 : decode cJ2_putCharsAt_cd4e5 5 = .ok (.iload_n 1, 1) := by decide +kernel
theorem dJ2_putCharsAt_cd4e5_6 : decode cJ2_putCharsAt_cd4e5 6 = .ok (.iload 6, 2) := by decide +kernel
theorem dJ2_putCharsAt_cd4e5_8 : decode cJ2_putCharsAt_cd4e5 8 = .ok (.aload_n 0, 1) := by decide +kernel
theorem dJ2_putCharsAt_cd4e5_9 : decode cJ2_putCharsAt_cd4e5 9 = .ok (.invokestatic 96, 3) := by decide +kernel
theorem dJ2_putCharsAt_cd4e5_12 : decode cJ2_putCharsAt_cd4e5 12 = .ok (.aload_n 0, 1) := by decide +kernel
theorem dJ2_putCharsAt_cd4e5_13 : decode cJ2_putCharsAt_cd4e5 13 = .ok (.iload_n 1, 1) := by decide +kernel
theorem dJ2_putCharsAt_cd4e5_14 : decode cJ2_putCharsAt_cd4e5 14 = .ok (.iinc 1 1, 3) := by decide +kernel
theorem dJ2_putCharsAt_cd4e5_17 : decode cJ2_putCharsAt_cd4e5 17 = .ok (.iload_n 2, 1) := by decide +kernel
theorem dJ2_putCharsAt_cd4e5_18 : decode cJ2_putCharsAt_cd4e5 18 = .ok (.invokestatic 111, 3) := by decide +kernel
theorem dJ2_putCharsAt_cd4e5_21 : decode cJ2_putCharsAt_cd4e5 21 = .ok (.aload_n 0, 1) := by decide +kernel
theorem dJ2_putCharsAt_cd4e5_22 : decode cJ2_putCharsAt_cd4e5 22 = .ok (.iload_n 1, 1) := by decide +kernel
theorem dJ2_putCharsAt_cd4e5_23 : decode cJ2_putCharsAt_cd4e5 23 = .ok (.iinc 1 1, 3) := by decide +kernel
theorem dJ2_putCharsAt_cd4e5_26 : decode cJ2_putCharsAt_cd4e5 26 = .ok (.iload_n 3, 1) := by decide +kernel
theorem dJ2_putCharsAt_cd4e5_27 : decode cJ2_putCharsAt_cd4e5 27 = .ok (.invokestatic 111, 3) := by decide +kernel
theorem dJ2_putCharsAt_cd4e5_30 : decode cJ2_putCharsAt_cd4e5 30 = .ok (.aload_n 0, 1) := by decide +kernel
theorem dJ2_putCharsAt_cd4e5_31 : decode cJ2_putCharsAt_cd4e5 31 = .ok (.iload_n 1, 1) := by decide +kernel
theorem dJ2_putCharsAt_cd4e5_32 : decode cJ2_putCharsAt_cd4e5 32 = .ok (.iinc 1 1, 3) := by decide +kernel
theorem dJ2_putCharsAt_cd4e5_35 : decode cJ2_putCharsAt_cd4e5 35 = .ok (.iload 4, 2) := by decide +kernel
theorem dJ2_putCharsAt_cd4e5_37 : decode cJ2_putCharsAt_cd4e5 37 = .ok (.invokestatic 111, 3) := by decide +kernel
theorem dJ2_putCharsAt_cd4e5_40 : decode cJ2_putCharsAt_cd4e5 40 = .ok (.aload_n 0, 1) := by decide +kernel
theorem dJ2_putCharsAt_cd4e5_41 : decode cJ2_putCharsAt_cd4e5 41 = .ok (.iload_n 1, 1) := by decide +kernel
theorem dJ2_putCharsAt_cd4e5_42 : decode cJ2_putCharsAt_cd4e5 42 = .ok (.iinc 1 1, 3) := by decide +kernel
theorem dJ2_putCharsAt_cd4e5_45 : decode cJ2_putCharsAt_cd4e5 45 = .ok (.iload 5, 2) := by decide +kernel
theorem dJ2_putCharsAt_cd4e5_47 : decode cJ2_putCharsAt_cd4e5 47 = .ok (.invokestatic 111, 3) := by decide +kernel
theorem dJ2_putCharsAt_cd4e5_50 : decode cJ2_putCharsAt_cd4e5 50 = .ok (.getstatic 44, 3) := by decide +kernel
theorem dJ2_putCharsAt_cd4e5_53 : decode cJ2_putCharsAt_cd4e5 53 = .ok (.ifCond .ne 17, 3) := by decide +kernel
theorem dJ2_putCharsAt_cd4e5_56 : decode cJ2_putCharsAt_cd4e5 56 = .ok (.iload_n 1, 1) := by decide +kernel
theorem dJ2_putCharsAt_cd4e5_57 : decode cJ2_putCharsAt_cd4e5 57 = .ok (.iload 6, 2) := by decide +kernel
theorem dJ2_putCharsAt_cd4e5_59 : decode cJ2_putCharsAt_cd4e5 59 = .ok (.if_icmp .eq 11, 3) := by decide +kernel
theorem dJ2_putCharsAt_cd4e5_62 : decode cJ2_putCharsAt_cd4e5 62 = .ok (.new 52, 3) := by decide +kernel
theorem dJ2_putCharsAt_cd4e5_65 : decode cJ2_putCharsAt_cd4e5 65 = .ok (.dup, 1) := by decide +kernel
theorem dJ2_putCharsAt_cd4e5_66 : decode cJ2_putCharsAt_cd4e5 66 = .ok (.invokespecial 66, 3) := by decide +kernel
theorem dJ2_putCharsAt_cd4e5_69 : decode cJ2_putCharsAt_cd4e5 69 = .ok (.athrow, 1) := by decide +kernel
theorem dJ2_putCharsAt_cd4e5_70 : decode cJ2_putCharsAt_cd4e5 70 = .ok (.iload 6, 2) := by decide +kernel
theorem dJ2_putCharsAt_cd4e5_72 : decode cJ2_putCharsAt_cd4e5 72 = .ok (.ireturn, 1) := by decide +kernel
theorem dJ2_charAt_3b067_0 : decode cJ2_charAt_3b067 0 = .ok (.iload_n 1, 1) := by decide +kernel
theorem dJ2_charAt_3b067_1 : decode cJ2_charAt_3b067 1 = .ok (.aload_n 0, 1) := by decide +kernel
theorem dJ2_charAt_3b067_2 : decode cJ2_charAt_3b067 2 = .ok (.invokestatic 67, 3) := by decide +kernel
theorem dJ2_charAt_3b067_5 : decode cJ2_charAt_3b067 5 = .ok (.aload_n 0, 1) := by decide +kernel
theorem dJ2_charAt_3b067_6 : decode cJ2_charAt_3b067 6 = .ok (.iload_n 1, 1) := by decide +kernel
theorem dJ2_charAt_3b067_7 : decode cJ2_charAt_3b067 7 = .ok (.invokestatic 71, 3) := by decide +kernel
theorem dJ2_charAt_3b067_10 : decode cJ2_charAt_3b067 10 = .ok (.ireturn, 1) := by decide +kernel
theorem dJ2_inflate_0e8fd_0 : decode cJ2_inflate_0e8fd 0 = .ok (.iload_n 3, 1) := by decide +kernel
theorem dJ2_inflate_0e8fd_1 : decode cJ2_inflate_0e8fd 1 = .ok (.iload 4, 2) := by decide +kernel
theorem dJ2_inflate_0e8fd_3 : decode cJ2_inflate_0e8fd 3 = .ok (.aload_n 2, 1) := by decide +kernel
theorem dJ2_inflate_0e8fd_4 : decode cJ2_inflate_0e8fd 4 = .ok (.invokestatic 173, 3) := by decide +kernel
theorem dJ2_inflate_0e8fd_7 : decode cJ2_inflate_0e8fd 7 = .ok (.iconst 0, 1) := by decide +kernel
theorem dJ2_inflate_0e8fd_8 : decode cJ2_inflate_0e8fd 8 = .ok (.istore 5, 2) := by decide +kernel
theorem dJ2_inflate_0e8fd_10 : decode cJ2_inflate_0e8fd 10 = .ok (.iload 5, 2) := by decide +kernel
theorem dJ2_inflate_0e8fd_12 : decode cJ2_inflate_0e8fd 12 = .ok (.iload 4, 2) := by decide +kernel
theorem dJ2_inflate_0e8fd_14 : decode cJ2_inflate_0e8fd 14 = .ok (.if_icmp .ge 27, 3) := by decide +kernel
theorem dJ2_inflate_0e8fd_17 : decode cJ2_inflate_0e8fd 17 = .ok (.aload_n 2, 1) := by decide +kernel
theorem dJ2_inflate_0e8fd_18 : decode cJ2_inflate_0e8fd 18 = .ok (.iload_n 3, 1) := by decide +kernel
theorem dJ2_inflate_0e8fd_19 : decode cJ2_inflate_0e8fd 19 = .ok (.iinc 3 1, 3) := by decide +kernel
theorem dJ2_inflate_0e8fd_22 : decode cJ2_inflate_0e8fd 22 = .ok (.aload_n 0, 1) := by decide +kernel
theorem dJ2_inflate_0e8fd_23 : decode cJ2_inflate_0e8fd 23 = .ok (.iload_n 1, 1) := by decide +kernel
theorem dJ2_inflate_0e8fd_24 : decode cJ2_inflate_0e8fd 24 = .ok (.iinc 1 1, 3) := by decide +kernel
theorem dJ2_inflate_0e8fd_27 : decode cJ2_inflate_0e8fd 27 = .ok (.baload, 1) := by decide +kernel
theorem dJ2_inflate_0e8fd_28 : decode cJ2_inflate_0e8fd 28 = .ok (.sipush 255, 3) := by decide +kernel
theorem dJ2_inflate_0e8fd_31 : decode cJ2_inflate_0e8fd 31 = .ok (.iand, 1) := by decide +kernel
theorem dJ2_inflate_0e8fd_32 : decode cJ2_inflate_0e8fd 32 = .ok (.invokestatic 111, 3) := by decide +kernel
theorem dJ2_inflate_0e8fd_35 : decode cJ2_inflate_0e8fd 35 = .ok (.iinc 5 1, 3) := by decide +kernel
theorem dJ2_inflate_0e8fd_38 : decode cJ2_inflate_0e8fd 38 = .ok (.goto (-28), 3) := by decide +kernel
theorem dJ2_inflate_0e8fd_41 : decode cJ2_inflate_0e8fd 41 = .ok (.return_, 1) := by decide +kernel
theorem dJ2_getChars_ba4f3_0 : decode cJ2_getChars_ba4f3 0 = .ok (.iload_n 1, 1) := by decide +kernel
theorem dJ2_getChars_ba4f3_1 : decode cJ2_getChars_ba4f3 1 = .ok (.istore 5, 2) := by decide +kernel
theorem dJ2_getChars_ba4f3_3 : decode cJ2_getChars_ba4f3 3 = .ok (.iload_n 0, 1) := by decide +kernel
theorem dJ2_getChars_ba4f3_4 : decode cJ2_getChars_ba4f3 4 = .ok (.ifCond .ge 7, 3) := by decide +kernel
theorem dJ2_getChars_ba4f3_7 : decode cJ2_getChars_ba4f3 7 = .ok (.iconst 1, 1) := by decide +kernel
theorem dJ2_getChars_ba4f3_8 : decode cJ2_getChars_ba4f3 8 = .ok (.goto 4, 3) := by decide +kernel
theorem dJ2_getChars_ba4f3_11 : decode cJ2_getChars_ba4f3 11 = .ok (.iconst 0, 1) := by decide +kernel
theorem dJ2_getChars_ba4f3_12 : decode cJ2_getChars_ba4f3 12 = .ok (.istore 6, 2) := by decide +kernel
theorem dJ2_getChars_ba4f3_14 : decode cJ2_getChars_ba4f3 14 = .ok (.iload 6, 2) := by decide +kernel
theorem dJ2_getChars_ba4f3_16 : decode cJ2_getChars_ba4f3 16 = .ok (.ifCond .ne 6, 3) := by decide +kernel
theorem dJ2_getChars_ba4f3_19 : decode cJ2_getChars_ba4f3 19 = .ok (.iload_n 0, 1) := by decide +kernel
theorem dJ2_getChars_ba4f3_20 : decode cJ2_getChars_ba4f3 20 = .ok (.ineg, 1) := by decide +kernel
theorem dJ2_getChars_ba4f3_21 : decode cJ2_getChars_ba4f3 21 = .ok (.istore_n 0, 1) := by decide +kernel
theorem dJ2_getChars_ba4f3_22 : decode cJ2_getChars_ba4f3 22 = .ok (.iload_n 0, 1) := by decide +kernel
theorem dJ2_getChars_ba4f3_23 : decode cJ2_getChars_ba4f3 23 = .ok (.bipush (-100), 2) := by decide +kernel
theorem dJ2_getChars_ba4f3_25 : decode cJ2_getChars_ba4f3 25 = .ok (.if_icmp .gt 51, 3) := by decide +kernel
theorem dJ2_getChars_ba4f3_28 : decode cJ2_getChars_ba4f3 28 = .ok (.iload_n 0, 1) := by decide +kernel
theorem dJ2_getChars_ba4f3_29 : decode cJ2_getChars_ba4f3 29 = .ok (.bipush 100, 2) := by decide +kernel
theorem dJ2_getChars_ba4f3_31 : decode cJ2_getChars_ba4f3 31 = .ok (.idiv, 1) := by decide +kernel
theorem dJ2_getChars_ba4f3_32 : decode cJ2_getChars_ba4f3 32 = .ok (.istore_n 3, 1) := by decide +kernel
theorem dJ2_getChars_ba4f3_33 : decode cJ2_getChars_ba4f3 33 = .ok (.iload_n 3, 1) := by decide +kernel
theorem dJ2_getChars_ba4f3_34 : decode cJ2_getChars_ba4f3 34 = .ok (.bipush 100, 2) := by decide +kernel
theorem dJ2_getChars_ba4f3_36 : decode cJ2_getChars_ba4f3 36 = .ok (.imul, 1) := by decide +kernel
theorem dJ2_getChars_ba4f3_37 : decode cJ2_getChars_ba4f3 37 = .ok (.iload_n 0, 1) := by decide +kernel
theorem dJ2_getChars_ba4f3_38 : decode cJ2_getChars_ba4f3 38 = .ok (.isub, 1) := by decide +kernel
theorem dJ2_getChars_ba4f3_39 : decode cJ2_getChars_ba4f3 39 = .ok (.istore 4, 2) := by decide +kernel
theorem dJ2_getChars_ba4f3_41 : decode cJ2_getChars_ba4f3 41 = .ok (.iload_n 3, 1) := by decide +kernel
theorem dJ2_getChars_ba4f3_42 : decode cJ2_getChars_ba4f3 42 = .ok (.istore_n 0, 1) := by decide +kernel
theorem dJ2_getChars_ba4f3_43 : decode cJ2_getChars_ba4f3 43 = .ok (.aload_n 2, 1) := by decide +kernel
theorem dJ2_getChars_ba4f3_44 : decode cJ2_getChars_ba4f3 44 = .ok (.iinc 5 (-1), 3) := by decide +kernel
theorem dJ2_getChars_ba4f3_47 : decode cJ2_getChars_ba4f3 47 = .ok (.iload 5, 2) := by decide +kernel
theorem dJ2_getChars_ba4f3_49 : decode cJ2_getChars_ba4f3 49 = .ok (.getstatic 403, 3) := by decide +kernel
theorem dJ2_getChars_ba4f3_52 : decode cJ2_getChars_ba4f3 52 = .ok (.iload 4, 2) := by decide +kernel
theorem dJ2_getChars_ba4f3_54 : decode cJ2_getChars_ba4f3 54 = .ok (.baload, 1) := by decide +kernel
theorem dJ2_getChars_ba4f3_55 : decode cJ2_getChars_ba4f3 55 = .ok (.invokestatic 111, 3) := by decide +kernel
theorem dJ2_getChars_ba4f3_58 : decode cJ2_getChars_ba4f3 58 = .ok (.aload_n 2, 1) := by decide +kernel
theorem dJ2_getChars_ba4f3_59 : decode cJ2_getChars_ba4f3 59 = .ok (.iinc 5 (-1), 3) := by decide +kernel
theorem dJ2_getChars_ba4f3_62 : decode cJ2_getChars_ba4f3 62 = .ok (.iload 5, 2) := by decide +kernel
theorem dJ2_getChars_ba4f3_64 : decode cJ2_getChars_ba4f3 64 = .ok (.getstatic 407, 3) := by decide +kernel
theorem dJ2_getChars_ba4f3_67 : decode cJ2_getChars_ba4f3 67 = .ok (.iload 4, 2) := by decide +kernel
theorem dJ2_getChars_ba4f3_69 : decode cJ2_getChars_ba4f3 69 = .ok (.baload, 1) := by decide +kernel
theorem dJ2_getChars_ba4f3_70 : decode cJ2_getChars_ba4f3 70 = .ok (.invokestatic 111, 3) := by decide +kernel
theorem dJ2_getChars_ba4f3_73 : decode cJ2_getChars_ba4f3 73 = .ok (.goto (-51), 3) := by decide +kernel
theorem dJ2_getChars_ba4f3_76 : decode cJ2_getChars_ba4f3 76 = .ok (.aload_n 2, 1) := by decide +kernel
theorem dJ2_getChars_ba4f3_77 : decode cJ2_getChars_ba4f3 77 = .ok (.iinc 5 (-1), 3) := by decide +kernel
theorem dJ2_getChars_ba4f3_80 : decode cJ2_getChars_ba4f3 80 = .ok (.iload 5, 2) := by decide +kernel
theorem dJ2_getChars_ba4f3_82 : decode cJ2_getChars_ba4f3 82 = .ok (.getstatic 403, 3) := by decide +kernel
theorem dJ2_getChars_ba4f3_85 : decode cJ2_getChars_ba4f3 85 = .ok (.iload_n 0, 1) := by decide +kernel
theorem dJ2_getChars_ba4f3_86 : decode cJ2_getChars_ba4f3 86 = .ok (.ineg, 1) := by decide +kernel
theorem dJ2_getChars_ba4f3_87 : decode cJ2_getChars_ba4f3 87 = .ok (.baload, 1) := by decide +kernel
theorem dJ2_getChars_ba4f3_88 : decode cJ2_getChars_ba4f3 88 = .ok (.invokestatic 111, 3) := by decide +kernel
theorem dJ2_getChars_ba4f3_91 : decode cJ2_getChars_ba4f3 91 = .ok (.iload_n 0, 1) := by decide +kernel
theorem dJ2_getChars_ba4f3_92 : decode cJ2_getChars_ba4f3 92 = .ok (.bipush (-9), 2) := by decide +kernel
theorem dJ2_getChars_ba4f3_94 : decode cJ2_getChars_ba4f3 94 = .ok (.if_icmp .ge 18, 3) := by decide +kernel
theorem dJ2_getChars_ba4f3_97 : decode cJ2_getChars_ba4f3 97 = .ok (.aload_n 2, 1) := by decide +kernel
theorem dJ2_getChars_ba4f3_98 : decode cJ2_getChars_ba4f3 98 = .ok (.iinc 5 (-1), 3) := by decide +kernel
theorem dJ2_getChars_ba4f3_101 : decode cJ2_getChars_ba4f3 101 = .ok (.iload 5, 2) := by decide +kernel
theorem dJ2_getChars_ba4f3_103 : decode cJ2_getChars_ba4f3 103 = .ok (.getstatic 407, 3) := by decide +kernel
theorem dJ2_getChars_ba4f3_106 : decode cJ2_getChars_ba4f3 106 = .ok (.iload_n 0, 1) := by decide +kernel
theorem dJ2_getChars_ba4f3_107 : decode cJ2_getChars_ba4f3 107 = .ok (.ineg, 1) := by decide +kernel
theorem dJ2_getChars_ba4f3_108 : decode cJ2_getChars_ba4f3 108 = .ok (.baload, 1) := by decide +kernel
theorem dJ2_getChars_ba4f3_109 : decode cJ2_getChars_ba4f3 109 = .ok (.invokestatic 111, 3) := by decide +kernel
theorem dJ2_getChars_ba4f3_112 : decode cJ2_getChars_ba4f3 112 = .ok (.iload 6, 2) := by decide +kernel
theorem dJ2_getChars_ba4f3_114 : decode cJ2_getChars_ba4f3 114 = .ok (.ifCond .eq 14, 3) := by decide +kernel
theorem dJ2_getChars_ba4f3_117 : decode cJ2_getChars_ba4f3 117 = .ok (.aload_n 2, 1) := by decide +kernel
theorem dJ2_getChars_ba4f3_118 : decode cJ2_getChars_ba4f3 118 = .ok (.iinc 5 (-1), 3) := by decide +kernel
theorem dJ2_getChars_ba4f3_121 : decode cJ2_getChars_ba4f3 121 = .ok (.iload 5, 2) := by decide +kernel
theorem dJ2_getChars_ba4f3_123 : decode cJ2_getChars_ba4f3 123 = .ok (.bipush 45, 2) := by decide +kernel
theorem dJ2_getChars_ba4f3_125 : decode cJ2_getChars_ba4f3 125 = .ok (.invokestatic 111, 3) := by decide +kernel
theorem dJ2_getChars_ba4f3_128 : decode cJ2_getChars_ba4f3 128 = .ok (.iload 5, 2) := by decide +kernel
theorem dJ2_getChars_ba4f3_130 : decode cJ2_getChars_ba4f3 130 = .ok (.ireturn, 1) := by decide +kernel
theorem dJ2_checkIndex_2214a_0 : decode cJ2_checkIndex_2214a 0 = .ok (.iload_n 0, 1) := by decide +kernel
theorem dJ2_checkIndex_2214a_1 : decode cJ2_checkIndex_2214a 1 = .ok (.aload_n 1, 1) := by decide +kernel
theorem dJ2_checkIndex_2214a_2 : decode cJ2_checkIndex_2214a 2 = .ok (.invokestatic 48, 3) := by decide +kernel
theorem dJ2_checkIndex_2214a_5 : decode cJ2_checkIndex_2214a 5 = .ok (.invokestatic 414, 3) := by decide +kernel
theorem dJ2_checkIndex_2214a_8 : decode cJ2_checkIndex_2214a 8 = .ok (.return_, 1) := by decide +kernel
theorem dJ2_checkBoundsBeginEnd_d044e_0 : decode cJ2_checkBoundsBeginEnd_d044e 0 = .ok (.iload_n 0, 1) := by decide +kernel
theorem dJ2_checkBoundsBeginEnd_d044e_1 : decode cJ2_checkBoundsBeginEnd_d044e 1 = .ok (.iload_n 1, 1) := by decide +kernel
theorem dJ2_checkBoundsBeginEnd_d044e_2 : decode cJ2_checkBoundsBeginEnd_d044e 2 = .ok (.aload_n 2, 1) := by decide +kernel
theorem dJ2_checkBoundsBeginEnd_d044e_3 : decode cJ2_checkBoundsBeginEnd_d044e 3 = .ok (.invokestatic 48, 3) := by decide +kernel
theorem dJ2_checkBoundsBeginEnd_d044e_6 : decode cJ2_checkBoundsBeginEnd_d044e 6 = .ok (.invokestatic 241, 3) := by decide +kernel
theorem dJ2_checkBoundsBeginEnd_d044e_9 : decode cJ2_checkBoundsBeginEnd_d044e 9 = .ok (.return_, 1) := by decide +kernel
theorem dJ2_checkBoundsOffCount_d044e_0 : decode cJ2_checkBoundsOffCount_d044e 0 = .ok (.iload_n 0, 1) := by decide +kernel
theorem dJ2_checkBoundsOffCount_d044e_1 : decode cJ2_checkBoundsOffCount_d044e 1 = .ok (.iload_n 1, 1) := by decide +kernel
theorem dJ2_checkBoundsOffCount_d044e_2 : decode cJ2_checkBoundsOffCount_d044e 2 = .ok (.aload_n 2, 1) := by decide +kernel
theorem dJ2_checkBoundsOffCount_d044e_3 : decode cJ2_checkBoundsOffCount_d044e 3 = .ok (.invokestatic 48, 3) := by decide +kernel
theorem dJ2_checkBoundsOffCount_d044e_6 : decode cJ2_checkBoundsOffCount_d044e 6 = .ok (.invokestatic 419, 3) := by decide +kernel
theorem dJ2_checkBoundsOffCount_d044e_9 : decode cJ2_checkBoundsOffCount_d044e 9 = .ok (.pop, 1) := by decide +kernel
theorem dJ2_checkBoundsOffCount_d044e_10 : decode cJ2_checkBoundsOffCount_d044e 10 = .ok (.return_, 1) := by decide +kernel
theorem dJ7_fill_53178_0 : decode cJ7_fill_53178 0 = .ok (.iconst 0, 1) := by decide +kernel
theorem dJ7_fill_53178_1 : decode cJ7_fill_53178 1 = .ok (.istore_n 2, 1) := by decide +kernel
theorem dJ7_fill_53178_2 : decode cJ7_fill_53178 2 = .ok (.aload_n 0, 1) := by decide +kernel
theorem dJ7_fill_53178_3 : decode cJ7_fill_53178 3 = .ok (.arraylength, 1) := by decide +kernel
theorem dJ7_fill_53178_4 : decode cJ7_fill_53178 4 = .ok (.istore_n 3, 1) := by decide +kernel
theorem dJ7_fill_53178_5 : decode cJ7_fill_53178 5 = .ok (.iload_n 2, 1) := by decide +kernel
theorem dJ7_fill_53178_6 : decode cJ7_fill_53178 6 = .ok (.iload_n 3, 1) := by decide +kernel
theorem dJ7_fill_53178_7 : decode cJ7_fill_53178 7 = .ok (.if_icmp .ge 13, 3) := by decide +kernel
theorem dJ7_fill_53178_10 : decode cJ7_fill_53178 10 = .ok (.aload_n 0, 1) := by decide +kernel
theorem dJ7_fill_53178_11 : decode cJ7_fill_53178 11 = .ok (.iload_n 2, 1) := by decide +kernel
theorem dJ7_fill_53178_12 : decode cJ7_fill_53178 12 = .ok (.iload_n 1, 1) := by decide +kernel
