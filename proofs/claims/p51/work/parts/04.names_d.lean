theorem dX1_init_0 : decode cX1_init 0 = .ok (.aload_n 0, 1) := by decide +kernel
theorem dX1_init_1 : decode cX1_init 1 = .ok (.invokespecial 3, 3) := by decide +kernel
theorem dX1_init_4 : decode cX1_init 4 = .ok (.aload_n 0, 1) := by decide +kernel
theorem dX1_init_5 : decode cX1_init 5 = .ok (.bipush 25, 2) := by decide +kernel
theorem dX1_init_7 : decode cX1_init 7 = .ok (.newarray .int, 2) := by decide +kernel
theorem dX1_init_9 : decode cX1_init 9 = .ok (.putfield 9, 3) := by decide +kernel
theorem dX1_init_12 : decode cX1_init 12 = .ok (.aload_n 0, 1) := by decide +kernel
theorem dX1_init_13 : decode cX1_init 13 = .ok (.bipush 25, 2) := by decide +kernel
theorem dX1_init_15 : decode cX1_init 15 = .ok (.newarray .int, 2) := by decide +kernel
theorem dX1_init_17 : decode cX1_init 17 = .ok (.putfield 15, 3) := by decide +kernel
theorem dX1_init_20 : decode cX1_init 20 = .ok (.aload_n 0, 1) := by decide +kernel
theorem dX1_init_21 : decode cX1_init 21 = .ok (.bipush 6, 2) := by decide +kernel
theorem dX1_init_23 : decode cX1_init 23 = .ok (.newarray .int, 2) := by decide +kernel
theorem dX1_init_25 : decode cX1_init 25 = .ok (.putfield 18, 3) := by decide +kernel
theorem dX1_init_28 : decode cX1_init 28 = .ok (.aload_n 0, 1) := by decide +kernel
theorem dX1_init_29 : decode cX1_init 29 = .ok (.iconst 3, 1) := by decide +kernel
theorem dX1_init_30 : decode cX1_init 30 = .ok (.newarray .int, 2) := by decide +kernel
theorem dX1_init_32 : decode cX1_init 32 = .ok (.putfield 21, 3) := by decide +kernel
theorem dX1_init_35 : decode cX1_init 35 = .ok (.aload_n 0, 1) := by decide +kernel
theorem dX1_init_36 : decode cX1_init 36 = .ok (.iconst 5, 1) := by decide +kernel
theorem dX1_init_37 : decode cX1_init 37 = .ok (.newarray .int, 2) := by decide +kernel
theorem dX1_init_39 : decode cX1_init 39 = .ok (.putfield 24, 3) := by decide +kernel
theorem dX1_init_42 : decode cX1_init 42 = .ok (.aload_n 0, 1) := by decide +kernel
theorem dX1_init_43 : decode cX1_init 43 = .ok (.iconst 0, 1) := by decide +kernel
theorem dX1_init_44 : decode cX1_init 44 = .ok (.putfield 27, 3) := by decide +kernel
theorem dX1_init_47 : decode cX1_init 47 = .ok (.aload_n 0, 1) := by decide +kernel
theorem dX1_init_48 : decode cX1_init 48 = .ok (.iconst 0, 1) := by decide +kernel
theorem dX1_init_49 : decode cX1_init 49 = .ok (.putfield 31, 3) := by decide +kernel
theorem dX1_init_52 : decode cX1_init 52 = .ok (.aload_n 0, 1) := by decide +kernel
theorem dX1_init_53 : decode cX1_init 53 = .ok (.iconst 0, 1) := by decide +kernel
theorem dX1_init_54 : decode cX1_init 54 = .ok (.putfield 34, 3) := by decide +kernel
theorem dX1_init_57 : decode cX1_init 57 = .ok (.aload_n 0, 1) := by decide +kernel
theorem dX1_init_58 : decode cX1_init 58 = .ok (.lconst 0, 1) := by decide +kernel
theorem dX1_init_59 : decode cX1_init 59 = .ok (.putfield 37, 3) := by decide +kernel
theorem dX1_init_62 : decode cX1_init 62 = .ok (.aload_n 0, 1) := by decide +kernel
theorem dX1_init_63 : decode cX1_init 63 = .ok (.getfield 9, 3) := by decide +kernel
theorem dX1_init_66 : decode cX1_init 66 = .ok (.bipush 15, 2) := by decide +kernel
theorem dX1_init_68 : decode cX1_init 68 = .ok (.invokestatic 41, 3) := by decide +kernel
theorem dX1_init_71 : decode cX1_init 71 = .ok (.aload_n 0, 1) := by decide +kernel
theorem dX1_init_72 : decode cX1_init 72 = .ok (.getfield 15, 3) := by decide +kernel
theorem dX1_init_75 : decode cX1_init 75 = .ok (.iconst (-1), 1) := by decide +kernel
theorem dX1_init_76 : decode cX1_init 76 = .ok (.invokestatic 41, 3) := by decide +kernel
theorem dX1_init_79 : decode cX1_init 79 = .ok (.aload_n 0, 1) := by decide +kernel
theorem dX1_init_80 : decode cX1_init 80 = .ok (.getfield 18, 3) := by decide +kernel
theorem dX1_init_83 : decode cX1_init 83 = .ok (.iconst (-1), 1) := by decide +kernel
theorem dX1_init_84 : decode cX1_init 84 = .ok (.invokestatic 41, 3) := by decide +kernel
theorem dX1_init_87 : decode cX1_init 87 = .ok (.return_, 1) := by decide +kernel
theorem dX1_copyFrom_0 : decode cX1_copyFrom 0 = .ok (.aload_n 1, 1) := by decide +kernel
theorem dX1_copyFrom_1 : decode cX1_copyFrom 1 = .ok (.getfield 9, 3) := by decide +kernel
theorem dX1_copyFrom_4 : decode cX1_copyFrom 4 = .ok (.iconst 0, 1) := by decide +kernel
theorem dX1_copyFrom_5 : decode cX1_copyFrom 5 = .ok (.aload_n 0, 1) := by decide +kernel
theorem dX1_copyFrom_6 : decode cX1_copyFrom 6 = .ok (.getfield 9, 3) := by decide +kernel
theorem dX1_copyFrom_9 : decode cX1_copyFrom 9 = .ok (.iconst 0, 1) := by decide +kernel
theorem dX1_copyFrom_10 : decode cX1_copyFrom 10 = .ok (.bipush 25, 2) := by decide +kernel
theorem dX1_copyFrom_12 : decode cX1_copyFrom 12 = .ok (.invokestatic 47, 3) := by decide +kernel
theorem dX1_copyFrom_15 : decode cX1_copyFrom 15 = .ok (.aload_n 1, 1) := by decide +kernel
theorem dX1_copyFrom_16 : decode cX1_copyFrom 16 = .ok (.getfield 15, 3) := by decide +kernel
theorem dX1_copyFrom_19 : decode cX1_copyFrom 19 = .ok (.iconst 0, 1) := by decide +kernel
theorem dX1_copyFrom_20 : decode cX1_copyFrom 20 = .ok (.aload_n 0, 1) := by decide +kernel
theorem dX1_copyFrom_21 : decode cX1_copyFrom 21 = .ok (.getfield 15, 3) := by decide +kernel
theorem dX1_copyFrom_24 : decode cX1_copyFrom 24 = .ok (.iconst 0, 1) := by decide +kernel
theorem dX1_copyFrom_25 : decode cX1_copyFrom 25 = .ok (.bipush 25, 2) := by decide +kernel
theorem dX1_copyFrom_27 : decode cX1_copyFrom 27 = .ok (.invokestatic 47, 3) := by decide +kernel
theorem dX1_copyFrom_30 : decode cX1_copyFrom 30 = .ok (.aload_n 1, 1) := by decide +kernel
theorem dX1_copyFrom_31 : decode cX1_copyFrom 31 = .ok (.getfield 18, 3) := by decide +kernel
theorem dX1_copyFrom_34 : decode cX1_copyFrom 34 = .ok (.iconst 0, 1) := by decide +kernel
theorem dX1_copyFrom_35 : decode cX1_copyFrom 35 = .ok (.aload_n 0, 1) := by decide +kernel
theorem dX1_copyFrom_36 : decode cX1_copyFrom 36 = .ok (.getfield 18, 3) := by decide +kernel
theorem dX1_copyFrom_39 : decode cX1_copyFrom 39 = .ok (.iconst 0, 1) := by decide +kernel
theorem dX1_copyFrom_40 : decode cX1_copyFrom 40 = .ok (.bipush 6, 2) := by decide +kernel
theorem dX1_copyFrom_42 : decode cX1_copyFrom 42 = .ok (.invokestatic 47, 3) := by decide +kernel
theorem dX1_copyFrom_45 : decode cX1_copyFrom 45 = .ok (.aload_n 1, 1) := by decide +kernel
theorem dX1_copyFrom_46 : decode cX1_copyFrom 46 = .ok (.getfield 21, 3) := by decide +kernel
theorem dX1_copyFrom_49 : decode cX1_copyFrom 49 = .ok (.iconst 0, 1) := by decide +kernel
theorem dX1_copyFrom_50 : decode cX1_copyFrom 50 = .ok (.aload_n 0, 1) := by decide +kernel
theorem dX1_copyFrom_51 : decode cX1_copyFrom 51 = .ok (.getfield 21, 3) := by decide +kernel
theorem dX1_copyFrom_54 : decode cX1_copyFrom 54 = .ok (.iconst 0, 1) := by decide +kernel
theorem dX1_copyFrom_55 : decode cX1_copyFrom 55 = .ok (.iconst 3, 1) := by decide +kernel
theorem dX1_copyFrom_56 : decode cX1_copyFrom 56 = .ok (.invokestatic 47, 3) := by decide +kernel
theorem dX1_copyFrom_59 : decode cX1_copyFrom 59 = .ok (.aload_n 0, 1) := by decide +kernel
theorem dX1_copyFrom_60 : decode cX1_copyFrom 60 = .ok (.aload_n 1, 1) := by decide +kernel
theorem dX1_copyFrom_61 : decode cX1_copyFrom 61 = .ok (.getfield 27, 3) := by decide +kernel
theorem dX1_copyFrom_64 : decode cX1_copyFrom 64 = .ok (.putfield 27, 3) := by decide +kernel
theorem dX1_copyFrom_67 : decode cX1_copyFrom 67 = .ok (.aload_n 0, 1) := by decide +kernel
theorem dX1_copyFrom_68 : decode cX1_copyFrom 68 = .ok (.aload_n 1, 1) := by decide +kernel
theorem dX1_copyFrom_69 : decode cX1_copyFrom 69 = .ok (.getfield 31, 3) := by decide +kernel
theorem dX1_copyFrom_72 : decode cX1_copyFrom 72 = .ok (.putfield 31, 3) := by decide +kernel
theorem dX1_copyFrom_75 : decode cX1_copyFrom 75 = .ok (.aload_n 0, 1) := by decide +kernel
theorem dX1_copyFrom_76 : decode cX1_copyFrom 76 = .ok (.aload_n 1, 1) := by decide +kernel
theorem dX1_copyFrom_77 : decode cX1_copyFrom 77 = .ok (.getfield 34, 3) := by decide +kernel
theorem dX1_copyFrom_80 : decode cX1_copyFrom 80 = .ok (.putfield 34, 3) := by decide +kernel
theorem dX1_copyFrom_83 : decode cX1_copyFrom 83 = .ok (.aload_n 0, 1) := by decide +kernel
theorem dX1_copyFrom_84 : decode cX1_copyFrom 84 = .ok (.aload_n 1, 1) := by decide +kernel
theorem dX1_copyFrom_85 : decode cX1_copyFrom 85 = .ok (.getfield 37, 3) := by decide +kernel
theorem dX1_copyFrom_88 : decode cX1_copyFrom 88 = .ok (.putfield 37, 3) := by decide +kernel
theorem dX1_copyFrom_91 : decode cX1_copyFrom 91 = .ok (.return_, 1) := by decide +kernel
theorem dX1_replaceOpenings_0 : decode cX1_replaceOpenings 0 = .ok (.iload_n 1, 1) := by decide +kernel
theorem dX1_replaceOpenings_1 : decode cX1_replaceOpenings 1 = .ok (.invokestatic 53, 3) := by decide +kernel
theorem dX1_replaceOpenings_4 : decode cX1_replaceOpenings 4 = .ok (.ifCond .eq 10, 3) := by decide +kernel
theorem dX1_replaceOpenings_7 : decode cX1_replaceOpenings 7 = .ok (.iload_n 2, 1) := by decide +kernel
theorem dX1_replaceOpenings_8 : decode cX1_replaceOpenings 8 = .ok (.invokestatic 53, 3) := by decide +kernel
theorem dX1_replaceOpenings_11 : decode cX1_replaceOpenings 11 = .ok (.ifCond .ne 5, 3) := by decide +kernel
theorem dX1_replaceOpenings_14 : decode cX1_replaceOpenings 14 = .ok (.iconst (-1), 1) := by decide +kernel
theorem dX1_replaceOpenings_15 : decode cX1_replaceOpenings 15 = .ok (.ireturn, 1) := by decide +kernel
theorem dX1_replaceOpenings_16 : decode cX1_replaceOpenings 16 = .ok (.iload_n 3, 1) := by decide +kernel
theorem dX1_replaceOpenings_17 : decode cX1_replaceOpenings 17 = .ok (.ifCond .lt 9, 3) := by decide +kernel
theorem dX1_replaceOpenings_20 : decode cX1_replaceOpenings 20 = .ok (.iload_n 3, 1) := by decide +kernel
theorem dX1_replaceOpenings_21 : decode cX1_replaceOpenings 21 = .ok (.bipush 15, 2) := by decide +kernel
theorem dX1_replaceOpenings_23 : decode cX1_replaceOpenings 23 = .ok (.if_icmp .le 6, 3) := by decide +kernel
theorem dX1_replaceOpenings_26 : decode cX1_replaceOpenings 26 = .ok (.bipush (-2), 2) := by decide +kernel
theorem dX1_replaceOpenings_28 : decode cX1_replaceOpenings 28 = .ok (.ireturn, 1) := by decide +kernel
theorem dX1_replaceOpenings_29 : decode cX1_replaceOpenings 29 = .ok (.iload_n 1, 1) := by decide +kernel
theorem dX1_replaceOpenings_30 : decode cX1_replaceOpenings 30 = .ok (.iconst 5, 1) := by decide +kernel
theorem dX1_replaceOpenings_31 : decode cX1_replaceOpenings 31 = .ok (.imul, 1) := by decide +kernel
theorem dX1_replaceOpenings_32 : decode cX1_replaceOpenings 32 = .ok (.iload_n 2, 1) := by decide +kernel
theorem dX1_replaceOpenings_33 : decode cX1_replaceOpenings 33 = .ok (.iadd, 1) := by decide +kernel
theorem dX1_replaceOpenings_34 : decode cX1_replaceOpenings 34 = .ok (.istore 4, 2) := by decide +kernel
theorem dX1_replaceOpenings_36 : decode cX1_replaceOpenings 36 = .ok (.aload_n 0, 1) := by decide +kernel
theorem dX1_replaceOpenings_37 : decode cX1_replaceOpenings 37 = .ok (.getfield 9, 3) := by decide +kernel
theorem dX1_replaceOpenings_40 : decode cX1_replaceOpenings 40 = .ok (.iload 4, 2) := by decide +kernel
theorem dX1_replaceOpenings_42 : decode cX1_replaceOpenings 42 = .ok (.iaload, 1) := by decide +kernel
theorem dX1_replaceOpenings_43 : decode cX1_replaceOpenings 43 = .ok (.istore 5, 2) := by decide +kernel
theorem dX1_replaceOpenings_45 : decode cX1_replaceOpenings 45 = .ok (.aload_n 0, 1) := by decide +kernel
theorem dX1_replaceOpenings_46 : decode cX1_replaceOpenings 46 = .ok (.getfield 9, 3) := by decide +kernel
theorem dX1_replaceOpenings_49 : decode cX1_replaceOpenings 49 = .ok (.iload 4, 2) := by decide +kernel
theorem dX1_replaceOpenings_51 : decode cX1_replaceOpenings 51 = .ok (.iload_n 3, 1) := by decide +kernel
theorem dX1_replaceOpenings_52 : decode cX1_replaceOpenings 52 = .ok (.iastore, 1) := by decide +kernel
theorem dX1_replaceOpenings_53 : decode cX1_replaceOpenings 53 = .ok (.iload 5, 2) := by decide +kernel
theorem dX1_replaceOpenings_55 : decode cX1_replaceOpenings 55 = .ok (.ireturn, 1) := by decide +kernel
theorem dX1_turnOpenings_0 : decode cX1_turnOpenings 0 = .ok (.iload_n 1, 1) := by decide +kernel
theorem dX1_turnOpenings_1 : decode cX1_turnOpenings 1 = .ok (.invokestatic 53, 3) := by decide +kernel
theorem dX1_turnOpenings_4 : decode cX1_turnOpenings 4 = .ok (.ifCond .eq 10, 3) := by decide +kernel
theorem dX1_turnOpenings_7 : decode cX1_turnOpenings 7 = .ok (.iload_n 2, 1) := by decide +kernel
theorem dX1_turnOpenings_8 : decode cX1_turnOpenings 8 = .ok (.invokestatic 53, 3) := by decide +kernel
theorem dX1_turnOpenings_11 : decode cX1_turnOpenings 11 = .ok (.ifCond .ne 5, 3) := by decide +kernel
theorem dX1_turnOpenings_14 : decode cX1_turnOpenings 14 = .ok (.iconst (-1), 1) := by decide +kernel
theorem dX1_turnOpenings_15 : decode cX1_turnOpenings 15 = .ok (.ireturn, 1) := by decide +kernel
theorem dX1_turnOpenings_16 : decode cX1_turnOpenings 16 = .ok (.iload_n 3, 1) := by decide +kernel
theorem dX1_turnOpenings_17 : decode cX1_turnOpenings 17 = .ok (.iconst 1, 1) := by decide +kernel
theorem dX1_turnOpenings_18 : decode cX1_turnOpenings 18 = .ok (.if_icmp .lt 8, 3) := by decide +kernel
theorem dX1_turnOpenings_21 : decode cX1_turnOpenings 21 = .ok (.iload_n 3, 1) := by decide +kernel
theorem dX1_turnOpenings_22 : decode cX1_turnOpenings 22 = .ok (.iconst 4, 1) := by decide +kernel
theorem dX1_turnOpenings_23 : decode cX1_turnOpenings 23 = .ok (.if_icmp .lt 6, 3) := by decide +kernel
theorem dX1_turnOpenings_26 : decode cX1_turnOpenings 26 = .ok (.bipush (-2), 2) := by decide +kernel
theorem dX1_turnOpenings_28 : decode cX1_turnOpenings 28 = .ok (.ireturn, 1) := by decide +kernel
theorem dX1_turnOpenings_29 : decode cX1_turnOpenings 29 = .ok (.iload_n 1, 1) := by decide +kernel
theorem dX1_turnOpenings_30 : decode cX1_turnOpenings 30 = .ok (.iconst 5, 1) := by decide +kernel
theorem dX1_turnOpenings_31 : decode cX1_turnOpenings 31 = .ok (.imul, 1) := by decide +kernel
theorem dX1_turnOpenings_32 : decode cX1_turnOpenings 32 = .ok (.iload_n 2, 1) := by decide +kernel
theorem dX1_turnOpenings_33 : decode cX1_turnOpenings 33 = .ok (.iadd, 1) := by decide +kernel
theorem dX1_turnOpenings_34 : decode cX1_turnOpenings 34 = .ok (.istore 4, 2) := by decide +kernel
theorem dX1_turnOpenings_36 : decode cX1_turnOpenings 36 = .ok (.aload_n 0, 1) := by decide +kernel
theorem dX1_turnOpenings_37 : decode cX1_turnOpenings 37 = .ok (.iload 4, 2) := by decide +kernel
theorem dX1_turnOpenings_39 : decode cX1_turnOpenings 39 = .ok (.invokevirtual 57, 3) := by decide +kernel
theorem dX1_turnOpenings_42 : decode cX1_turnOpenings 42 = .ok (.ifCond .eq 6, 3) := by decide +kernel
theorem dX1_turnOpenings_45 : decode cX1_turnOpenings 45 = .ok (.bipush (-3), 2) := by decide +kernel
theorem dX1_turnOpenings_47 : decode cX1_turnOpenings 47 = .ok (.ireturn, 1) := by decide +kernel
theorem dX1_turnOpenings_48 : decode cX1_turnOpenings 48 = .ok (.aload_n 0, 1) := by decide +kernel
theorem dX1_turnOpenings_49 : decode cX1_turnOpenings 49 = .ok (.getfield 9, 3) := by decide +kernel
theorem dX1_turnOpenings_52 : decode cX1_turnOpenings 52 = .ok (.iload 4, 2) := by decide +kernel
theorem dX1_turnOpenings_54 : decode cX1_turnOpenings 54 = .ok (.iaload, 1) := by decide +kernel
theorem dX1_turnOpenings_55 : decode cX1_turnOpenings 55 = .ok (.iload_n 3, 1) := by decide +kernel
theorem dX1_turnOpenings_56 : decode cX1_turnOpenings 56 = .ok (.ishl, 1) := by decide +kernel
theorem dX1_turnOpenings_57 : decode cX1_turnOpenings 57 = .ok (.istore 5, 2) := by decide +kernel
theorem dX1_turnOpenings_59 : decode cX1_turnOpenings 59 = .ok (.aload_n 0, 1) := by decide +kernel
theorem dX1_turnOpenings_60 : decode cX1_turnOpenings 60 = .ok (.getfield 9, 3) := by decide +kernel
theorem dX1_turnOpenings_63 : decode cX1_turnOpenings 63 = .ok (.iload 4, 2) := by decide +kernel
theorem dX1_turnOpenings_65 : decode cX1_turnOpenings 65 = .ok (.iload 5, 2) := by decide +kernel
theorem dX1_turnOpenings_67 : decode cX1_turnOpenings 67 = .ok (.iload 5, 2) := by decide +kernel
theorem dX1_turnOpenings_69 : decode cX1_turnOpenings 69 = .ok (.iconst 4, 1) := by decide +kernel
theorem dX1_turnOpenings_70 : decode cX1_turnOpenings 70 = .ok (.ishr, 1) := by decide +kernel
theorem dX1_turnOpenings_71 : decode cX1_turnOpenings 71 = .ok (.ior, 1) := by decide +kernel
theorem dX1_turnOpenings_72 : decode cX1_turnOpenings 72 = .ok (.bipush 15, 2) := by decide +kernel
theorem dX1_turnOpenings_74 : decode cX1_turnOpenings 74 = .ok (.iand, 1) := by decide +kernel
theorem dX1_turnOpenings_75 : decode cX1_turnOpenings 75 = .ok (.iastore, 1) := by decide +kernel
theorem dX1_turnOpenings_76 : decode cX1_turnOpenings 76 = .ok (.aload_n 0, 1) := by decide +kernel
theorem dX1_turnOpenings_77 : decode cX1_turnOpenings 77 = .ok (.getfield 9, 3) := by decide +kernel
theorem dX1_turnOpenings_80 : decode cX1_turnOpenings 80 = .ok (.iload 4, 2) := by decide +kernel
theorem dX1_turnOpenings_82 : decode cX1_turnOpenings 82 = .ok (.iaload, 1) := by decide +kernel
theorem dX1_turnOpenings_83 : decode cX1_turnOpenings 83 = .ok (.ireturn, 1) := by decide +kernel
theorem dX1_fixTile_0 : decode cX1_fixTile 0 = .ok (.iload_n 1, 1) := by decide +kernel
theorem dX1_fixTile_1 : decode cX1_fixTile 1 = .ok (.invokestatic 53, 3) := by decide +kernel
theorem dX1_fixTile_4 : decode cX1_fixTile 4 = .ok (.ifCond .eq 10, 3) := by decide +kernel
theorem dX1_fixTile_7 : decode cX1_fixTile 7 = .ok (.iload_n 2, 1) := by decide +kernel
theorem dX1_fixTile_8 : decode cX1_fixTile 8 = .ok (.invokestatic 53, 3) := by decide +kernel
theorem dX1_fixTile_11 : decode cX1_fixTile 11 = .ok (.ifCond .ne 5, 3) := by decide +kernel
theorem dX1_fixTile_14 : decode cX1_fixTile 14 = .ok (.iconst (-1), 1) := by decide +kernel
theorem dX1_fixTile_15 : decode cX1_fixTile 15 = .ok (.ireturn, 1) := by decide +kernel
theorem dX1_fixTile_16 : decode cX1_fixTile 16 = .ok (.iload_n 1, 1) := by decide +kernel
theorem dX1_fixTile_17 : decode cX1_fixTile 17 = .ok (.iconst 5, 1) := by decide +kernel
theorem dX1_fixTile_18 : decode cX1_fixTile 18 = .ok (.imul, 1) := by decide +kernel
theorem dX1_fixTile_19 : decode cX1_fixTile 19 = .ok (.iload_n 2, 1) := by decide +kernel
theorem dX1_fixTile_20 : decode cX1_fixTile 20 = .ok (.iadd, 1) := by decide +kernel
theorem dX1_fixTile_21 : decode cX1_fixTile 21 = .ok (.istore_n 3, 1) := by decide +kernel
theorem dX1_fixTile_22 : decode cX1_fixTile 22 = .ok (.aload_n 0, 1) := by decide +kernel
theorem dX1_fixTile_23 : decode cX1_fixTile 23 = .ok (.iload_n 3, 1) := by decide +kernel
theorem dX1_fixTile_24 : decode cX1_fixTile 24 = .ok (.invokevirtual 57, 3) := by decide +kernel
theorem dX1_fixTile_27 : decode cX1_fixTile 27 = .ok (.ifCond .eq 6, 3) := by decide +kernel
theorem dX1_fixTile_30 : decode cX1_fixTile 30 = .ok (.bipush (-3), 2) := by decide +kernel
theorem dX1_fixTile_32 : decode cX1_fixTile 32 = .ok (.ireturn, 1) := by decide +kernel
theorem dX1_fixTile_33 : decode cX1_fixTile 33 = .ok (.aload_n 0, 1) := by decide +kernel
theorem dX1_fixTile_34 : decode cX1_fixTile 34 = .ok (.dup, 1) := by decide +kernel
theorem dX1_fixTile_35 : decode cX1_fixTile 35 = .ok (.getfield 27, 3) := by decide +kernel
theorem dX1_fixTile_38 : decode cX1_fixTile 38 = .ok (.iconst 1, 1) := by decide +kernel
theorem dX1_fixTile_39 : decode cX1_fixTile 39 = .ok (.iload_n 3, 1) := by decide +kernel
theorem dX1_fixTile_40 : decode cX1_fixTile 40 = .ok (.ishl, 1) := by decide +kernel
theorem dX1_fixTile_41 : decode cX1_fixTile 41 = .ok (.ior, 1) := by decide +kernel
theorem dX1_fixTile_42 : decode cX1_fixTile 42 = .ok (.putfield 27, 3) := by decide +kernel
theorem dX1_fixTile_45 : decode cX1_fixTile 45 = .ok (.aload_n 0, 1) := by decide +kernel
theorem dX1_fixTile_46 : decode cX1_fixTile 46 = .ok (.getfield 27, 3) := by decide +kernel
theorem dX1_fixTile_49 : decode cX1_fixTile 49 = .ok (.invokestatic 60, 3) := by decide +kernel
theorem dX1_fixTile_52 : decode cX1_fixTile 52 = .ok (.ireturn, 1) := by decide +kernel
theorem dX1_freeTile_0 : decode cX1_freeTile 0 = .ok (.iload_n 1, 1) := by decide +kernel
theorem dX1_freeTile_1 : decode cX1_freeTile 1 = .ok (.invokestatic 53, 3) := by decide +kernel
theorem dX1_freeTile_4 : decode cX1_freeTile 4 = .ok (.ifCond .eq 10, 3) := by decide +kernel
theorem dX1_freeTile_7 : decode cX1_freeTile 7 = .ok (.iload_n 2, 1) := by decide +kernel
theorem dX1_freeTile_8 : decode cX1_freeTile 8 = .ok (.invokestatic 53, 3) := by decide +kernel
theorem dX1_freeTile_11 : decode cX1_freeTile 11 = .ok (.ifCond .ne 5, 3) := by decide +kernel
theorem dX1_freeTile_14 : decode cX1_freeTile 14 = .ok (.iconst (-1), 1) := by decide +kernel
theorem dX1_freeTile_15 : decode cX1_freeTile 15 = .ok (.ireturn, 1) := by decide +kernel
theorem dX1_freeTile_16 : decode cX1_freeTile 16 = .ok (.iload_n 1, 1) := by decide +kernel
theorem dX1_freeTile_17 : decode cX1_freeTile 17 = .ok (.iconst 5, 1) := by decide +kernel
theorem dX1_freeTile_18 : decode cX1_freeTile 18 = .ok (.imul, 1) := by decide +kernel
theorem dX1_freeTile_19 : decode cX1_freeTile 19 = .ok (.iload_n 2, 1) := by decide +kernel
theorem dX1_freeTile_20 : decode cX1_freeTile 20 = .ok (.iadd, 1) := by decide +kernel
theorem dX1_freeTile_21 : decode cX1_freeTile 21 = .ok (.istore_n 3, 1) := by decide +kernel
theorem dX1_freeTile_22 : decode cX1_freeTile 22 = .ok (.aload_n 0, 1) := by decide +kernel
theorem dX1_freeTile_23 : decode cX1_freeTile 23 = .ok (.iload_n 3, 1) := by decide +kernel
theorem dX1_freeTile_24 : decode cX1_freeTile 24 = .ok (.invokevirtual 57, 3) := by decide +kernel
theorem dX1_freeTile_27 : decode cX1_freeTile 27 = .ok (.ifCond .ne 6, 3) := by decide +kernel
theorem dX1_freeTile_30 : decode cX1_freeTile 30 = .ok (.bipush (-3), 2) := by decide +kernel
theorem dX1_freeTile_32 : decode cX1_freeTile 32 = .ok (.ireturn, 1) := by decide +kernel
theorem dX1_freeTile_33 : decode cX1_freeTile 33 = .ok (.aload_n 0, 1) := by decide +kernel
theorem dX1_freeTile_34 : decode cX1_freeTile 34 = .ok (.dup, 1) := by decide +kernel
theorem dX1_freeTile_35 : decode cX1_freeTile 35 = .ok (.getfield 27, 3) := by decide +kernel
theorem dX1_freeTile_38 : decode cX1_freeTile 38 = .ok (.iconst 1, 1) := by decide +kernel
theorem dX1_freeTile_39 : decode cX1_freeTile 39 = .ok (.iload_n 3, 1) := by decide +kernel
theorem dX1_freeTile_40 : decode cX1_freeTile 40 = .ok (.ishl, 1) := by decide +kernel
theorem dX1_freeTile_41 : decode cX1_freeTile 41 = .ok (.iconst (-1), 1) := by decide +kernel
theorem dX1_freeTile_42 : decode cX1_freeTile 42 = .ok (.ixor, 1) := by decide +kernel
theorem dX1_freeTile_43 : decode cX1_freeTile 43 = .ok (.iand, 1) := by decide +kernel
theorem dX1_freeTile_44 : decode cX1_freeTile 44 = .ok (.putfield 27, 3) := by decide +kernel
theorem dX1_freeTile_47 : decode cX1_freeTile 47 = .ok (.aload_n 0, 1) := by decide +kernel
theorem dX1_freeTile_48 : decode cX1_freeTile 48 = .ok (.getfield 27, 3) := by decide +kernel
theorem dX1_freeTile_51 : decode cX1_freeTile 51 = .ok (.invokestatic 60, 3) := by decide +kernel
theorem dX1_freeTile_54 : decode cX1_freeTile 54 = .ok (.ireturn, 1) := by decide +kernel
theorem dX1_moveRow_0 : decode cX1_moveRow 0 = .ok (.iload_n 1, 1) := by decide +kernel
theorem dX1_moveRow_1 : decode cX1_moveRow 1 = .ok (.invokestatic 53, 3) := by decide +kernel
theorem dX1_moveRow_4 : decode cX1_moveRow 4 = .ok (.ifCond .eq 15, 3) := by decide +kernel
theorem dX1_moveRow_7 : decode cX1_moveRow 7 = .ok (.aload_n 0, 1) := by decide +kernel
theorem dX1_moveRow_8 : decode cX1_moveRow 8 = .ok (.iload_n 1, 1) := by decide +kernel
theorem dX1_moveRow_9 : decode cX1_moveRow 9 = .ok (.iconst 5, 1) := by decide +kernel
theorem dX1_moveRow_10 : decode cX1_moveRow 10 = .ok (.imul, 1) := by decide +kernel
theorem dX1_moveRow_11 : decode cX1_moveRow 11 = .ok (.iconst 1, 1) := by decide +kernel
theorem dX1_moveRow_12 : decode cX1_moveRow 12 = .ok (.iload_n 2, 1) := by decide +kernel
theorem dX1_moveRow_13 : decode cX1_moveRow 13 = .ok (.invokevirtual 66, 3) := by decide +kernel
theorem dX1_moveRow_16 : decode cX1_moveRow 16 = .ok (.goto 4, 3) := by decide +kernel
theorem dX1_moveRow_19 : decode cX1_moveRow 19 = .ok (.iconst (-1), 1) := by decide +kernel
theorem dX1_moveRow_20 : decode cX1_moveRow 20 = .ok (.ireturn, 1) := by decide +kernel
theorem dX1_moveColumn_0 : decode cX1_moveColumn 0 = .ok (.iload_n 1, 1) := by decide +kernel
theorem dX1_moveColumn_1 : decode cX1_moveColumn 1 = .ok (.invokestatic 53, 3) := by decide +kernel
theorem dX1_moveColumn_4 : decode cX1_moveColumn 4 = .ok (.ifCond .eq 13, 3) := by decide +kernel
theorem dX1_moveColumn_7 : decode cX1_moveColumn 7 = .ok (.aload_n 0, 1) := by decide +kernel
theorem dX1_moveColumn_8 : decode cX1_moveColumn 8 = .ok (.iload_n 1, 1) := by decide +kernel
theorem dX1_moveColumn_9 : decode cX1_moveColumn 9 = .ok (.iconst 5, 1) := by decide +kernel
theorem dX1_moveColumn_10 : decode cX1_moveColumn 10 = .ok (.iload_n 2, 1) := by decide +kernel
theorem dX1_moveColumn_11 : decode cX1_moveColumn 11 = .ok (.invokevirtual 66, 3) := by decide +kernel
theorem dX1_moveColumn_14 : decode cX1_moveColumn 14 = .ok (.goto 4, 3) := by decide +kernel
theorem dX1_moveColumn_17 : decode cX1_moveColumn 17 = .ok (.iconst (-1), 1) := by decide +kernel
theorem dX1_moveColumn_18 : decode cX1_moveColumn 18 = .ok (.ireturn, 1) := by decide +kernel
theorem dX1_layKey_0 : decode cX1_layKey 0 = .ok (.iload_n 1, 1) := by decide +kernel
theorem dX1_layKey_1 : decode cX1_layKey 1 = .ok (.invokestatic 70, 3) := by decide +kernel
theorem dX1_layKey_4 : decode cX1_layKey 4 = .ok (.ifCond .ne 6, 3) := by decide +kernel
theorem dX1_layKey_7 : decode cX1_layKey 7 = .ok (.bipush (-2), 2) := by decide +kernel
theorem dX1_layKey_9 : decode cX1_layKey 9 = .ok (.ireturn, 1) := by decide +kernel
theorem dX1_layKey_10 : decode cX1_layKey 10 = .ok (.iload_n 2, 1) := by decide +kernel
theorem dX1_layKey_11 : decode cX1_layKey 11 = .ok (.invokestatic 53, 3) := by decide +kernel
theorem dX1_layKey_14 : decode cX1_layKey 14 = .ok (.ifCond .eq 10, 3) := by decide +kernel
theorem dX1_layKey_17 : decode cX1_layKey 17 = .ok (.iload_n 3, 1) := by decide +kernel
theorem dX1_layKey_18 : decode cX1_layKey 18 = .ok (.invokestatic 53, 3) := by decide +kernel
theorem dX1_layKey_21 : decode cX1_layKey 21 = .ok (.ifCond .ne 5, 3) := by decide +kernel
theorem dX1_layKey_24 : decode cX1_layKey 24 = .ok (.iconst (-1), 1) := by decide +kernel
theorem dX1_layKey_25 : decode cX1_layKey 25 = .ok (.ireturn, 1) := by decide +kernel
theorem dX1_layKey_26 : decode cX1_layKey 26 = .ok (.aload_n 0, 1) := by decide +kernel
theorem dX1_layKey_27 : decode cX1_layKey 27 = .ok (.getfield 18, 3) := by decide +kernel
theorem dX1_layKey_30 : decode cX1_layKey 30 = .ok (.iload_n 1, 1) := by decide +kernel
theorem dX1_layKey_31 : decode cX1_layKey 31 = .ok (.bipush 97, 2) := by decide +kernel
theorem dX1_layKey_33 : decode cX1_layKey 33 = .ok (.isub, 1) := by decide +kernel
theorem dX1_layKey_34 : decode cX1_layKey 34 = .ok (.iaload, 1) := by decide +kernel
theorem dX1_layKey_35 : decode cX1_layKey 35 = .ok (.iconst (-1), 1) := by decide +kernel
theorem dX1_layKey_36 : decode cX1_layKey 36 = .ok (.if_icmp .eq 6, 3) := by decide +kernel
theorem dX1_layKey_39 : decode cX1_layKey 39 = .ok (.bipush (-3), 2) := by decide +kernel
theorem dX1_layKey_41 : decode cX1_layKey 41 = .ok (.ireturn, 1) := by decide +kernel
theorem dX1_layKey_42 : decode cX1_layKey 42 = .ok (.iload_n 2, 1) := by decide +kernel
theorem dX1_layKey_43 : decode cX1_layKey 43 = .ok (.iconst 5, 1) := by decide +kernel
theorem dX1_layKey_44 : decode cX1_layKey 44 = .ok (.imul, 1) := by decide +kernel
theorem dX1_layKey_45 : decode cX1_layKey 45 = .ok (.iload_n 3, 1) := by decide +kernel
theorem dX1_layKey_46 : decode cX1_layKey 46 = .ok (.iadd, 1) := by decide +kernel
theorem dX1_layKey_47 : decode cX1_layKey 47 = .ok (.istore 4, 2) := by decide +kernel
theorem dX1_layKey_49 : decode cX1_layKey 49 = .ok (.aload_n 0, 1) := by decide +kernel
theorem dX1_layKey_50 : decode cX1_layKey 50 = .ok (.getfield 18, 3) := by decide +kernel
theorem dX1_layKey_53 : decode cX1_layKey 53 = .ok (.iload_n 1, 1) := by decide +kernel
theorem dX1_layKey_54 : decode cX1_layKey 54 = .ok (.bipush 97, 2) := by decide +kernel
theorem dX1_layKey_56 : decode cX1_layKey 56 = .ok (.isub, 1) := by decide +kernel
theorem dX1_layKey_57 : decode cX1_layKey 57 = .ok (.iload 4, 2) := by decide +kernel
theorem dX1_layKey_59 : decode cX1_layKey 59 = .ok (.iastore, 1) := by decide +kernel
theorem dX1_layKey_60 : decode cX1_layKey 60 = .ok (.aload_n 0, 1) := by decide +kernel
theorem dX1_layKey_61 : decode cX1_layKey 61 = .ok (.iload 4, 2) := by decide +kernel
theorem dX1_layKey_63 : decode cX1_layKey 63 = .ok (.invokevirtual 74, 3) := by decide +kernel
theorem dX1_layKey_66 : decode cX1_layKey 66 = .ok (.ireturn, 1) := by decide +kernel
theorem dX1_hangLock_0 : decode cX1_hangLock 0 = .ok (.iload_n 1, 1) := by decide +kernel
theorem dX1_hangLock_1 : decode cX1_hangLock 1 = .ok (.invokestatic 53, 3) := by decide +kernel
theorem dX1_hangLock_4 : decode cX1_hangLock 4 = .ok (.ifCond .eq 10, 3) := by decide +kernel
theorem dX1_hangLock_7 : decode cX1_hangLock 7 = .ok (.iload_n 2, 1) := by decide +kernel
theorem dX1_hangLock_8 : decode cX1_hangLock 8 = .ok (.invokestatic 53, 3) := by decide +kernel
theorem dX1_hangLock_11 : decode cX1_hangLock 11 = .ok (.ifCond .ne 5, 3) := by decide +kernel
theorem dX1_hangLock_14 : decode cX1_hangLock 14 = .ok (.iconst (-1), 1) := by decide +kernel
theorem dX1_hangLock_15 : decode cX1_hangLock 15 = .ok (.ireturn, 1) := by decide +kernel
theorem dX1_hangLock_16 : decode cX1_hangLock 16 = .ok (.iload_n 3, 1) := by decide +kernel
theorem dX1_hangLock_17 : decode cX1_hangLock 17 = .ok (.invokestatic 70, 3) := by decide +kernel
theorem dX1_hangLock_20 : decode cX1_hangLock 20 = .ok (.ifCond .ne 6, 3) := by decide +kernel
theorem dX1_hangLock_23 : decode cX1_hangLock 23 = .ok (.bipush (-2), 2) := by decide +kernel
theorem dX1_hangLock_25 : decode cX1_hangLock 25 = .ok (.ireturn, 1) := by decide +kernel
theorem dX1_hangLock_26 : decode cX1_hangLock 26 = .ok (.iload_n 1, 1) := by decide +kernel
theorem dX1_hangLock_27 : decode cX1_hangLock 27 = .ok (.iconst 5, 1) := by decide +kernel
theorem dX1_hangLock_28 : decode cX1_hangLock 28 = .ok (.imul, 1) := by decide +kernel
theorem dX1_hangLock_29 : decode cX1_hangLock 29 = .ok (.iload_n 2, 1) := by decide +kernel
theorem dX1_hangLock_30 : decode cX1_hangLock 30 = .ok (.iadd, 1) := by decide +kernel
theorem dX1_hangLock_31 : decode cX1_hangLock 31 = .ok (.istore 4, 2) := by decide +kernel
theorem dX1_hangLock_33 : decode cX1_hangLock 33 = .ok (.aload_n 0, 1) := by decide +kernel
theorem dX1_hangLock_34 : decode cX1_hangLock 34 = .ok (.getfield 15, 3) := by decide +kernel
theorem dX1_hangLock_37 : decode cX1_hangLock 37 = .ok (.iload 4, 2) := by decide +kernel
theorem dX1_hangLock_39 : decode cX1_hangLock 39 = .ok (.iaload, 1) := by decide +kernel
theorem dX1_hangLock_40 : decode cX1_hangLock 40 = .ok (.iconst (-1), 1) := by decide +kernel
theorem dX1_hangLock_41 : decode cX1_hangLock 41 = .ok (.if_icmp .eq 6, 3) := by decide +kernel
theorem dX1_hangLock_44 : decode cX1_hangLock 44 = .ok (.bipush (-3), 2) := by decide +kernel
theorem dX1_hangLock_46 : decode cX1_hangLock 46 = .ok (.ireturn, 1) := by decide +kernel
theorem dX1_hangLock_47 : decode cX1_hangLock 47 = .ok (.aload_n 0, 1) := by decide +kernel
theorem dX1_hangLock_48 : decode cX1_hangLock 48 = .ok (.getfield 15, 3) := by decide +kernel
theorem dX1_hangLock_51 : decode cX1_hangLock 51 = .ok (.iload 4, 2) := by decide +kernel
theorem dX1_hangLock_53 : decode cX1_hangLock 53 = .ok (.iload_n 3, 1) := by decide +kernel
theorem dX1_hangLock_54 : decode cX1_hangLock 54 = .ok (.bipush 97, 2) := by decide +kernel
theorem dX1_hangLock_56 : decode cX1_hangLock 56 = .ok (.isub, 1) := by decide +kernel
theorem dX1_hangLock_57 : decode cX1_hangLock 57 = .ok (.iastore, 1) := by decide +kernel
theorem dX1_hangLock_58 : decode cX1_hangLock 58 = .ok (.aload_n 0, 1) := by decide +kernel
theorem dX1_hangLock_59 : decode cX1_hangLock 59 = .ok (.invokevirtual 77, 3) := by decide +kernel
theorem dX1_hangLock_62 : decode cX1_hangLock 62 = .ok (.ireturn, 1) := by decide +kernel
theorem dX1_takeLock_0 : decode cX1_takeLock 0 = .ok (.iload_n 1, 1) := by decide +kernel
theorem dX1_takeLock_1 : decode cX1_takeLock 1 = .ok (.invokestatic 53, 3) := by decide +kernel
theorem dX1_takeLock_4 : decode cX1_takeLock 4 = .ok (.ifCond .eq 10, 3) := by decide +kernel
theorem dX1_takeLock_7 : decode cX1_takeLock 7 = .ok (.iload_n 2, 1) := by decide +kernel
theorem dX1_takeLock_8 : decode cX1_takeLock 8 = .ok (.invokestatic 53, 3) := by decide +kernel
theorem dX1_takeLock_11 : decode cX1_takeLock 11 = .ok (.ifCond .ne 5, 3) := by decide +kernel
theorem dX1_takeLock_14 : decode cX1_takeLock 14 = .ok (.iconst (-1), 1) := by decide +kernel
theorem dX1_takeLock_15 : decode cX1_takeLock 15 = .ok (.ireturn, 1) := by decide +kernel
theorem dX1_takeLock_16 : decode cX1_takeLock 16 = .ok (.iload_n 1, 1) := by decide +kernel
theorem dX1_takeLock_17 : decode cX1_takeLock 17 = .ok (.iconst 5, 1) := by decide +kernel
theorem dX1_takeLock_18 : decode cX1_takeLock 18 = .ok (.imul, 1) := by decide +kernel
theorem dX1_takeLock_19 : decode cX1_takeLock 19 = .ok (.iload_n 2, 1) := by decide +kernel
theorem dX1_takeLock_20 : decode cX1_takeLock 20 = .ok (.iadd, 1) := by decide +kernel
theorem dX1_takeLock_21 : decode cX1_takeLock 21 = .ok (.istore_n 3, 1) := by decide +kernel
theorem dX1_takeLock_22 : decode cX1_takeLock 22 = .ok (.aload_n 0, 1) := by decide +kernel
theorem dX1_takeLock_23 : decode cX1_takeLock 23 = .ok (.getfield 15, 3) := by decide +kernel
theorem dX1_takeLock_26 : decode cX1_takeLock 26 = .ok (.iload_n 3, 1) := by decide +kernel
theorem dX1_takeLock_27 : decode cX1_takeLock 27 = .ok (.iaload, 1) := by decide +kernel
theorem dX1_takeLock_28 : decode cX1_takeLock 28 = .ok (.istore 4, 2) := by decide +kernel
theorem dX1_takeLock_30 : decode cX1_takeLock 30 = .ok (.iload 4, 2) := by decide +kernel
theorem dX1_takeLock_32 : decode cX1_takeLock 32 = .ok (.iconst (-1), 1) := by decide +kernel
theorem dX1_takeLock_33 : decode cX1_takeLock 33 = .ok (.if_icmp .ne 6, 3) := by decide +kernel
theorem dX1_takeLock_36 : decode cX1_takeLock 36 = .ok (.bipush (-5), 2) := by decide +kernel
theorem dX1_takeLock_38 : decode cX1_takeLock 38 = .ok (.ireturn, 1) := by decide +kernel
theorem dX1_takeLock_39 : decode cX1_takeLock 39 = .ok (.aload_n 0, 1) := by decide +kernel
theorem dX1_takeLock_40 : decode cX1_takeLock 40 = .ok (.getfield 15, 3) := by decide +kernel
theorem dX1_takeLock_43 : decode cX1_takeLock 43 = .ok (.iload_n 3, 1) := by decide +kernel
theorem dX1_takeLock_44 : decode cX1_takeLock 44 = .ok (.iconst (-1), 1) := by decide +kernel
theorem dX1_takeLock_45 : decode cX1_takeLock 45 = .ok (.iastore, 1) := by decide +kernel
theorem dX1_takeLock_46 : decode cX1_takeLock 46 = .ok (.iload 4, 2) := by decide +kernel
theorem dX1_takeLock_48 : decode cX1_takeLock 48 = .ok (.invokestatic 81, 3) := by decide +kernel
theorem dX1_takeLock_51 : decode cX1_takeLock 51 = .ok (.ireturn, 1) := by decide +kernel
theorem dX1_enterWalker_0 : decode cX1_enterWalker 0 = .ok (.iload_n 1, 1) := by decide +kernel
theorem dX1_enterWalker_1 : decode cX1_enterWalker 1 = .ok (.invokestatic 53, 3) := by decide +kernel
theorem dX1_enterWalker_4 : decode cX1_enterWalker 4 = .ok (.ifCond .eq 10, 3) := by decide +kernel
theorem dX1_enterWalker_7 : decode cX1_enterWalker 7 = .ok (.iload_n 2, 1) := by decide +kernel
theorem dX1_enterWalker_8 : decode cX1_enterWalker 8 = .ok (.invokestatic 53, 3) := by decide +kernel
theorem dX1_enterWalker_11 : decode cX1_enterWalker 11 = .ok (.ifCond .ne 5, 3) := by decide +kernel
theorem dX1_enterWalker_14 : decode cX1_enterWalker 14 = .ok (.iconst (-1), 1) := by decide +kernel
theorem dX1_enterWalker_15 : decode cX1_enterWalker 15 = .ok (.ireturn, 1) := by decide +kernel
theorem dX1_enterWalker_16 : decode cX1_enterWalker 16 = .ok (.aload_n 0, 1) := by decide +kernel
theorem dX1_enterWalker_17 : decode cX1_enterWalker 17 = .ok (.getfield 31, 3) := by decide +kernel
theorem dX1_enterWalker_20 : decode cX1_enterWalker 20 = .ok (.iconst 3, 1) := by decide +kernel
theorem dX1_enterWalker_21 : decode cX1_enterWalker 21 = .ok (.if_icmp .lt 6, 3) := by decide +kernel
theorem dX1_enterWalker_24 : decode cX1_enterWalker 24 = .ok (.bipush (-3), 2) := by decide +kernel
theorem dX1_enterWalker_26 : decode cX1_enterWalker 26 = .ok (.ireturn, 1) := by decide +kernel
theorem dX1_enterWalker_27 : decode cX1_enterWalker 27 = .ok (.iload_n 1, 1) := by decide +kernel
theorem dX1_enterWalker_28 : decode cX1_enterWalker 28 = .ok (.iconst 5, 1) := by decide +kernel
theorem dX1_enterWalker_29 : decode cX1_enterWalker 29 = .ok (.imul, 1) := by decide +kernel
theorem dX1_enterWalker_30 : decode cX1_enterWalker 30 = .ok (.iload_n 2, 1) := by decide +kernel
theorem dX1_enterWalker_31 : decode cX1_enterWalker 31 = .ok (.iadd, 1) := by decide +kernel
theorem dX1_enterWalker_32 : decode cX1_enterWalker 32 = .ok (.istore_n 3, 1) := by decide +kernel
theorem dX1_enterWalker_33 : decode cX1_enterWalker 33 = .ok (.aload_n 0, 1) := by decide +kernel
theorem dX1_enterWalker_34 : decode cX1_enterWalker 34 = .ok (.getfield 15, 3) := by decide +kernel
theorem dX1_enterWalker_37 : decode cX1_enterWalker 37 = .ok (.iload_n 3, 1) := by decide +kernel
theorem dX1_enterWalker_38 : decode cX1_enterWalker 38 = .ok (.iaload, 1) := by decide +kernel
theorem dX1_enterWalker_39 : decode cX1_enterWalker 39 = .ok (.iconst (-1), 1) := by decide +kernel
theorem dX1_enterWalker_40 : decode cX1_enterWalker 40 = .ok (.if_icmp .eq 6, 3) := by decide +kernel
theorem dX1_enterWalker_43 : decode cX1_enterWalker 43 = .ok (.bipush (-4), 2) := by decide +kernel
theorem dX1_enterWalker_45 : decode cX1_enterWalker 45 = .ok (.ireturn, 1) := by decide +kernel
theorem dX1_enterWalker_46 : decode cX1_enterWalker 46 = .ok (.aload_n 0, 1) := by decide +kernel
theorem dX1_enterWalker_47 : decode cX1_enterWalker 47 = .ok (.getfield 31, 3) := by decide +kernel
theorem dX1_enterWalker_50 : decode cX1_enterWalker 50 = .ok (.istore 4, 2) := by decide +kernel
theorem dX1_enterWalker_52 : decode cX1_enterWalker 52 = .ok (.aload_n 0, 1) := by decide +kernel
theorem dX1_enterWalker_53 : decode cX1_enterWalker 53 = .ok (.dup, 1) := by decide +kernel
theorem dX1_enterWalker_54 : decode cX1_enterWalker 54 = .ok (.getfield 31, 3) := by decide +kernel
theorem dX1_enterWalker_57 : decode cX1_enterWalker 57 = .ok (.iconst 1, 1) := by decide +kernel
theorem dX1_enterWalker_58 : decode cX1_enterWalker 58 = .ok (.iadd, 1) := by decide +kernel
theorem dX1_enterWalker_59 : decode cX1_enterWalker 59 = .ok (.putfield 31, 3) := by decide +kernel
theorem dX1_enterWalker_62 : decode cX1_enterWalker 62 = .ok (.aload_n 0, 1) := by decide +kernel
theorem dX1_enterWalker_63 : decode cX1_enterWalker 63 = .ok (.iload 4, 2) := by decide +kernel
theorem dX1_enterWalker_65 : decode cX1_enterWalker 65 = .ok (.iload_n 3, 1) := by decide +kernel
theorem dX1_enterWalker_66 : decode cX1_enterWalker 66 = .ok (.invokevirtual 85, 3) := by decide +kernel
theorem dX1_enterWalker_69 : decode cX1_enterWalker 69 = .ok (.iload 4, 2) := by decide +kernel
theorem dX1_enterWalker_71 : decode cX1_enterWalker 71 = .ok (.ireturn, 1) := by decide +kernel
theorem dX1_moveWalker_0 : decode cX1_moveWalker 0 = .ok (.aload_n 0, 1) := by decide +kernel
theorem dX1_moveWalker_1 : decode cX1_moveWalker 1 = .ok (.iload_n 2, 1) := by decide +kernel
theorem dX1_moveWalker_2 : decode cX1_moveWalker 2 = .ok (.invokevirtual 89, 3) := by decide +kernel
theorem dX1_moveWalker_5 : decode cX1_moveWalker 5 = .ok (.ifCond .eq 18, 3) := by decide +kernel
theorem dX1_moveWalker_8 : decode cX1_moveWalker 8 = .ok (.iload_n 3, 1) := by decide +kernel
theorem dX1_moveWalker_9 : decode cX1_moveWalker 9 = .ok (.invokestatic 53, 3) := by decide +kernel
theorem dX1_moveWalker_12 : decode cX1_moveWalker 12 = .ok (.ifCond .eq 11, 3) := by decide +kernel
theorem dX1_moveWalker_15 : decode cX1_moveWalker 15 = .ok (.iload 4, 2) := by decide +kernel
theorem dX1_moveWalker_17 : decode cX1_moveWalker 17 = .ok (.invokestatic 53, 3) := by decide +kernel
theorem dX1_moveWalker_20 : decode cX1_moveWalker 20 = .ok (.ifCond .ne 5, 3) := by decide +kernel
theorem dX1_moveWalker_23 : decode cX1_moveWalker 23 = .ok (.iconst (-1), 1) := by decide +kernel
theorem dX1_moveWalker_24 : decode cX1_moveWalker 24 = .ok (.ireturn, 1) := by decide +kernel
theorem dX1_moveWalker_25 : decode cX1_moveWalker 25 = .ok (.iload_n 3, 1) := by decide +kernel
theorem dX1_moveWalker_26 : decode cX1_moveWalker 26 = .ok (.iconst 5, 1) := by decide +kernel
theorem dX1_moveWalker_27 : decode cX1_moveWalker 27 = .ok (.imul, 1) := by decide +kernel
theorem dX1_moveWalker_28 : decode cX1_moveWalker 28 = .ok (.iload 4, 2) := by decide +kernel
theorem dX1_moveWalker_30 : decode cX1_moveWalker 30 = .ok (.iadd, 1) := by decide +kernel
theorem dX1_moveWalker_31 : decode cX1_moveWalker 31 = .ok (.istore 5, 2) := by decide +kernel
theorem dX1_moveWalker_33 : decode cX1_moveWalker 33 = .ok (.aload_n 0, 1) := by decide +kernel
theorem dX1_moveWalker_34 : decode cX1_moveWalker 34 = .ok (.getfield 21, 3) := by decide +kernel
theorem dX1_moveWalker_37 : decode cX1_moveWalker 37 = .ok (.iload_n 2, 1) := by decide +kernel
theorem dX1_moveWalker_38 : decode cX1_moveWalker 38 = .ok (.iaload, 1) := by decide +kernel
theorem dX1_moveWalker_39 : decode cX1_moveWalker 39 = .ok (.iload 5, 2) := by decide +kernel
theorem dX1_moveWalker_41 : decode cX1_moveWalker 41 = .ok (.if_icmp .ne 6, 3) := by decide +kernel
theorem dX1_moveWalker_44 : decode cX1_moveWalker 44 = .ok (.bipush (-2), 2) := by decide +kernel
theorem dX1_moveWalker_46 : decode cX1_moveWalker 46 = .ok (.ireturn, 1) := by decide +kernel
theorem dX1_moveWalker_47 : decode cX1_moveWalker 47 = .ok (.aload_n 1, 1) := by decide +kernel
theorem dX1_moveWalker_48 : decode cX1_moveWalker 48 = .ok (.aload_n 0, 1) := by decide +kernel
theorem dX1_moveWalker_49 : decode cX1_moveWalker 49 = .ok (.iload_n 2, 1) := by decide +kernel
theorem dX1_moveWalker_50 : decode cX1_moveWalker 50 = .ok (.invokevirtual 92, 3) := by decide +kernel
theorem dX1_moveWalker_53 : decode cX1_moveWalker 53 = .ok (.aload_n 1, 1) := by decide +kernel
theorem dX1_moveWalker_54 : decode cX1_moveWalker 54 = .ok (.getfield 98, 3) := by decide +kernel
theorem dX1_moveWalker_57 : decode cX1_moveWalker 57 = .ok (.iload 5, 2) := by decide +kernel
theorem dX1_moveWalker_59 : decode cX1_moveWalker 59 = .ok (.iaload, 1) := by decide +kernel
theorem dX1_moveWalker_60 : decode cX1_moveWalker 60 = .ok (.istore 6, 2) := by decide +kernel
theorem dX1_moveWalker_62 : decode cX1_moveWalker 62 = .ok (.iload 6, 2) := by decide +kernel
theorem dX1_moveWalker_64 : decode cX1_moveWalker 64 = .ok (.bipush 25, 2) := by decide +kernel
theorem dX1_moveWalker_66 : decode cX1_moveWalker 66 = .ok (.if_icmp .lt 6, 3) := by decide +kernel
theorem dX1_moveWalker_69 : decode cX1_moveWalker 69 = .ok (.bipush (-3), 2) := by decide +kernel
theorem dX1_moveWalker_71 : decode cX1_moveWalker 71 = .ok (.ireturn, 1) := by decide +kernel
theorem dX1_moveWalker_72 : decode cX1_moveWalker 72 = .ok (.aload_n 0, 1) := by decide +kernel
theorem dX1_moveWalker_73 : decode cX1_moveWalker 73 = .ok (.dup, 1) := by decide +kernel
theorem dX1_moveWalker_74 : decode cX1_moveWalker 74 = .ok (.getfield 37, 3) := by decide +kernel
theorem dX1_moveWalker_77 : decode cX1_moveWalker 77 = .ok (.iload 6, 2) := by decide +kernel
theorem dX1_moveWalker_79 : decode cX1_moveWalker 79 = .ok (.i2l, 1) := by decide +kernel
theorem dX1_moveWalker_80 : decode cX1_moveWalker 80 = .ok (.ladd, 1) := by decide +kernel
theorem dX1_moveWalker_81 : decode cX1_moveWalker 81 = .ok (.putfield 37, 3) := by decide +kernel
theorem dX1_moveWalker_84 : decode cX1_moveWalker 84 = .ok (.aload_n 0, 1) := by decide +kernel
theorem dX1_moveWalker_85 : decode cX1_moveWalker 85 = .ok (.iload_n 2, 1) := by decide +kernel
theorem dX1_moveWalker_86 : decode cX1_moveWalker 86 = .ok (.iload 5, 2) := by decide +kernel
theorem dX1_moveWalker_88 : decode cX1_moveWalker 88 = .ok (.invokevirtual 85, 3) := by decide +kernel
theorem dX1_moveWalker_91 : decode cX1_moveWalker 91 = .ok (.iload 6, 2) := by decide +kernel
theorem dX1_moveWalker_93 : decode cX1_moveWalker 93 = .ok (.ireturn, 1) := by decide +kernel
theorem dX1_moveLine_0 : decode cX1_moveLine 0 = .ok (.aload_n 0, 1) := by decide +kernel
theorem dX1_moveLine_1 : decode cX1_moveLine 1 = .ok (.aload_n 0, 1) := by decide +kernel
theorem dX1_moveLine_2 : decode cX1_moveLine 2 = .ok (.getfield 9, 3) := by decide +kernel
theorem dX1_moveLine_5 : decode cX1_moveLine 5 = .ok (.iload_n 1, 1) := by decide +kernel
theorem dX1_moveLine_6 : decode cX1_moveLine 6 = .ok (.iload_n 2, 1) := by decide +kernel
theorem dX1_moveLine_7 : decode cX1_moveLine 7 = .ok (.iload_n 3, 1) := by decide +kernel
theorem dX1_moveLine_8 : decode cX1_moveLine 8 = .ok (.invokevirtual 101, 3) := by decide +kernel
theorem dX1_moveLine_11 : decode cX1_moveLine 11 = .ok (.aload_n 0, 1) := by decide +kernel
theorem dX1_moveLine_12 : decode cX1_moveLine 12 = .ok (.aload_n 0, 1) := by decide +kernel
theorem dX1_moveLine_13 : decode cX1_moveLine 13 = .ok (.getfield 15, 3) := by decide +kernel
theorem dX1_moveLine_16 : decode cX1_moveLine 16 = .ok (.iload_n 1, 1) := by decide +kernel
theorem dX1_moveLine_17 : decode cX1_moveLine 17 = .ok (.iload_n 2, 1) := by decide +kernel
theorem dX1_moveLine_18 : decode cX1_moveLine 18 = .ok (.iload_n 3, 1) := by decide +kernel
theorem dX1_moveLine_19 : decode cX1_moveLine 19 = .ok (.invokevirtual 101, 3) := by decide +kernel
theorem dX1_moveLine_22 : decode cX1_moveLine 22 = .ok (.iconst 0, 1) := by decide +kernel
theorem dX1_moveLine_23 : decode cX1_moveLine 23 = .ok (.istore 4, 2) := by decide +kernel
theorem dX1_moveLine_25 : decode cX1_moveLine 25 = .ok (.iload 4, 2) := by decide +kernel
theorem dX1_moveLine_27 : decode cX1_moveLine 27 = .ok (.bipush 6, 2) := by decide +kernel
theorem dX1_moveLine_29 : decode cX1_moveLine 29 = .ok (.if_icmp .ge 29, 3) := by decide +kernel
theorem dX1_moveLine_32 : decode cX1_moveLine 32 = .ok (.aload_n 0, 1) := by decide +kernel
theorem dX1_moveLine_33 : decode cX1_moveLine 33 = .ok (.getfield 18, 3) := by decide +kernel
theorem dX1_moveLine_36 : decode cX1_moveLine 36 = .ok (.iload 4, 2) := by decide +kernel
theorem dX1_moveLine_38 : decode cX1_moveLine 38 = .ok (.aload_n 0, 1) := by decide +kernel
theorem dX1_moveLine_39 : decode cX1_moveLine 39 = .ok (.getfield 18, 3) := by decide +kernel
theorem dX1_moveLine_42 : decode cX1_moveLine 42 = .ok (.iload 4, 2) := by decide +kernel
theorem dX1_moveLine_44 : decode cX1_moveLine 44 = .ok (.iaload, 1) := by decide +kernel
theorem dX1_moveLine_45 : decode cX1_moveLine 45 = .ok (.iload_n 1, 1) := by decide +kernel
theorem dX1_moveLine_46 : decode cX1_moveLine 46 = .ok (.iload_n 2, 1) := by decide +kernel
theorem dX1_moveLine_47 : decode cX1_moveLine 47 = .ok (.iload_n 3, 1) := by decide +kernel
theorem dX1_moveLine_48 : decode cX1_moveLine 48 = .ok (.invokestatic 105, 3) := by decide +kernel
theorem dX1_moveLine_51 : decode cX1_moveLine 51 = .ok (.iastore, 1) := by decide +kernel
theorem dX1_moveLine_52 : decode cX1_moveLine 52 = .ok (.iinc 4 1, 3) := by decide +kernel
theorem dX1_moveLine_55 : decode cX1_moveLine 55 = .ok (.goto (-30), 3) := by decide +kernel
theorem dX1_moveLine_58 : decode cX1_moveLine 58 = .ok (.iconst 0, 1) := by decide +kernel
theorem dX1_moveLine_59 : decode cX1_moveLine 59 = .ok (.istore 4, 2) := by decide +kernel
theorem dX1_moveLine_61 : decode cX1_moveLine 61 = .ok (.iload 4, 2) := by decide +kernel
theorem dX1_moveLine_63 : decode cX1_moveLine 63 = .ok (.aload_n 0, 1) := by decide +kernel
theorem dX1_moveLine_64 : decode cX1_moveLine 64 = .ok (.getfield 31, 3) := by decide +kernel
theorem dX1_moveLine_67 : decode cX1_moveLine 67 = .ok (.if_icmp .ge 29, 3) := by decide +kernel
theorem dX1_moveLine_70 : decode cX1_moveLine 70 = .ok (.aload_n 0, 1) := by decide +kernel
theorem dX1_moveLine_71 : decode cX1_moveLine 71 = .ok (.getfield 21, 3) := by decide +kernel
theorem dX1_moveLine_74 : decode cX1_moveLine 74 = .ok (.iload 4, 2) := by decide +kernel
theorem dX1_moveLine_76 : decode cX1_moveLine 76 = .ok (.aload_n 0, 1) := by decide +kernel
theorem dX1_moveLine_77 : decode cX1_moveLine 77 = .ok (.getfield 21, 3) := by decide +kernel
theorem dX1_moveLine_80 : decode cX1_moveLine 80 = .ok (.iload 4, 2) := by decide +kernel
theorem dX1_moveLine_82 : decode cX1_moveLine 82 = .ok (.iaload, 1) := by decide +kernel
theorem dX1_moveLine_83 : decode cX1_moveLine 83 = .ok (.iload_n 1, 1) := by decide +kernel
theorem dX1_moveLine_84 : decode cX1_moveLine 84 = .ok (.iload_n 2, 1) := by decide +kernel
theorem dX1_moveLine_85 : decode cX1_moveLine 85 = .ok (.iload_n 3, 1) := by decide +kernel
theorem dX1_moveLine_86 : decode cX1_moveLine 86 = .ok (.invokestatic 105, 3) := by decide +kernel
theorem dX1_moveLine_89 : decode cX1_moveLine 89 = .ok (.iastore, 1) := by decide +kernel
theorem dX1_moveLine_90 : decode cX1_moveLine 90 = .ok (.iinc 4 1, 3) := by decide +kernel
theorem dX1_moveLine_93 : decode cX1_moveLine 93 = .ok (.goto (-32), 3) := by decide +kernel
theorem dX1_moveLine_96 : decode cX1_moveLine 96 = .ok (.return_, 1) := by decide +kernel
theorem dX1_isLineFree_0 : decode cX1_isLineFree 0 = .ok (.iconst 0, 1) := by decide +kernel
theorem dX1_isLineFree_1 : decode cX1_isLineFree 1 = .ok (.istore_n 3, 1) := by decide +kernel
theorem dX1_isLineFree_2 : decode cX1_isLineFree 2 = .ok (.iload_n 3, 1) := by decide +kernel
theorem dX1_isLineFree_3 : decode cX1_isLineFree 3 = .ok (.iconst 5, 1) := by decide +kernel
theorem dX1_isLineFree_4 : decode cX1_isLineFree 4 = .ok (.if_icmp .ge 23, 3) := by decide +kernel
theorem dX1_isLineFree_7 : decode cX1_isLineFree 7 = .ok (.aload_n 0, 1) := by decide +kernel
theorem dX1_isLineFree_8 : decode cX1_isLineFree 8 = .ok (.iload_n 1, 1) := by decide +kernel
theorem dX1_isLineFree_9 : decode cX1_isLineFree 9 = .ok (.iload_n 3, 1) := by decide +kernel
theorem dX1_isLineFree_10 : decode cX1_isLineFree 10 = .ok (.iload_n 2, 1) := by decide +kernel
theorem dX1_isLineFree_11 : decode cX1_isLineFree 11 = .ok (.imul, 1) := by decide +kernel
theorem dX1_isLineFree_12 : decode cX1_isLineFree 12 = .ok (.iadd, 1) := by decide +kernel
theorem dX1_isLineFree_13 : decode cX1_isLineFree 13 = .ok (.invokevirtual 57, 3) := by decide +kernel
theorem dX1_isLineFree_16 : decode cX1_isLineFree 16 = .ok (.ifCond .eq 5, 3) := by decide +kernel
theorem dX1_isLineFree_19 : decode cX1_isLineFree 19 = .ok (.iconst 0, 1) := by decide +kernel
theorem dX1_isLineFree_20 : decode cX1_isLineFree 20 = .ok (.ireturn, 1) := by decide +kernel
theorem dX1_isLineFree_21 : decode cX1_isLineFree 21 = .ok (.iinc 3 1, 3) := by decide +kernel
theorem dX1_isLineFree_24 : decode cX1_isLineFree 24 = .ok (.goto (-22), 3) := by decide +kernel
theorem dX1_isLineFree_27 : decode cX1_isLineFree 27 = .ok (.iconst 1, 1) := by decide +kernel
theorem dX1_isLineFree_28 : decode cX1_isLineFree 28 = .ok (.ireturn, 1) := by decide +kernel
theorem dX1_isFixed_0 : decode cX1_isFixed 0 = .ok (.aload_n 0, 1) := by decide +kernel
theorem dX1_isFixed_1 : decode cX1_isFixed 1 = .ok (.getfield 27, 3) := by decide +kernel
theorem dX1_isFixed_4 : decode cX1_isFixed 4 = .ok (.iload_n 1, 1) := by decide +kernel
theorem dX1_isFixed_5 : decode cX1_isFixed 5 = .ok (.ishr, 1) := by decide +kernel
theorem dX1_isFixed_6 : decode cX1_isFixed 6 = .ok (.iconst 1, 1) := by decide +kernel
theorem dX1_isFixed_7 : decode cX1_isFixed 7 = .ok (.iand, 1) := by decide +kernel
theorem dX1_isFixed_8 : decode cX1_isFixed 8 = .ok (.iconst 1, 1) := by decide +kernel
theorem dX1_isFixed_9 : decode cX1_isFixed 9 = .ok (.if_icmp .ne 7, 3) := by decide +kernel
theorem dX1_isFixed_12 : decode cX1_isFixed 12 = .ok (.iconst 1, 1) := by decide +kernel
theorem dX1_isFixed_13 : decode cX1_isFixed 13 = .ok (.goto 4, 3) := by decide +kernel
theorem dX1_isFixed_16 : decode cX1_isFixed 16 = .ok (.iconst 0, 1) := by decide +kernel
theorem dX1_isFixed_17 : decode cX1_isFixed 17 = .ok (.ireturn, 1) := by decide +kernel
theorem dX1_isWalker_0 : decode cX1_isWalker 0 = .ok (.iload_n 1, 1) := by decide +kernel
theorem dX1_isWalker_1 : decode cX1_isWalker 1 = .ok (.ifCond .lt 15, 3) := by decide +kernel
theorem dX1_isWalker_4 : decode cX1_isWalker 4 = .ok (.iload_n 1, 1) := by decide +kernel
theorem dX1_isWalker_5 : decode cX1_isWalker 5 = .ok (.aload_n 0, 1) := by decide +kernel
theorem dX1_isWalker_6 : decode cX1_isWalker 6 = .ok (.getfield 31, 3) := by decide +kernel
theorem dX1_isWalker_9 : decode cX1_isWalker 9 = .ok (.if_icmp .ge 7, 3) := by decide +kernel
theorem dX1_isWalker_12 : decode cX1_isWalker 12 = .ok (.iconst 1, 1) := by decide +kernel
theorem dX1_isWalker_13 : decode cX1_isWalker 13 = .ok (.goto 4, 3) := by decide +kernel
theorem dX1_isWalker_16 : decode cX1_isWalker 16 = .ok (.iconst 0, 1) := by decide +kernel
theorem dX1_isWalker_17 : decode cX1_isWalker 17 = .ok (.ireturn, 1) := by decide +kernel
theorem dX1_canEnter_0 : decode cX1_canEnter 0 = .ok (.aload_n 0, 1) := by decide +kernel
theorem dX1_canEnter_1 : decode cX1_canEnter 1 = .ok (.getfield 15, 3) := by decide +kernel
theorem dX1_canEnter_4 : decode cX1_canEnter 4 = .ok (.iload_n 2, 1) := by decide +kernel
theorem dX1_canEnter_5 : decode cX1_canEnter 5 = .ok (.iaload, 1) := by decide +kernel
theorem dX1_canEnter_6 : decode cX1_canEnter 6 = .ok (.istore_n 3, 1) := by decide +kernel
theorem dX1_canEnter_7 : decode cX1_canEnter 7 = .ok (.iload_n 3, 1) := by decide +kernel
theorem dX1_canEnter_8 : decode cX1_canEnter 8 = .ok (.iconst (-1), 1) := by decide +kernel
theorem dX1_canEnter_9 : decode cX1_canEnter 9 = .ok (.if_icmp .eq 16, 3) := by decide +kernel
theorem dX1_canEnter_12 : decode cX1_canEnter 12 = .ok (.aload_n 0, 1) := by decide +kernel
theorem dX1_canEnter_13 : decode cX1_canEnter 13 = .ok (.getfield 18, 3) := by decide +kernel
theorem dX1_canEnter_16 : decode cX1_canEnter 16 = .ok (.iload_n 3, 1) := by decide +kernel
theorem dX1_canEnter_17 : decode cX1_canEnter 17 = .ok (.iaload, 1) := by decide +kernel
theorem dX1_canEnter_18 : decode cX1_canEnter 18 = .ok (.bipush 25, 2) := by decide +kernel
theorem dX1_canEnter_20 : decode cX1_canEnter 20 = .ok (.iload_n 1, 1) := by decide +kernel
theorem dX1_canEnter_21 : decode cX1_canEnter 21 = .ok (.iadd, 1) := by decide +kernel
theorem dX1_canEnter_22 : decode cX1_canEnter 22 = .ok (.if_icmp .ne 7, 3) := by decide +kernel
theorem dX1_canEnter_25 : decode cX1_canEnter 25 = .ok (.iconst 1, 1) := by decide +kernel
theorem dX1_canEnter_26 : decode cX1_canEnter 26 = .ok (.goto 4, 3) := by decide +kernel
theorem dX1_canEnter_29 : decode cX1_canEnter 29 = .ok (.iconst 0, 1) := by decide +kernel
theorem dX1_canEnter_30 : decode cX1_canEnter 30 = .ok (.ireturn, 1) := by decide +kernel
theorem dX1_countKeys_0 : decode cX1_countKeys 0 = .ok (.iconst 0, 1) := by decide +kernel
theorem dX1_countKeys_1 : decode cX1_countKeys 1 = .ok (.istore_n 2, 1) := by decide +kernel
theorem dX1_countKeys_2 : decode cX1_countKeys 2 = .ok (.iconst 0, 1) := by decide +kernel
theorem dX1_countKeys_3 : decode cX1_countKeys 3 = .ok (.istore_n 3, 1) := by decide +kernel
theorem dX1_countKeys_4 : decode cX1_countKeys 4 = .ok (.iload_n 3, 1) := by decide +kernel
theorem dX1_countKeys_5 : decode cX1_countKeys 5 = .ok (.bipush 6, 2) := by decide +kernel
theorem dX1_countKeys_7 : decode cX1_countKeys 7 = .ok (.if_icmp .ge 22, 3) := by decide +kernel
theorem dX1_countKeys_10 : decode cX1_countKeys 10 = .ok (.aload_n 0, 1) := by decide +kernel
theorem dX1_countKeys_11 : decode cX1_countKeys 11 = .ok (.getfield 18, 3) := by decide +kernel
theorem dX1_countKeys_14 : decode cX1_countKeys 14 = .ok (.iload_n 3, 1) := by decide +kernel
theorem dX1_countKeys_15 : decode cX1_countKeys 15 = .ok (.iaload, 1) := by decide +kernel
theorem dX1_countKeys_16 : decode cX1_countKeys 16 = .ok (.iload_n 1, 1) := by decide +kernel
theorem dX1_countKeys_17 : decode cX1_countKeys 17 = .ok (.if_icmp .ne 6, 3) := by decide +kernel
theorem dX1_countKeys_20 : decode cX1_countKeys 20 = .ok (.iinc 2 1, 3) := by decide +kernel
theorem dX1_countKeys_23 : decode cX1_countKeys 23 = .ok (.iinc 3 1, 3) := by decide +kernel
theorem dX1_countKeys_26 : decode cX1_countKeys 26 = .ok (.goto (-22), 3) := by decide +kernel
theorem dX1_countKeys_29 : decode cX1_countKeys 29 = .ok (.iload_n 2, 1) := by decide +kernel
theorem dX1_countKeys_30 : decode cX1_countKeys 30 = .ok (.ireturn, 1) := by decide +kernel
theorem dX1_countWalkers_0 : decode cX1_countWalkers 0 = .ok (.iconst 0, 1) := by decide +kernel
theorem dX1_countWalkers_1 : decode cX1_countWalkers 1 = .ok (.istore_n 2, 1) := by decide +kernel
theorem dX1_countWalkers_2 : decode cX1_countWalkers 2 = .ok (.iconst 0, 1) := by decide +kernel
theorem dX1_countWalkers_3 : decode cX1_countWalkers 3 = .ok (.istore_n 3, 1) := by decide +kernel
theorem dX1_countWalkers_4 : decode cX1_countWalkers 4 = .ok (.iload_n 3, 1) := by decide +kernel
theorem dX1_countWalkers_5 : decode cX1_countWalkers 5 = .ok (.aload_n 0, 1) := by decide +kernel
theorem dX1_countWalkers_6 : decode cX1_countWalkers 6 = .ok (.getfield 31, 3) := by decide +kernel
theorem dX1_countWalkers_9 : decode cX1_countWalkers 9 = .ok (.if_icmp .ge 22, 3) := by decide +kernel
theorem dX1_countWalkers_12 : decode cX1_countWalkers 12 = .ok (.aload_n 0, 1) := by decide +kernel
theorem dX1_countWalkers_13 : decode cX1_countWalkers 13 = .ok (.getfield 21, 3) := by decide +kernel
theorem dX1_countWalkers_16 : decode cX1_countWalkers 16 = .ok (.iload_n 3, 1) := by decide +kernel
theorem dX1_countWalkers_17 : decode cX1_countWalkers 17 = .ok (.iaload, 1) := by decide +kernel
theorem dX1_countWalkers_18 : decode cX1_countWalkers 18 = .ok (.iload_n 1, 1) := by decide +kernel
theorem dX1_countWalkers_19 : decode cX1_countWalkers 19 = .ok (.if_icmp .ne 6, 3) := by decide +kernel
theorem dX1_countWalkers_22 : decode cX1_countWalkers 22 = .ok (.iinc 2 1, 3) := by decide +kernel
theorem dX1_countWalkers_25 : decode cX1_countWalkers 25 = .ok (.iinc 3 1, 3) := by decide +kernel
theorem dX1_countWalkers_28 : decode cX1_countWalkers 28 = .ok (.goto (-24), 3) := by decide +kernel
theorem dX1_countWalkers_31 : decode cX1_countWalkers 31 = .ok (.iload_n 2, 1) := by decide +kernel
theorem dX1_countWalkers_32 : decode cX1_countWalkers 32 = .ok (.ireturn, 1) := by decide +kernel
theorem dX1_connectedNeighbour_0 : decode cX1_connectedNeighbour 0 = .ok (.iload_n 1, 1) := by decide +kernel
theorem dX1_connectedNeighbour_1 : decode cX1_connectedNeighbour 1 = .ok (.iload_n 2, 1) := by decide +kernel
theorem dX1_connectedNeighbour_2 : decode cX1_connectedNeighbour 2 = .ok (.invokestatic 109, 3) := by decide +kernel
theorem dX1_connectedNeighbour_5 : decode cX1_connectedNeighbour 5 = .ok (.istore_n 3, 1) := by decide +kernel
theorem dX1_connectedNeighbour_6 : decode cX1_connectedNeighbour 6 = .ok (.iload_n 3, 1) := by decide +kernel
theorem dX1_connectedNeighbour_7 : decode cX1_connectedNeighbour 7 = .ok (.iconst (-1), 1) := by decide +kernel
theorem dX1_connectedNeighbour_8 : decode cX1_connectedNeighbour 8 = .ok (.if_icmp .ne 5, 3) := by decide +kernel
theorem dX1_connectedNeighbour_11 : decode cX1_connectedNeighbour 11 = .ok (.iconst (-1), 1) := by decide +kernel
theorem dX1_connectedNeighbour_12 : decode cX1_connectedNeighbour 12 = .ok (.ireturn, 1) := by decide +kernel
theorem dX1_connectedNeighbour_13 : decode cX1_connectedNeighbour 13 = .ok (.iload_n 2, 1) := by decide +kernel
theorem dX1_connectedNeighbour_14 : decode cX1_connectedNeighbour 14 = .ok (.iconst 2, 1) := by decide +kernel
theorem dX1_connectedNeighbour_15 : decode cX1_connectedNeighbour 15 = .ok (.iadd, 1) := by decide +kernel
theorem dX1_connectedNeighbour_16 : decode cX1_connectedNeighbour 16 = .ok (.iconst 4, 1) := by decide +kernel
theorem dX1_connectedNeighbour_17 : decode cX1_connectedNeighbour 17 = .ok (.irem, 1) := by decide +kernel
theorem dX1_connectedNeighbour_18 : decode cX1_connectedNeighbour 18 = .ok (.istore 4, 2) := by decide +kernel
theorem dX1_connectedNeighbour_20 : decode cX1_connectedNeighbour 20 = .ok (.aload_n 0, 1) := by decide +kernel
theorem dX1_connectedNeighbour_21 : decode cX1_connectedNeighbour 21 = .ok (.getfield 9, 3) := by decide +kernel
theorem dX1_connectedNeighbour_24 : decode cX1_connectedNeighbour 24 = .ok (.iload_n 1, 1) := by decide +kernel
theorem dX1_connectedNeighbour_25 : decode cX1_connectedNeighbour 25 = .ok (.iaload, 1) := by decide +kernel
theorem dX1_connectedNeighbour_26 : decode cX1_connectedNeighbour 26 = .ok (.iload_n 2, 1) := by decide +kernel
theorem dX1_connectedNeighbour_27 : decode cX1_connectedNeighbour 27 = .ok (.ishr, 1) := by decide +kernel
theorem dX1_connectedNeighbour_28 : decode cX1_connectedNeighbour 28 = .ok (.aload_n 0, 1) := by decide +kernel
theorem dX1_connectedNeighbour_29 : decode cX1_connectedNeighbour 29 = .ok (.getfield 9, 3) := by decide +kernel
theorem dX1_connectedNeighbour_32 : decode cX1_connectedNeighbour 32 = .ok (.iload_n 3, 1) := by decide +kernel
theorem dX1_connectedNeighbour_33 : decode cX1_connectedNeighbour 33 = .ok (.iaload, 1) := by decide +kernel
theorem dX1_connectedNeighbour_34 : decode cX1_connectedNeighbour 34 = .ok (.iload 4, 2) := by decide +kernel
theorem dX1_connectedNeighbour_36 : decode cX1_connectedNeighbour 36 = .ok (.ishr, 1) := by decide +kernel
theorem dX1_connectedNeighbour_37 : decode cX1_connectedNeighbour 37 = .ok (.iand, 1) := by decide +kernel
theorem dX1_connectedNeighbour_38 : decode cX1_connectedNeighbour 38 = .ok (.iconst 1, 1) := by decide +kernel
theorem dX1_connectedNeighbour_39 : decode cX1_connectedNeighbour 39 = .ok (.iand, 1) := by decide +kernel
theorem dX1_connectedNeighbour_40 : decode cX1_connectedNeighbour 40 = .ok (.iconst 1, 1) := by decide +kernel
theorem dX1_connectedNeighbour_41 : decode cX1_connectedNeighbour 41 = .ok (.if_icmp .ne 7, 3) := by decide +kernel
theorem dX1_connectedNeighbour_44 : decode cX1_connectedNeighbour 44 = .ok (.iconst 1, 1) := by decide +kernel
theorem dX1_connectedNeighbour_45 : decode cX1_connectedNeighbour 45 = .ok (.goto 4, 3) := by decide +kernel
theorem dX1_connectedNeighbour_48 : decode cX1_connectedNeighbour 48 = .ok (.iconst 0, 1) := by decide +kernel
theorem dX1_connectedNeighbour_49 : decode cX1_connectedNeighbour 49 = .ok (.istore 5, 2) := by decide +kernel
theorem dX1_connectedNeighbour_51 : decode cX1_connectedNeighbour 51 = .ok (.iload 5, 2) := by decide +kernel
theorem dX1_connectedNeighbour_53 : decode cX1_connectedNeighbour 53 = .ok (.ifCond .eq 7, 3) := by decide +kernel
theorem dX1_connectedNeighbour_56 : decode cX1_connectedNeighbour 56 = .ok (.iload_n 3, 1) := by decide +kernel
theorem dX1_connectedNeighbour_57 : decode cX1_connectedNeighbour 57 = .ok (.goto 4, 3) := by decide +kernel
theorem dX1_connectedNeighbour_60 : decode cX1_connectedNeighbour 60 = .ok (.iconst (-1), 1) := by decide +kernel
theorem dX1_connectedNeighbour_61 : decode cX1_connectedNeighbour 61 = .ok (.ireturn, 1) := by decide +kernel
theorem dX1_keyPlacesExist_0 : decode cX1_keyPlacesExist 0 = .ok (.iconst 0, 1) := by decide +kernel
theorem dX1_keyPlacesExist_1 : decode cX1_keyPlacesExist 1 = .ok (.istore_n 1, 1) := by decide +kernel
theorem dX1_keyPlacesExist_2 : decode cX1_keyPlacesExist 2 = .ok (.iload_n 1, 1) := by decide +kernel
theorem dX1_keyPlacesExist_3 : decode cX1_keyPlacesExist 3 = .ok (.bipush 6, 2) := by decide +kernel
theorem dX1_keyPlacesExist_5 : decode cX1_keyPlacesExist 5 = .ok (.if_icmp .ge 41, 3) := by decide +kernel
theorem dX1_keyPlacesExist_8 : decode cX1_keyPlacesExist 8 = .ok (.aload_n 0, 1) := by decide +kernel
theorem dX1_keyPlacesExist_9 : decode cX1_keyPlacesExist 9 = .ok (.getfield 18, 3) := by decide +kernel
theorem dX1_keyPlacesExist_12 : decode cX1_keyPlacesExist 12 = .ok (.iload_n 1, 1) := by decide +kernel
theorem dX1_keyPlacesExist_13 : decode cX1_keyPlacesExist 13 = .ok (.iaload, 1) := by decide +kernel
theorem dX1_keyPlacesExist_14 : decode cX1_keyPlacesExist 14 = .ok (.istore_n 2, 1) := by decide +kernel
theorem dX1_keyPlacesExist_15 : decode cX1_keyPlacesExist 15 = .ok (.iload_n 2, 1) := by decide +kernel
theorem dX1_keyPlacesExist_16 : decode cX1_keyPlacesExist 16 = .ok (.iconst (-1), 1) := by decide +kernel
theorem dX1_keyPlacesExist_17 : decode cX1_keyPlacesExist 17 = .ok (.if_icmp .eq 23, 3) := by decide +kernel
theorem dX1_keyPlacesExist_20 : decode cX1_keyPlacesExist 20 = .ok (.iload_n 2, 1) := by decide +kernel
theorem dX1_keyPlacesExist_21 : decode cX1_keyPlacesExist 21 = .ok (.invokestatic 113, 3) := by decide +kernel
theorem dX1_keyPlacesExist_24 : decode cX1_keyPlacesExist 24 = .ok (.ifCond .ne 16, 3) := by decide +kernel
theorem dX1_keyPlacesExist_27 : decode cX1_keyPlacesExist 27 = .ok (.aload_n 0, 1) := by decide +kernel
theorem dX1_keyPlacesExist_28 : decode cX1_keyPlacesExist 28 = .ok (.iload_n 2, 1) := by decide +kernel
theorem dX1_keyPlacesExist_29 : decode cX1_keyPlacesExist 29 = .ok (.bipush 25, 2) := by decide +kernel
theorem dX1_keyPlacesExist_31 : decode cX1_keyPlacesExist 31 = .ok (.isub, 1) := by decide +kernel
theorem dX1_keyPlacesExist_32 : decode cX1_keyPlacesExist 32 = .ok (.invokevirtual 89, 3) := by decide +kernel
theorem dX1_keyPlacesExist_35 : decode cX1_keyPlacesExist 35 = .ok (.ifCond .ne 5, 3) := by decide +kernel
theorem dX1_keyPlacesExist_38 : decode cX1_keyPlacesExist 38 = .ok (.iconst 0, 1) := by decide +kernel
theorem dX1_keyPlacesExist_39 : decode cX1_keyPlacesExist 39 = .ok (.ireturn, 1) := by decide +kernel
theorem dX1_keyPlacesExist_40 : decode cX1_keyPlacesExist 40 = .ok (.iinc 1 1, 3) := by decide +kernel
theorem dX1_keyPlacesExist_43 : decode cX1_keyPlacesExist 43 = .ok (.goto (-41), 3) := by decide +kernel
theorem dX1_keyPlacesExist_46 : decode cX1_keyPlacesExist 46 = .ok (.iconst 1, 1) := by decide +kernel
theorem dX1_keyPlacesExist_47 : decode cX1_keyPlacesExist 47 = .ok (.ireturn, 1) := by decide +kernel
theorem dX1_neighbour_0 : decode cX1_neighbour 0 = .ok (.iload_n 1, 1) := by decide +kernel
theorem dX1_neighbour_1 : decode cX1_neighbour 1 = .ok (.tableswitch 69 0 2 #[27, 40, 55], 27) := by decide +kernel
theorem dX1_neighbour_28 : decode cX1_neighbour 28 = .ok (.iload_n 0, 1) := by decide +kernel
theorem dX1_neighbour_29 : decode cX1_neighbour 29 = .ok (.iconst 5, 1) := by decide +kernel
theorem dX1_neighbour_30 : decode cX1_neighbour 30 = .ok (.if_icmp .lt 9, 3) := by decide +kernel
theorem dX1_neighbour_33 : decode cX1_neighbour 33 = .ok (.iload_n 0, 1) := by decide +kernel
theorem dX1_neighbour_34 : decode cX1_neighbour 34 = .ok (.iconst 5, 1) := by decide +kernel
theorem dX1_neighbour_35 : decode cX1_neighbour 35 = .ok (.isub, 1) := by decide +kernel
theorem dX1_neighbour_36 : decode cX1_neighbour 36 = .ok (.goto 4, 3) := by decide +kernel
theorem dX1_neighbour_39 : decode cX1_neighbour 39 = .ok (.iconst (-1), 1) := by decide +kernel
theorem dX1_neighbour_40 : decode cX1_neighbour 40 = .ok (.ireturn, 1) := by decide +kernel
theorem dX1_neighbour_41 : decode cX1_neighbour 41 = .ok (.iload_n 0, 1) := by decide +kernel
theorem dX1_neighbour_42 : decode cX1_neighbour 42 = .ok (.iconst 5, 1) := by decide +kernel
theorem dX1_neighbour_43 : decode cX1_neighbour 43 = .ok (.irem, 1) := by decide +kernel
theorem dX1_neighbour_44 : decode cX1_neighbour 44 = .ok (.iconst 4, 1) := by decide +kernel
theorem dX1_neighbour_45 : decode cX1_neighbour 45 = .ok (.if_icmp .ge 9, 3) := by decide +kernel
theorem dX1_neighbour_48 : decode cX1_neighbour 48 = .ok (.iload_n 0, 1) := by decide +kernel
theorem dX1_neighbour_49 : decode cX1_neighbour 49 = .ok (.iconst 1, 1) := by decide +kernel
theorem dX1_neighbour_50 : decode cX1_neighbour 50 = .ok (.iadd, 1) := by decide +kernel
theorem dX1_neighbour_51 : decode cX1_neighbour 51 = .ok (.goto 4, 3) := by decide +kernel
theorem dX1_neighbour_54 : decode cX1_neighbour 54 = .ok (.iconst (-1), 1) := by decide +kernel
theorem dX1_neighbour_55 : decode cX1_neighbour 55 = .ok (.ireturn, 1) := by decide +kernel
theorem dX1_neighbour_56 : decode cX1_neighbour 56 = .ok (.iload_n 0, 1) := by decide +kernel
theorem dX1_neighbour_57 : decode cX1_neighbour 57 = .ok (.bipush 20, 2) := by decide +kernel
theorem dX1_neighbour_59 : decode cX1_neighbour 59 = .ok (.if_icmp .ge 9, 3) := by decide +kernel
theorem dX1_neighbour_62 : decode cX1_neighbour 62 = .ok (.iload_n 0, 1) := by decide +kernel
theorem dX1_neighbour_63 : decode cX1_neighbour 63 = .ok (.iconst 5, 1) := by decide +kernel
theorem dX1_neighbour_64 : decode cX1_neighbour 64 = .ok (.iadd, 1) := by decide +kernel
theorem dX1_neighbour_65 : decode cX1_neighbour 65 = .ok (.goto 4, 3) := by decide +kernel
theorem dX1_neighbour_68 : decode cX1_neighbour 68 = .ok (.iconst (-1), 1) := by decide +kernel
theorem dX1_neighbour_69 : decode cX1_neighbour 69 = .ok (.ireturn, 1) := by decide +kernel
theorem dX1_neighbour_70 : decode cX1_neighbour 70 = .ok (.iload_n 0, 1) := by decide +kernel
theorem dX1_neighbour_71 : decode cX1_neighbour 71 = .ok (.iconst 5, 1) := by decide +kernel
theorem dX1_neighbour_72 : decode cX1_neighbour 72 = .ok (.irem, 1) := by decide +kernel
theorem dX1_neighbour_73 : decode cX1_neighbour 73 = .ok (.ifCond .le 9, 3) := by decide +kernel
theorem dX1_neighbour_76 : decode cX1_neighbour 76 = .ok (.iload_n 0, 1) := by decide +kernel
theorem dX1_neighbour_77 : decode cX1_neighbour 77 = .ok (.iconst 1, 1) := by decide +kernel
theorem dX1_neighbour_78 : decode cX1_neighbour 78 = .ok (.isub, 1) := by decide +kernel
theorem dX1_neighbour_79 : decode cX1_neighbour 79 = .ok (.goto 4, 3) := by decide +kernel
theorem dX1_neighbour_82 : decode cX1_neighbour 82 = .ok (.iconst (-1), 1) := by decide +kernel
theorem dX1_neighbour_83 : decode cX1_neighbour 83 = .ok (.ireturn, 1) := by decide +kernel
theorem dX1_moveIfAllowed_0 : decode cX1_moveIfAllowed 0 = .ok (.iload_n 3, 1) := by decide +kernel
theorem dX1_moveIfAllowed_1 : decode cX1_moveIfAllowed 1 = .ok (.ifCond .eq 14, 3) := by decide +kernel
theorem dX1_moveIfAllowed_4 : decode cX1_moveIfAllowed 4 = .ok (.iload_n 3, 1) := by decide +kernel
theorem dX1_moveIfAllowed_5 : decode cX1_moveIfAllowed 5 = .ok (.bipush (-5), 2) := by decide +kernel
theorem dX1_moveIfAllowed_7 : decode cX1_moveIfAllowed 7 = .ok (.if_icmp .le 8, 3) := by decide +kernel
theorem dX1_moveIfAllowed_10 : decode cX1_moveIfAllowed 10 = .ok (.iload_n 3, 1) := by decide +kernel
theorem dX1_moveIfAllowed_11 : decode cX1_moveIfAllowed 11 = .ok (.iconst 5, 1) := by decide +kernel
theorem dX1_moveIfAllowed_12 : decode cX1_moveIfAllowed 12 = .ok (.if_icmp .lt 6, 3) := by decide +kernel
theorem dX1_moveIfAllowed_15 : decode cX1_moveIfAllowed 15 = .ok (.bipush (-2), 2) := by decide +kernel
theorem dX1_moveIfAllowed_17 : decode cX1_moveIfAllowed 17 = .ok (.ireturn, 1) := by decide +kernel
theorem dX1_moveIfAllowed_18 : decode cX1_moveIfAllowed 18 = .ok (.aload_n 0, 1) := by decide +kernel
theorem dX1_moveIfAllowed_19 : decode cX1_moveIfAllowed 19 = .ok (.iload_n 1, 1) := by decide +kernel
theorem dX1_moveIfAllowed_20 : decode cX1_moveIfAllowed 20 = .ok (.iload_n 2, 1) := by decide +kernel
theorem dX1_moveIfAllowed_21 : decode cX1_moveIfAllowed 21 = .ok (.invokevirtual 116, 3) := by decide +kernel
theorem dX1_moveIfAllowed_24 : decode cX1_moveIfAllowed 24 = .ok (.ifCond .ne 6, 3) := by decide +kernel
theorem dX1_moveIfAllowed_27 : decode cX1_moveIfAllowed 27 = .ok (.bipush (-3), 2) := by decide +kernel
theorem dX1_moveIfAllowed_29 : decode cX1_moveIfAllowed 29 = .ok (.ireturn, 1) := by decide +kernel
theorem dX1_moveIfAllowed_30 : decode cX1_moveIfAllowed 30 = .ok (.aload_n 0, 1) := by decide +kernel
theorem dX1_moveIfAllowed_31 : decode cX1_moveIfAllowed 31 = .ok (.iload_n 1, 1) := by decide +kernel
theorem dX1_moveIfAllowed_32 : decode cX1_moveIfAllowed 32 = .ok (.iload_n 2, 1) := by decide +kernel
theorem dX1_moveIfAllowed_33 : decode cX1_moveIfAllowed 33 = .ok (.iload_n 3, 1) := by decide +kernel
theorem dX1_moveIfAllowed_34 : decode cX1_moveIfAllowed 34 = .ok (.invokevirtual 120, 3) := by decide +kernel
theorem dX1_moveIfAllowed_37 : decode cX1_moveIfAllowed 37 = .ok (.aload_n 0, 1) := by decide +kernel
theorem dX1_moveIfAllowed_38 : decode cX1_moveIfAllowed 38 = .ok (.dup, 1) := by decide +kernel
theorem dX1_moveIfAllowed_39 : decode cX1_moveIfAllowed 39 = .ok (.getfield 34, 3) := by decide +kernel
theorem dX1_moveIfAllowed_42 : decode cX1_moveIfAllowed 42 = .ok (.iconst 1, 1) := by decide +kernel
theorem dX1_moveIfAllowed_43 : decode cX1_moveIfAllowed 43 = .ok (.iadd, 1) := by decide +kernel
theorem dX1_moveIfAllowed_44 : decode cX1_moveIfAllowed 44 = .ok (.putfield 34, 3) := by decide +kernel
theorem dX1_moveIfAllowed_47 : decode cX1_moveIfAllowed 47 = .ok (.iconst 0, 1) := by decide +kernel
theorem dX1_moveIfAllowed_48 : decode cX1_moveIfAllowed 48 = .ok (.istore 4, 2) := by decide +kernel
theorem dX1_moveIfAllowed_50 : decode cX1_moveIfAllowed 50 = .ok (.iconst 0, 1) := by decide +kernel
theorem dX1_moveIfAllowed_51 : decode cX1_moveIfAllowed 51 = .ok (.istore 5, 2) := by decide +kernel
theorem dX1_moveIfAllowed_53 : decode cX1_moveIfAllowed 53 = .ok (.iload 5, 2) := by decide +kernel
theorem dX1_moveIfAllowed_55 : decode cX1_moveIfAllowed 55 = .ok (.iconst 5, 1) := by decide +kernel
theorem dX1_moveIfAllowed_56 : decode cX1_moveIfAllowed 56 = .ok (.if_icmp .ge 24, 3) := by decide +kernel
theorem dX1_moveIfAllowed_59 : decode cX1_moveIfAllowed 59 = .ok (.iload 4, 2) := by decide +kernel
theorem dX1_moveIfAllowed_61 : decode cX1_moveIfAllowed 61 = .ok (.aload_n 0, 1) := by decide +kernel
theorem dX1_moveIfAllowed_62 : decode cX1_moveIfAllowed 62 = .ok (.iload_n 1, 1) := by decide +kernel
theorem dX1_moveIfAllowed_63 : decode cX1_moveIfAllowed 63 = .ok (.iload 5, 2) := by decide +kernel
theorem dX1_moveIfAllowed_65 : decode cX1_moveIfAllowed 65 = .ok (.iload_n 2, 1) := by decide +kernel
theorem dX1_moveIfAllowed_66 : decode cX1_moveIfAllowed 66 = .ok (.imul, 1) := by decide +kernel
theorem dX1_moveIfAllowed_67 : decode cX1_moveIfAllowed 67 = .ok (.iadd, 1) := by decide +kernel
theorem dX1_moveIfAllowed_68 : decode cX1_moveIfAllowed 68 = .ok (.invokevirtual 124, 3) := by decide +kernel
theorem dX1_moveIfAllowed_71 : decode cX1_moveIfAllowed 71 = .ok (.iadd, 1) := by decide +kernel
theorem dX1_moveIfAllowed_72 : decode cX1_moveIfAllowed 72 = .ok (.istore 4, 2) := by decide +kernel
theorem dX1_moveIfAllowed_74 : decode cX1_moveIfAllowed 74 = .ok (.iinc 5 1, 3) := by decide +kernel
theorem dX1_moveIfAllowed_77 : decode cX1_moveIfAllowed 77 = .ok (.goto (-24), 3) := by decide +kernel
theorem dX1_moveIfAllowed_80 : decode cX1_moveIfAllowed 80 = .ok (.iload 4, 2) := by decide +kernel
theorem dX1_moveIfAllowed_82 : decode cX1_moveIfAllowed 82 = .ok (.ireturn, 1) := by decide +kernel
theorem dX1_rotate_0 : decode cX1_rotate 0 = .ok (.iconst 0, 1) := by decide +kernel
theorem dX1_rotate_1 : decode cX1_rotate 1 = .ok (.istore 5, 2) := by decide +kernel
theorem dX1_rotate_3 : decode cX1_rotate 3 = .ok (.iload 5, 2) := by decide +kernel
theorem dX1_rotate_5 : decode cX1_rotate 5 = .ok (.iconst 5, 1) := by decide +kernel
theorem dX1_rotate_6 : decode cX1_rotate 6 = .ok (.if_icmp .ge 31, 3) := by decide +kernel
theorem dX1_rotate_9 : decode cX1_rotate 9 = .ok (.aload_n 0, 1) := by decide +kernel
theorem dX1_rotate_10 : decode cX1_rotate 10 = .ok (.getfield 24, 3) := by decide +kernel
theorem dX1_rotate_13 : decode cX1_rotate 13 = .ok (.iload 5, 2) := by decide +kernel
theorem dX1_rotate_15 : decode cX1_rotate 15 = .ok (.iload 4, 2) := by decide +kernel
theorem dX1_rotate_17 : decode cX1_rotate 17 = .ok (.iadd, 1) := by decide +kernel
theorem dX1_rotate_18 : decode cX1_rotate 18 = .ok (.iconst 5, 1) := by decide +kernel
theorem dX1_rotate_19 : decode cX1_rotate 19 = .ok (.invokestatic 127, 3) := by decide +kernel
theorem dX1_rotate_22 : decode cX1_rotate 22 = .ok (.aload_n 1, 1) := by decide +kernel
theorem dX1_rotate_23 : decode cX1_rotate 23 = .ok (.iload_n 2, 1) := by decide +kernel
theorem dX1_rotate_24 : decode cX1_rotate 24 = .ok (.iload 5, 2) := by decide +kernel
theorem dX1_rotate_26 : decode cX1_rotate 26 = .ok (.iload_n 3, 1) := by decide +kernel
theorem dX1_rotate_27 : decode cX1_rotate 27 = .ok (.imul, 1) := by decide +kernel
theorem dX1_rotate_28 : decode cX1_rotate 28 = .ok (.iadd, 1) := by decide +kernel
theorem dX1_rotate_29 : decode cX1_rotate 29 = .ok (.iaload, 1) := by decide +kernel
theorem dX1_rotate_30 : decode cX1_rotate 30 = .ok (.iastore, 1) := by decide +kernel
theorem dX1_rotate_31 : decode cX1_rotate 31 = .ok (.iinc 5 1, 3) := by decide +kernel
theorem dX1_rotate_34 : decode cX1_rotate 34 = .ok (.goto (-31), 3) := by decide +kernel
theorem dX1_rotate_37 : decode cX1_rotate 37 = .ok (.iconst 0, 1) := by decide +kernel
theorem dX1_rotate_38 : decode cX1_rotate 38 = .ok (.istore 5, 2) := by decide +kernel
theorem dX1_rotate_40 : decode cX1_rotate 40 = .ok (.iload 5, 2) := by decide +kernel
theorem dX1_rotate_42 : decode cX1_rotate 42 = .ok (.iconst 5, 1) := by decide +kernel
theorem dX1_rotate_43 : decode cX1_rotate 43 = .ok (.if_icmp .ge 24, 3) := by decide +kernel
theorem dX1_rotate_46 : decode cX1_rotate 46 = .ok (.aload_n 1, 1) := by decide +kernel
theorem dX1_rotate_47 : decode cX1_rotate 47 = .ok (.iload_n 2, 1) := by decide +kernel
theorem dX1_rotate_48 : decode cX1_rotate 48 = .ok (.iload 5, 2) := by decide +kernel
theorem dX1_rotate_50 : decode cX1_rotate 50 = .ok (.iload_n 3, 1) := by decide +kernel
theorem dX1_rotate_51 : decode cX1_rotate 51 = .ok (.imul, 1) := by decide +kernel
theorem dX1_rotate_52 : decode cX1_rotate 52 = .ok (.iadd, 1) := by decide +kernel
theorem dX1_rotate_53 : decode cX1_rotate 53 = .ok (.aload_n 0, 1) := by decide +kernel
theorem dX1_rotate_54 : decode cX1_rotate 54 = .ok (.getfield 24, 3) := by decide +kernel
theorem dX1_rotate_57 : decode cX1_rotate 57 = .ok (.iload 5, 2) := by decide +kernel
theorem dX1_rotate_59 : decode cX1_rotate 59 = .ok (.iaload, 1) := by decide +kernel
theorem dX1_rotate_60 : decode cX1_rotate 60 = .ok (.iastore, 1) := by decide +kernel
theorem dX1_rotate_61 : decode cX1_rotate 61 = .ok (.iinc 5 1, 3) := by decide +kernel
theorem dX1_rotate_64 : decode cX1_rotate 64 = .ok (.goto (-24), 3) := by decide +kernel
theorem dX1_rotate_67 : decode cX1_rotate 67 = .ok (.return_, 1) := by decide +kernel
theorem dX1_placeAfter_0 : decode cX1_placeAfter 0 = .ok (.iconst 0, 1) := by decide +kernel
theorem dX1_placeAfter_1 : decode cX1_placeAfter 1 = .ok (.istore 4, 2) := by decide +kernel
theorem dX1_placeAfter_3 : decode cX1_placeAfter 3 = .ok (.iload 4, 2) := by decide +kernel
theorem dX1_placeAfter_5 : decode cX1_placeAfter 5 = .ok (.iconst 5, 1) := by decide +kernel
theorem dX1_placeAfter_6 : decode cX1_placeAfter 6 = .ok (.if_icmp .ge 32, 3) := by decide +kernel
theorem dX1_placeAfter_9 : decode cX1_placeAfter 9 = .ok (.iload_n 0, 1) := by decide +kernel
theorem dX1_placeAfter_10 : decode cX1_placeAfter 10 = .ok (.iload_n 1, 1) := by decide +kernel
theorem dX1_placeAfter_11 : decode cX1_placeAfter 11 = .ok (.iload 4, 2) := by decide +kernel
theorem dX1_placeAfter_13 : decode cX1_placeAfter 13 = .ok (.iload_n 2, 1) := by decide +kernel
theorem dX1_placeAfter_14 : decode cX1_placeAfter 14 = .ok (.imul, 1) := by decide +kernel
theorem dX1_placeAfter_15 : decode cX1_placeAfter 15 = .ok (.iadd, 1) := by decide +kernel
theorem dX1_placeAfter_16 : decode cX1_placeAfter 16 = .ok (.if_icmp .ne 16, 3) := by decide +kernel
theorem dX1_placeAfter_19 : decode cX1_placeAfter 19 = .ok (.iload_n 1, 1) := by decide +kernel
theorem dX1_placeAfter_20 : decode cX1_placeAfter 20 = .ok (.iload 4, 2) := by decide +kernel
theorem dX1_placeAfter_22 : decode cX1_placeAfter 22 = .ok (.iload_n 3, 1) := by decide +kernel
theorem dX1_placeAfter_23 : decode cX1_placeAfter 23 = .ok (.iadd, 1) := by decide +kernel
theorem dX1_placeAfter_24 : decode cX1_placeAfter 24 = .ok (.iconst 5, 1) := by decide +kernel
theorem dX1_placeAfter_25 : decode cX1_placeAfter 25 = .ok (.invokestatic 127, 3) := by decide +kernel
theorem dX1_placeAfter_28 : decode cX1_placeAfter 28 = .ok (.iload_n 2, 1) := by decide +kernel
theorem dX1_placeAfter_29 : decode cX1_placeAfter 29 = .ok (.imul, 1) := by decide +kernel
theorem dX1_placeAfter_30 : decode cX1_placeAfter 30 = .ok (.iadd, 1) := by decide +kernel
theorem dX1_placeAfter_31 : decode cX1_placeAfter 31 = .ok (.ireturn, 1) := by decide +kernel
theorem dX1_placeAfter_32 : decode cX1_placeAfter 32 = .ok (.iinc 4 1, 3) := by decide +kernel
theorem dX1_placeAfter_35 : decode cX1_placeAfter 35 = .ok (.goto (-32), 3) := by decide +kernel
theorem dX1_placeAfter_38 : decode cX1_placeAfter 38 = .ok (.iload_n 0, 1) := by decide +kernel
theorem dX1_placeAfter_39 : decode cX1_placeAfter 39 = .ok (.ireturn, 1) := by decide +kernel
theorem dX1_bring_0 : decode cX1_bring 0 = .ok (.aload_n 0, 1) := by decide +kernel
theorem dX1_bring_1 : decode cX1_bring 1 = .ok (.getfield 21, 3) := by decide +kernel
theorem dX1_bring_4 : decode cX1_bring 4 = .ok (.iload_n 1, 1) := by decide +kernel
theorem dX1_bring_5 : decode cX1_bring 5 = .ok (.iload_n 2, 1) := by decide +kernel
theorem dX1_bring_6 : decode cX1_bring 6 = .ok (.iastore, 1) := by decide +kernel
theorem dX1_bring_7 : decode cX1_bring 7 = .ok (.iconst 0, 1) := by decide +kernel
theorem dX1_bring_8 : decode cX1_bring 8 = .ok (.istore_n 3, 1) := by decide +kernel
theorem dX1_bring_9 : decode cX1_bring 9 = .ok (.iload_n 3, 1) := by decide +kernel
theorem dX1_bring_10 : decode cX1_bring 10 = .ok (.bipush 6, 2) := by decide +kernel
theorem dX1_bring_12 : decode cX1_bring 12 = .ok (.if_icmp .ge 29, 3) := by decide +kernel
theorem dX1_bring_15 : decode cX1_bring 15 = .ok (.aload_n 0, 1) := by decide +kernel
theorem dX1_bring_16 : decode cX1_bring 16 = .ok (.getfield 18, 3) := by decide +kernel
theorem dX1_bring_19 : decode cX1_bring 19 = .ok (.iload_n 3, 1) := by decide +kernel
theorem dX1_bring_20 : decode cX1_bring 20 = .ok (.iaload, 1) := by decide +kernel
theorem dX1_bring_21 : decode cX1_bring 21 = .ok (.iload_n 2, 1) := by decide +kernel
theorem dX1_bring_22 : decode cX1_bring 22 = .ok (.if_icmp .ne 13, 3) := by decide +kernel
theorem dX1_bring_25 : decode cX1_bring 25 = .ok (.aload_n 0, 1) := by decide +kernel
theorem dX1_bring_26 : decode cX1_bring 26 = .ok (.getfield 18, 3) := by decide +kernel
theorem dX1_bring_29 : decode cX1_bring 29 = .ok (.iload_n 3, 1) := by decide +kernel
theorem dX1_bring_30 : decode cX1_bring 30 = .ok (.bipush 25, 2) := by decide +kernel
theorem dX1_bring_32 : decode cX1_bring 32 = .ok (.iload_n 1, 1) := by decide +kernel
theorem dX1_bring_33 : decode cX1_bring 33 = .ok (.iadd, 1) := by decide +kernel
theorem dX1_bring_34 : decode cX1_bring 34 = .ok (.iastore, 1) := by decide +kernel
theorem dX1_bring_35 : decode cX1_bring 35 = .ok (.iinc 3 1, 3) := by decide +kernel
theorem dX1_bring_38 : decode cX1_bring 38 = .ok (.goto (-29), 3) := by decide +kernel
theorem dX1_bring_41 : decode cX1_bring 41 = .ok (.return_, 1) := by decide +kernel
theorem dX1_countLocks_0 : decode cX1_countLocks 0 = .ok (.iconst 0, 1) := by decide +kernel
theorem dX1_countLocks_1 : decode cX1_countLocks 1 = .ok (.istore_n 1, 1) := by decide +kernel
theorem dX1_countLocks_2 : decode cX1_countLocks 2 = .ok (.iconst 0, 1) := by decide +kernel
theorem dX1_countLocks_3 : decode cX1_countLocks 3 = .ok (.istore_n 2, 1) := by decide +kernel
theorem dX1_countLocks_4 : decode cX1_countLocks 4 = .ok (.iload_n 2, 1) := by decide +kernel
theorem dX1_countLocks_5 : decode cX1_countLocks 5 = .ok (.bipush 25, 2) := by decide +kernel
theorem dX1_countLocks_7 : decode cX1_countLocks 7 = .ok (.if_icmp .ge 22, 3) := by decide +kernel
theorem dX1_countLocks_10 : decode cX1_countLocks 10 = .ok (.aload_n 0, 1) := by decide +kernel
theorem dX1_countLocks_11 : decode cX1_countLocks 11 = .ok (.getfield 15, 3) := by decide +kernel
theorem dX1_countLocks_14 : decode cX1_countLocks 14 = .ok (.iload_n 2, 1) := by decide +kernel
theorem dX1_countLocks_15 : decode cX1_countLocks 15 = .ok (.iaload, 1) := by decide +kernel
theorem dX1_countLocks_16 : decode cX1_countLocks 16 = .ok (.iconst (-1), 1) := by decide +kernel
theorem dX1_countLocks_17 : decode cX1_countLocks 17 = .ok (.if_icmp .eq 6, 3) := by decide +kernel
theorem dX1_countLocks_20 : decode cX1_countLocks 20 = .ok (.iinc 1 1, 3) := by decide +kernel
theorem dX1_countLocks_23 : decode cX1_countLocks 23 = .ok (.iinc 2 1, 3) := by decide +kernel
theorem dX1_countLocks_26 : decode cX1_countLocks 26 = .ok (.goto (-22), 3) := by decide +kernel
theorem dX1_countLocks_29 : decode cX1_countLocks 29 = .ok (.iload_n 1, 1) := by decide +kernel
theorem dX1_countLocks_30 : decode cX1_countLocks 30 = .ok (.ireturn, 1) := by decide +kernel
theorem dX3_init_0 : decode cX3_init 0 = .ok (.aload_n 0, 1) := by decide +kernel
theorem dX3_init_1 : decode cX3_init 1 = .ok (.invokespecial 3, 3) := by decide +kernel
theorem dX3_init_4 : decode cX3_init 4 = .ok (.aload_n 0, 1) := by decide +kernel
theorem dX3_init_5 : decode cX3_init 5 = .ok (.bipush 8, 2) := by decide +kernel
theorem dX3_init_7 : decode cX3_init 7 = .ok (.anewarray 9, 3) := by decide +kernel
theorem dX3_init_10 : decode cX3_init 10 = .ok (.putfield 11, 3) := by decide +kernel
theorem dX3_init_13 : decode cX3_init 13 = .ok (.aload_n 0, 1) := by decide +kernel
theorem dX3_init_14 : decode cX3_init 14 = .ok (.iconst 0, 1) := by decide +kernel
theorem dX3_init_15 : decode cX3_init 15 = .ok (.putfield 17, 3) := by decide +kernel
theorem dX3_init_18 : decode cX3_init 18 = .ok (.aload_n 0, 1) := by decide +kernel
theorem dX3_init_19 : decode cX3_init 19 = .ok (.iconst 0, 1) := by decide +kernel
theorem dX3_init_20 : decode cX3_init 20 = .ok (.putfield 21, 3) := by decide +kernel
theorem dX3_init_23 : decode cX3_init 23 = .ok (.iconst 0, 1) := by decide +kernel
theorem dX3_init_24 : decode cX3_init 24 = .ok (.istore_n 1, 1) := by decide +kernel
theorem dX3_init_25 : decode cX3_init 25 = .ok (.iload_n 1, 1) := by decide +kernel
theorem dX3_init_26 : decode cX3_init 26 = .ok (.bipush 8, 2) := by decide +kernel
theorem dX3_init_28 : decode cX3_init 28 = .ok (.if_icmp .ge 22, 3) := by decide +kernel
theorem dX3_init_31 : decode cX3_init 31 = .ok (.aload_n 0, 1) := by decide +kernel
theorem dX3_init_32 : decode cX3_init 32 = .ok (.getfield 11, 3) := by decide +kernel
theorem dX3_init_35 : decode cX3_init 35 = .ok (.iload_n 1, 1) := by decide +kernel
theorem dX3_init_36 : decode cX3_init 36 = .ok (.new 9, 3) := by decide +kernel
theorem dX3_init_39 : decode cX3_init 39 = .ok (.dup, 1) := by decide +kernel
theorem dX3_init_40 : decode cX3_init 40 = .ok (.invokespecial 24, 3) := by decide +kernel
theorem dX3_init_43 : decode cX3_init 43 = .ok (.aastore, 1) := by decide +kernel
theorem dX3_init_44 : decode cX3_init 44 = .ok (.iinc 1 1, 3) := by decide +kernel
theorem dX3_init_47 : decode cX3_init 47 = .ok (.goto (-22), 3) := by decide +kernel
theorem dX3_init_50 : decode cX3_init 50 = .ok (.return_, 1) := by decide +kernel
theorem dX3_add_0 : decode cX3_add 0 = .ok (.aload_n 0, 1) := by decide +kernel
theorem dX3_add_1 : decode cX3_add 1 = .ok (.getfield 11, 3) := by decide +kernel
theorem dX3_add_4 : decode cX3_add 4 = .ok (.aload_n 0, 1) := by decide +kernel
theorem dX3_add_5 : decode cX3_add 5 = .ok (.getfield 17, 3) := by decide +kernel
theorem dX3_add_8 : decode cX3_add 8 = .ok (.aaload, 1) := by decide +kernel
theorem dX3_add_9 : decode cX3_add 9 = .ok (.aload_n 1, 1) := by decide +kernel
theorem dX3_add_10 : decode cX3_add 10 = .ok (.invokevirtual 25, 3) := by decide +kernel
theorem dX3_add_13 : decode cX3_add 13 = .ok (.aload_n 0, 1) := by decide +kernel
theorem dX3_add_14 : decode cX3_add 14 = .ok (.aload_n 0, 1) := by decide +kernel
theorem dX3_add_15 : decode cX3_add 15 = .ok (.getfield 17, 3) := by decide +kernel
theorem dX3_add_18 : decode cX3_add 18 = .ok (.iconst 1, 1) := by decide +kernel
theorem dX3_add_19 : decode cX3_add 19 = .ok (.iadd, 1) := by decide +kernel
theorem dX3_add_20 : decode cX3_add 20 = .ok (.bipush 8, 2) := by decide +kernel
theorem dX3_add_22 : decode cX3_add 22 = .ok (.irem, 1) := by decide +kernel
theorem dX3_add_23 : decode cX3_add 23 = .ok (.putfield 17, 3) := by decide +kernel
theorem dX3_add_26 : decode cX3_add 26 = .ok (.aload_n 0, 1) := by decide +kernel
theorem dX3_add_27 : decode cX3_add 27 = .ok (.aload_n 0, 1) := by decide +kernel
theorem dX3_add_28 : decode cX3_add 28 = .ok (.getfield 21, 3) := by decide +kernel
theorem dX3_add_31 : decode cX3_add 31 = .ok (.iconst 1, 1) := by decide +kernel
theorem dX3_add_32 : decode cX3_add 32 = .ok (.iadd, 1) := by decide +kernel
theorem dX3_add_33 : decode cX3_add 33 = .ok (.bipush 8, 2) := by decide +kernel
theorem dX3_add_35 : decode cX3_add 35 = .ok (.invokestatic 29, 3) := by decide +kernel
theorem dX3_add_38 : decode cX3_add 38 = .ok (.putfield 21, 3) := by decide +kernel
theorem dX3_add_41 : decode cX3_add 41 = .ok (.return_, 1) := by decide +kernel
theorem dX3_clear_0 : decode cX3_clear 0 = .ok (.aload_n 0, 1) := by decide +kernel
theorem dX3_clear_1 : decode cX3_clear 1 = .ok (.iconst 0, 1) := by decide +kernel
theorem dX3_clear_2 : decode cX3_clear 2 = .ok (.putfield 21, 3) := by decide +kernel
theorem dX3_clear_5 : decode cX3_clear 5 = .ok (.return_, 1) := by decide +kernel
theorem dX4_init_0 : decode cX4_init 0 = .ok (.aload_n 0, 1) := by decide +kernel
theorem dX4_init_1 : decode cX4_init 1 = .ok (.invokespecial 3, 3) := by decide +kernel
theorem dX4_init_4 : decode cX4_init 4 = .ok (.aload_n 0, 1) := by decide +kernel
theorem dX4_init_5 : decode cX4_init 5 = .ok (.bipush 60, 2) := by decide +kernel
theorem dX4_init_7 : decode cX4_init 7 = .ok (.newarray .char, 2) := by decide +kernel
theorem dX4_init_9 : decode cX4_init 9 = .ok (.putfield 9, 3) := by decide +kernel
theorem dX4_init_12 : decode cX4_init 12 = .ok (.aload_n 0, 1) := by decide +kernel
theorem dX4_init_13 : decode cX4_init 13 = .ok (.iconst 0, 1) := by decide +kernel
theorem dX4_init_14 : decode cX4_init 14 = .ok (.putfield 15, 3) := by decide +kernel
theorem dX4_init_17 : decode cX4_init 17 = .ok (.aload_n 0, 1) := by decide +kernel
theorem dX4_init_18 : decode cX4_init 18 = .ok (.iconst 0, 1) := by decide +kernel
theorem dX4_init_19 : decode cX4_init 19 = .ok (.putfield 19, 3) := by decide +kernel
theorem dX4_init_22 : decode cX4_init 22 = .ok (.aload_n 0, 1) := by decide +kernel
theorem dX4_init_23 : decode cX4_init 23 = .ok (.getstatic 22, 3) := by decide +kernel
theorem dX4_init_26 : decode cX4_init 26 = .ok (.putfield 28, 3) := by decide +kernel
theorem dX4_init_29 : decode cX4_init 29 = .ok (.aload_n 0, 1) := by decide +kernel
theorem dX4_init_30 : decode cX4_init 30 = .ok (.iconst 3, 1) := by decide +kernel
theorem dX4_init_31 : decode cX4_init 31 = .ok (.newarray .int, 2) := by decide +kernel
theorem dX4_init_33 : decode cX4_init 33 = .ok (.putfield 31, 3) := by decide +kernel
theorem dX4_init_36 : decode cX4_init 36 = .ok (.return_, 1) := by decide +kernel
theorem dX4_clear_0 : decode cX4_clear 0 = .ok (.aload_n 0, 1) := by decide +kernel
theorem dX4_clear_1 : decode cX4_clear 1 = .ok (.iconst 0, 1) := by decide +kernel
theorem dX4_clear_2 : decode cX4_clear 2 = .ok (.putfield 15, 3) := by decide +kernel
theorem dX4_clear_5 : decode cX4_clear 5 = .ok (.return_, 1) := by decide +kernel
theorem dX4_findError_0 : decode cX4_findError 0 = .ok (.aload_n 0, 1) := by decide +kernel
theorem dX4_findError_1 : decode cX4_findError 1 = .ok (.iconst 0, 1) := by decide +kernel
theorem dX4_findError_2 : decode cX4_findError 2 = .ok (.putfield 19, 3) := by decide +kernel
theorem dX4_findError_5 : decode cX4_findError 5 = .ok (.iconst 0, 1) := by decide +kernel
theorem dX4_findError_6 : decode cX4_findError 6 = .ok (.istore_n 1, 1) := by decide +kernel
theorem dX4_findError_7 : decode cX4_findError 7 = .ok (.iconst 0, 1) := by decide +kernel
theorem dX4_findError_8 : decode cX4_findError 8 = .ok (.istore_n 2, 1) := by decide +kernel
theorem dX4_findError_9 : decode cX4_findError 9 = .ok (.iload_n 2, 1) := by decide +kernel
theorem dX4_findError_10 : decode cX4_findError 10 = .ok (.bipush 60, 2) := by decide +kernel
theorem dX4_findError_12 : decode cX4_findError 12 = .ok (.if_icmp .ge 60, 3) := by decide +kernel
theorem dX4_findError_15 : decode cX4_findError 15 = .ok (.aload_n 0, 1) := by decide +kernel
theorem dX4_findError_16 : decode cX4_findError 16 = .ok (.iload_n 1, 1) := by decide +kernel
theorem dX4_findError_17 : decode cX4_findError 17 = .ok (.invokevirtual 35, 3) := by decide +kernel
theorem dX4_findError_20 : decode cX4_findError 20 = .ok (.istore_n 3, 1) := by decide +kernel
theorem dX4_findError_21 : decode cX4_findError 21 = .ok (.iload_n 3, 1) := by decide +kernel
theorem dX4_findError_22 : decode cX4_findError 22 = .ok (.ifCond .ge 7, 3) := by decide +kernel
theorem dX4_findError_25 : decode cX4_findError 25 = .ok (.iload_n 3, 1) := by decide +kernel
theorem dX4_findError_26 : decode cX4_findError 26 = .ok (.iconst (-1), 1) := by decide +kernel
theorem dX4_findError_27 : decode cX4_findError 27 = .ok (.ixor, 1) := by decide +kernel
theorem dX4_findError_28 : decode cX4_findError 28 = .ok (.ireturn, 1) := by decide +kernel
theorem dX4_findError_29 : decode cX4_findError 29 = .ok (.aload_n 0, 1) := by decide +kernel
theorem dX4_findError_30 : decode cX4_findError 30 = .ok (.dup, 1) := by decide +kernel
theorem dX4_findError_31 : decode cX4_findError 31 = .ok (.getfield 19, 3) := by decide +kernel
theorem dX4_findError_34 : decode cX4_findError 34 = .ok (.iconst 1, 1) := by decide +kernel
theorem dX4_findError_35 : decode cX4_findError 35 = .ok (.iadd, 1) := by decide +kernel
theorem dX4_findError_36 : decode cX4_findError 36 = .ok (.putfield 19, 3) := by decide +kernel
theorem dX4_findError_39 : decode cX4_findError 39 = .ok (.iload_n 3, 1) := by decide +kernel
theorem dX4_findError_40 : decode cX4_findError 40 = .ok (.aload_n 0, 1) := by decide +kernel
theorem dX4_findError_41 : decode cX4_findError 41 = .ok (.getfield 15, 3) := by decide +kernel
theorem dX4_findError_44 : decode cX4_findError 44 = .ok (.if_icmp .lt 5, 3) := by decide +kernel
theorem dX4_findError_47 : decode cX4_findError 47 = .ok (.iconst (-1), 1) := by decide +kernel
theorem dX4_findError_48 : decode cX4_findError 48 = .ok (.ireturn, 1) := by decide +kernel
theorem dX4_findError_49 : decode cX4_findError 49 = .ok (.aload_n 0, 1) := by decide +kernel
theorem dX4_findError_50 : decode cX4_findError 50 = .ok (.getfield 9, 3) := by decide +kernel
theorem dX4_findError_53 : decode cX4_findError 53 = .ok (.iload_n 3, 1) := by decide +kernel
theorem dX4_findError_54 : decode cX4_findError 54 = .ok (.caload, 1) := by decide +kernel
theorem dX4_findError_55 : decode cX4_findError 55 = .ok (.bipush 59, 2) := by decide +kernel
theorem dX4_findError_57 : decode cX4_findError 57 = .ok (.if_icmp .eq 5, 3) := by decide +kernel
theorem dX4_findError_60 : decode cX4_findError 60 = .ok (.iload_n 3, 1) := by decide +kernel
theorem dX4_findError_61 : decode cX4_findError 61 = .ok (.ireturn, 1) := by decide +kernel
theorem dX4_findError_62 : decode cX4_findError 62 = .ok (.iload_n 3, 1) := by decide +kernel
theorem dX4_findError_63 : decode cX4_findError 63 = .ok (.iconst 1, 1) := by decide +kernel
theorem dX4_findError_64 : decode cX4_findError 64 = .ok (.iadd, 1) := by decide +kernel
theorem dX4_findError_65 : decode cX4_findError 65 = .ok (.istore_n 1, 1) := by decide +kernel
theorem dX4_findError_66 : decode cX4_findError 66 = .ok (.iinc 2 1, 3) := by decide +kernel
theorem dX4_findError_69 : decode cX4_findError 69 = .ok (.goto (-60), 3) := by decide +kernel
theorem dX4_findError_72 : decode cX4_findError 72 = .ok (.aload_n 0, 1) := by decide +kernel
theorem dX4_findError_73 : decode cX4_findError 73 = .ok (.getfield 15, 3) := by decide +kernel
theorem dX4_findError_76 : decode cX4_findError 76 = .ok (.ireturn, 1) := by decide +kernel
theorem dX4_readCommand_0 : decode cX4_readCommand 0 = .ok (.iload_n 1, 1) := by decide +kernel
theorem dX4_readCommand_1 : decode cX4_readCommand 1 = .ok (.istore_n 2, 1) := by decide +kernel
theorem dX4_readCommand_2 : decode cX4_readCommand 2 = .ok (.iconst 0, 1) := by decide +kernel
theorem dX4_readCommand_3 : decode cX4_readCommand 3 = .ok (.istore_n 3, 1) := by decide +kernel
theorem dX4_readCommand_4 : decode cX4_readCommand 4 = .ok (.iload_n 3, 1) := by decide +kernel
theorem dX4_readCommand_5 : decode cX4_readCommand 5 = .ok (.getstatic 39, 3) := by decide +kernel
theorem dX4_readCommand_8 : decode cX4_readCommand 8 = .ok (.arraylength, 1) := by decide +kernel
theorem dX4_readCommand_9 : decode cX4_readCommand 9 = .ok (.if_icmp .ge 50, 3) := by decide +kernel
theorem dX4_readCommand_12 : decode cX4_readCommand 12 = .ok (.aload_n 0, 1) := by decide +kernel
theorem dX4_readCommand_13 : decode cX4_readCommand 13 = .ok (.getstatic 39, 3) := by decide +kernel
theorem dX4_readCommand_16 : decode cX4_readCommand 16 = .ok (.iload_n 3, 1) := by decide +kernel
theorem dX4_readCommand_17 : decode cX4_readCommand 17 = .ok (.aaload, 1) := by decide +kernel
theorem dX4_readCommand_18 : decode cX4_readCommand 18 = .ok (.getfield 43, 3) := by decide +kernel
theorem dX4_readCommand_21 : decode cX4_readCommand 21 = .ok (.iload_n 1, 1) := by decide +kernel
theorem dX4_readCommand_22 : decode cX4_readCommand 22 = .ok (.invokevirtual 47, 3) := by decide +kernel
theorem dX4_readCommand_25 : decode cX4_readCommand 25 = .ok (.istore 4, 2) := by decide +kernel
theorem dX4_readCommand_27 : decode cX4_readCommand 27 = .ok (.iload 4, 2) := by decide +kernel
theorem dX4_readCommand_29 : decode cX4_readCommand 29 = .ok (.ifCond .lt 15, 3) := by decide +kernel
theorem dX4_readCommand_32 : decode cX4_readCommand 32 = .ok (.aload_n 0, 1) := by decide +kernel
theorem dX4_readCommand_33 : decode cX4_readCommand 33 = .ok (.getstatic 39, 3) := by decide +kernel
theorem dX4_readCommand_36 : decode cX4_readCommand 36 = .ok (.iload_n 3, 1) := by decide +kernel
theorem dX4_readCommand_37 : decode cX4_readCommand 37 = .ok (.aaload, 1) := by decide +kernel
theorem dX4_readCommand_38 : decode cX4_readCommand 38 = .ok (.putfield 28, 3) := by decide +kernel
theorem dX4_readCommand_41 : decode cX4_readCommand 41 = .ok (.iload 4, 2) := by decide +kernel
theorem dX4_readCommand_43 : decode cX4_readCommand 43 = .ok (.ireturn, 1) := by decide +kernel
theorem dX4_readCommand_44 : decode cX4_readCommand 44 = .ok (.iload_n 2, 1) := by decide +kernel
theorem dX4_readCommand_45 : decode cX4_readCommand 45 = .ok (.iload 4, 2) := by decide +kernel
theorem dX4_readCommand_47 : decode cX4_readCommand 47 = .ok (.iconst (-1), 1) := by decide +kernel
theorem dX4_readCommand_48 : decode cX4_readCommand 48 = .ok (.ixor, 1) := by decide +kernel
theorem dX4_readCommand_49 : decode cX4_readCommand 49 = .ok (.invokestatic 51, 3) := by decide +kernel
theorem dX4_readCommand_52 : decode cX4_readCommand 52 = .ok (.istore_n 2, 1) := by decide +kernel
theorem dX4_readCommand_53 : decode cX4_readCommand 53 = .ok (.iinc 3 1, 3) := by decide +kernel
theorem dX4_readCommand_56 : decode cX4_readCommand 56 = .ok (.goto (-52), 3) := by decide +kernel
theorem dX4_readCommand_59 : decode cX4_readCommand 59 = .ok (.iload_n 2, 1) := by decide +kernel
theorem dX4_readCommand_60 : decode cX4_readCommand 60 = .ok (.iconst (-1), 1) := by decide +kernel
theorem dX4_readCommand_61 : decode cX4_readCommand 61 = .ok (.ixor, 1) := by decide +kernel
theorem dX4_readCommand_62 : decode cX4_readCommand 62 = .ok (.ireturn, 1) := by decide +kernel
theorem dX4_match_0 : decode cX4_match 0 = .ok (.iload_n 2, 1) := by decide +kernel
theorem dX4_match_1 : decode cX4_match 1 = .ok (.istore_n 3, 1) := by decide +kernel
theorem dX4_match_2 : decode cX4_match 2 = .ok (.iconst 0, 1) := by decide +kernel
theorem dX4_match_3 : decode cX4_match 3 = .ok (.istore 4, 2) := by decide +kernel
theorem dX4_match_5 : decode cX4_match 5 = .ok (.iconst 0, 1) := by decide +kernel
theorem dX4_match_6 : decode cX4_match 6 = .ok (.istore 5, 2) := by decide +kernel
theorem dX4_match_8 : decode cX4_match 8 = .ok (.iload 5, 2) := by decide +kernel
theorem dX4_match_10 : decode cX4_match 10 = .ok (.aload_n 1, 1) := by decide +kernel
theorem dX4_match_11 : decode cX4_match 11 = .ok (.invokevirtual 57, 3) := by decide +kernel
theorem dX4_match_14 : decode cX4_match 14 = .ok (.if_icmp .ge 136, 3) := by decide +kernel
theorem dX4_match_17 : decode cX4_match 17 = .ok (.aload_n 1, 1) := by decide +kernel
theorem dX4_match_18 : decode cX4_match 18 = .ok (.iload 5, 2) := by decide +kernel
theorem dX4_match_20 : decode cX4_match 20 = .ok (.invokevirtual 62, 3) := by decide +kernel
theorem dX4_match_23 : decode cX4_match 23 = .ok (.istore 6, 2) := by decide +kernel
theorem dX4_match_25 : decode cX4_match 25 = .ok (.iload_n 3, 1) := by decide +kernel
theorem dX4_match_26 : decode cX4_match 26 = .ok (.aload_n 0, 1) := by decide +kernel
theorem dX4_match_27 : decode cX4_match 27 = .ok (.getfield 15, 3) := by decide +kernel
theorem dX4_match_30 : decode cX4_match 30 = .ok (.if_icmp .ge 17, 3) := by decide +kernel
theorem dX4_match_33 : decode cX4_match 33 = .ok (.iload 6, 2) := by decide +kernel
theorem dX4_match_35 : decode cX4_match 35 = .ok (.aload_n 0, 1) := by decide +kernel
theorem dX4_match_36 : decode cX4_match 36 = .ok (.getfield 9, 3) := by decide +kernel
theorem dX4_match_39 : decode cX4_match 39 = .ok (.iload_n 3, 1) := by decide +kernel
theorem dX4_match_40 : decode cX4_match 40 = .ok (.caload, 1) := by decide +kernel
theorem dX4_match_41 : decode cX4_match 41 = .ok (.invokestatic 66, 3) := by decide +kernel
theorem dX4_match_44 : decode cX4_match 44 = .ok (.ifCond .ne 7, 3) := by decide +kernel
theorem dX4_match_47 : decode cX4_match 47 = .ok (.iload_n 3, 1) := by decide +kernel
theorem dX4_match_48 : decode cX4_match 48 = .ok (.iconst (-1), 1) := by decide +kernel
theorem dX4_match_49 : decode cX4_match 49 = .ok (.ixor, 1) := by decide +kernel
theorem dX4_match_50 : decode cX4_match 50 = .ok (.ireturn, 1) := by decide +kernel
theorem dX4_match_51 : decode cX4_match 51 = .ok (.iload 6, 2) := by decide +kernel
theorem dX4_match_53 : decode cX4_match 53 = .ok (.aload_n 0, 1) := by decide +kernel
theorem dX4_match_54 : decode cX4_match 54 = .ok (.getfield 9, 3) := by decide +kernel
theorem dX4_match_57 : decode cX4_match 57 = .ok (.iload_n 3, 1) := by decide +kernel
theorem dX4_match_58 : decode cX4_match 58 = .ok (.caload, 1) := by decide +kernel
theorem dX4_match_59 : decode cX4_match 59 = .ok (.invokestatic 70, 3) := by decide +kernel
theorem dX4_match_62 : decode cX4_match 62 = .ok (.istore 7, 2) := by decide +kernel
theorem dX4_match_64 : decode cX4_match 64 = .ok (.iinc 3 1, 3) := by decide +kernel
theorem dX4_match_67 : decode cX4_match 67 = .ok (.iload 6, 2) := by decide +kernel
theorem dX4_match_69 : decode cX4_match 69 = .ok (.bipush 78, 2) := by decide +kernel
theorem dX4_match_71 : decode cX4_match 71 = .ok (.if_icmp .ne 47, 3) := by decide +kernel
theorem dX4_match_74 : decode cX4_match 74 = .ok (.iload_n 3, 1) := by decide +kernel
theorem dX4_match_75 : decode cX4_match 75 = .ok (.aload_n 0, 1) := by decide +kernel
theorem dX4_match_76 : decode cX4_match 76 = .ok (.getfield 15, 3) := by decide +kernel
theorem dX4_match_79 : decode cX4_match 79 = .ok (.if_icmp .ge 39, 3) := by decide +kernel
theorem dX4_match_82 : decode cX4_match 82 = .ok (.bipush 68, 2) := by decide +kernel
theorem dX4_match_84 : decode cX4_match 84 = .ok (.aload_n 0, 1) := by decide +kernel
theorem dX4_match_85 : decode cX4_match 85 = .ok (.getfield 9, 3) := by decide +kernel
theorem dX4_match_88 : decode cX4_match 88 = .ok (.iload_n 3, 1) := by decide +kernel
theorem dX4_match_89 : decode cX4_match 89 = .ok (.caload, 1) := by decide +kernel
theorem dX4_match_90 : decode cX4_match 90 = .ok (.invokestatic 66, 3) := by decide +kernel
theorem dX4_match_93 : decode cX4_match 93 = .ok (.ifCond .eq 25, 3) := by decide +kernel
theorem dX4_match_96 : decode cX4_match 96 = .ok (.bipush 10, 2) := by decide +kernel
theorem dX4_match_98 : decode cX4_match 98 = .ok (.iload 7, 2) := by decide +kernel
theorem dX4_match_100 : decode cX4_match 100 = .ok (.imul, 1) := by decide +kernel
theorem dX4_match_101 : decode cX4_match 101 = .ok (.bipush 68, 2) := by decide +kernel
theorem dX4_match_103 : decode cX4_match 103 = .ok (.aload_n 0, 1) := by decide +kernel
theorem dX4_match_104 : decode cX4_match 104 = .ok (.getfield 9, 3) := by decide +kernel
theorem dX4_match_107 : decode cX4_match 107 = .ok (.iload_n 3, 1) := by decide +kernel
theorem dX4_match_108 : decode cX4_match 108 = .ok (.caload, 1) := by decide +kernel
theorem dX4_match_109 : decode cX4_match 109 = .ok (.invokestatic 70, 3) := by decide +kernel
theorem dX4_match_112 : decode cX4_match 112 = .ok (.iadd, 1) := by decide +kernel
theorem dX4_match_113 : decode cX4_match 113 = .ok (.istore 7, 2) := by decide +kernel
theorem dX4_match_115 : decode cX4_match 115 = .ok (.iinc 3 1, 3) := by decide +kernel
theorem dX4_match_118 : decode cX4_match 118 = .ok (.iload 6, 2) := by decide +kernel
theorem dX4_match_120 : decode cX4_match 120 = .ok (.invokestatic 74, 3) := by decide +kernel
theorem dX4_match_123 : decode cX4_match 123 = .ok (.ifCond .eq 21, 3) := by decide +kernel
theorem dX4_match_126 : decode cX4_match 126 = .ok (.iload 4, 2) := by decide +kernel
theorem dX4_match_128 : decode cX4_match 128 = .ok (.iconst 3, 1) := by decide +kernel
theorem dX4_match_129 : decode cX4_match 129 = .ok (.if_icmp .ge 15, 3) := by decide +kernel
theorem dX4_match_132 : decode cX4_match 132 = .ok (.aload_n 0, 1) := by decide +kernel
theorem dX4_match_133 : decode cX4_match 133 = .ok (.getfield 31, 3) := by decide +kernel
theorem dX4_match_136 : decode cX4_match 136 = .ok (.iload 4, 2) := by decide +kernel
theorem dX4_match_138 : decode cX4_match 138 = .ok (.iload 7, 2) := by decide +kernel
theorem dX4_match_140 : decode cX4_match 140 = .ok (.iastore, 1) := by decide +kernel
theorem dX4_match_141 : decode cX4_match 141 = .ok (.iinc 4 1, 3) := by decide +kernel
theorem dX4_match_144 : decode cX4_match 144 = .ok (.iinc 5 1, 3) := by decide +kernel
theorem dX4_match_147 : decode cX4_match 147 = .ok (.goto (-139), 3) := by decide +kernel
theorem dX4_match_150 : decode cX4_match 150 = .ok (.iload_n 3, 1) := by decide +kernel
theorem dX4_match_151 : decode cX4_match 151 = .ok (.ireturn, 1) := by decide +kernel
theorem dX4_isPlaceholder_0 : decode cX4_isPlaceholder 0 = .ok (.iload_n 0, 1) := by decide +kernel
theorem dX4_isPlaceholder_1 : decode cX4_isPlaceholder 1 = .ok (.bipush 68, 2) := by decide +kernel
theorem dX4_isPlaceholder_3 : decode cX4_isPlaceholder 3 = .ok (.if_icmp .eq 21, 3) := by decide +kernel
theorem dX4_isPlaceholder_6 : decode cX4_isPlaceholder 6 = .ok (.iload_n 0, 1) := by decide +kernel
theorem dX4_isPlaceholder_7 : decode cX4_isPlaceholder 7 = .ok (.bipush 78, 2) := by decide +kernel
theorem dX4_isPlaceholder_9 : decode cX4_isPlaceholder 9 = .ok (.if_icmp .eq 15, 3) := by decide +kernel
theorem dX4_isPlaceholder_12 : decode cX4_isPlaceholder 12 = .ok (.iload_n 0, 1) := by decide +kernel
theorem dX4_isPlaceholder_13 : decode cX4_isPlaceholder 13 = .ok (.bipush 83, 2) := by decide +kernel
theorem dX4_isPlaceholder_15 : decode cX4_isPlaceholder 15 = .ok (.if_icmp .eq 9, 3) := by decide +kernel
theorem dX4_isPlaceholder_18 : decode cX4_isPlaceholder 18 = .ok (.iload_n 0, 1) := by decide +kernel
theorem dX4_isPlaceholder_19 : decode cX4_isPlaceholder 19 = .ok (.bipush 76, 2) := by decide +kernel
theorem dX4_isPlaceholder_21 : decode cX4_isPlaceholder 21 = .ok (.if_icmp .ne 7, 3) := by decide +kernel
theorem dX4_isPlaceholder_24 : decode cX4_isPlaceholder 24 = .ok (.iconst 1, 1) := by decide +kernel
theorem dX4_isPlaceholder_25 : decode cX4_isPlaceholder 25 = .ok (.goto 4, 3) := by decide +kernel
theorem dX4_isPlaceholder_28 : decode cX4_isPlaceholder 28 = .ok (.iconst 0, 1) := by decide +kernel
theorem dX4_isPlaceholder_29 : decode cX4_isPlaceholder 29 = .ok (.ireturn, 1) := by decide +kernel
theorem dX4_fits_0 : decode cX4_fits 0 = .ok (.iload_n 0, 1) := by decide +kernel
theorem dX4_fits_1 : decode cX4_fits 1 = .ok (.bipush 68, 2) := by decide +kernel
theorem dX4_fits_3 : decode cX4_fits 3 = .ok (.if_icmp .eq 9, 3) := by decide +kernel
theorem dX4_fits_6 : decode cX4_fits 6 = .ok (.iload_n 0, 1) := by decide +kernel
theorem dX4_fits_7 : decode cX4_fits 7 = .ok (.bipush 78, 2) := by decide +kernel
theorem dX4_fits_9 : decode cX4_fits 9 = .ok (.if_icmp .ne 21, 3) := by decide +kernel
theorem dX4_fits_12 : decode cX4_fits 12 = .ok (.iload_n 1, 1) := by decide +kernel
theorem dX4_fits_13 : decode cX4_fits 13 = .ok (.bipush 48, 2) := by decide +kernel
theorem dX4_fits_15 : decode cX4_fits 15 = .ok (.if_icmp .lt 13, 3) := by decide +kernel
theorem dX4_fits_18 : decode cX4_fits 18 = .ok (.iload_n 1, 1) := by decide +kernel
theorem dX4_fits_19 : decode cX4_fits 19 = .ok (.bipush 57, 2) := by decide +kernel
theorem dX4_fits_21 : decode cX4_fits 21 = .ok (.if_icmp .gt 7, 3) := by decide +kernel
theorem dX4_fits_24 : decode cX4_fits 24 = .ok (.iconst 1, 1) := by decide +kernel
theorem dX4_fits_25 : decode cX4_fits 25 = .ok (.goto 4, 3) := by decide +kernel
theorem dX4_fits_28 : decode cX4_fits 28 = .ok (.iconst 0, 1) := by decide +kernel
theorem dX4_fits_29 : decode cX4_fits 29 = .ok (.ireturn, 1) := by decide +kernel
theorem dX4_fits_30 : decode cX4_fits 30 = .ok (.iload_n 0, 1) := by decide +kernel
theorem dX4_fits_31 : decode cX4_fits 31 = .ok (.bipush 83, 2) := by decide +kernel
theorem dX4_fits_33 : decode cX4_fits 33 = .ok (.if_icmp .ne 21, 3) := by decide +kernel
theorem dX4_fits_36 : decode cX4_fits 36 = .ok (.iload_n 1, 1) := by decide +kernel
theorem dX4_fits_37 : decode cX4_fits 37 = .ok (.bipush 43, 2) := by decide +kernel
theorem dX4_fits_39 : decode cX4_fits 39 = .ok (.if_icmp .eq 9, 3) := by decide +kernel
theorem dX4_fits_42 : decode cX4_fits 42 = .ok (.iload_n 1, 1) := by decide +kernel
theorem dX4_fits_43 : decode cX4_fits 43 = .ok (.bipush 45, 2) := by decide +kernel
theorem dX4_fits_45 : decode cX4_fits 45 = .ok (.if_icmp .ne 7, 3) := by decide +kernel
theorem dX4_fits_48 : decode cX4_fits 48 = .ok (.iconst 1, 1) := by decide +kernel
theorem dX4_fits_49 : decode cX4_fits 49 = .ok (.goto 4, 3) := by decide +kernel
theorem dX4_fits_52 : decode cX4_fits 52 = .ok (.iconst 0, 1) := by decide +kernel
theorem dX4_fits_53 : decode cX4_fits 53 = .ok (.ireturn, 1) := by decide +kernel
theorem dX4_fits_54 : decode cX4_fits 54 = .ok (.iload_n 0, 1) := by decide +kernel
theorem dX4_fits_55 : decode cX4_fits 55 = .ok (.bipush 76, 2) := by decide +kernel
theorem dX4_fits_57 : decode cX4_fits 57 = .ok (.if_icmp .ne 8, 3) := by decide +kernel
theorem dX4_fits_60 : decode cX4_fits 60 = .ok (.iload_n 1, 1) := by decide +kernel
theorem dX4_fits_61 : decode cX4_fits 61 = .ok (.invokestatic 78, 3) := by decide +kernel
theorem dX4_fits_64 : decode cX4_fits 64 = .ok (.ireturn, 1) := by decide +kernel
theorem dX4_fits_65 : decode cX4_fits 65 = .ok (.iload_n 1, 1) := by decide +kernel
theorem dX4_fits_66 : decode cX4_fits 66 = .ok (.iload_n 0, 1) := by decide +kernel
theorem dX4_fits_67 : decode cX4_fits 67 = .ok (.if_icmp .ne 7, 3) := by decide +kernel
theorem dX4_fits_70 : decode cX4_fits 70 = .ok (.iconst 1, 1) := by decide +kernel
theorem dX4_fits_71 : decode cX4_fits 71 = .ok (.goto 4, 3) := by decide +kernel
theorem dX4_fits_74 : decode cX4_fits 74 = .ok (.iconst 0, 1) := by decide +kernel
theorem dX4_fits_75 : decode cX4_fits 75 = .ok (.ireturn, 1) := by decide +kernel
theorem dX4_valueOf_0 : decode cX4_valueOf 0 = .ok (.iload_n 0, 1) := by decide +kernel
theorem dX4_valueOf_1 : decode cX4_valueOf 1 = .ok (.bipush 68, 2) := by decide +kernel
theorem dX4_valueOf_3 : decode cX4_valueOf 3 = .ok (.if_icmp .eq 9, 3) := by decide +kernel
theorem dX4_valueOf_6 : decode cX4_valueOf 6 = .ok (.iload_n 0, 1) := by decide +kernel
theorem dX4_valueOf_7 : decode cX4_valueOf 7 = .ok (.bipush 78, 2) := by decide +kernel
theorem dX4_valueOf_9 : decode cX4_valueOf 9 = .ok (.if_icmp .ne 8, 3) := by decide +kernel
theorem dX4_valueOf_12 : decode cX4_valueOf 12 = .ok (.iload_n 1, 1) := by decide +kernel
theorem dX4_valueOf_13 : decode cX4_valueOf 13 = .ok (.bipush 48, 2) := by decide +kernel
theorem dX4_valueOf_15 : decode cX4_valueOf 15 = .ok (.isub, 1) := by decide +kernel
theorem dX4_valueOf_16 : decode cX4_valueOf 16 = .ok (.ireturn, 1) := by decide +kernel
theorem dX4_valueOf_17 : decode cX4_valueOf 17 = .ok (.iload_n 0, 1) := by decide +kernel
theorem dX4_valueOf_18 : decode cX4_valueOf 18 = .ok (.bipush 83, 2) := by decide +kernel
theorem dX4_valueOf_20 : decode cX4_valueOf 20 = .ok (.if_icmp .ne 15, 3) := by decide +kernel
theorem dX4_valueOf_23 : decode cX4_valueOf 23 = .ok (.iload_n 1, 1) := by decide +kernel
theorem dX4_valueOf_24 : decode cX4_valueOf 24 = .ok (.bipush 43, 2) := by decide +kernel
theorem dX4_valueOf_26 : decode cX4_valueOf 26 = .ok (.if_icmp .ne 7, 3) := by decide +kernel
theorem dX4_valueOf_29 : decode cX4_valueOf 29 = .ok (.iconst 1, 1) := by decide +kernel
theorem dX4_valueOf_30 : decode cX4_valueOf 30 = .ok (.goto 4, 3) := by decide +kernel
theorem dX4_valueOf_33 : decode cX4_valueOf 33 = .ok (.iconst (-1), 1) := by decide +kernel
theorem dX4_valueOf_34 : decode cX4_valueOf 34 = .ok (.ireturn, 1) := by decide +kernel
theorem dX4_valueOf_35 : decode cX4_valueOf 35 = .ok (.iload_n 1, 1) := by decide +kernel
theorem dX4_valueOf_36 : decode cX4_valueOf 36 = .ok (.ireturn, 1) := by decide +kernel
theorem dX5_init_0 : decode cX5_init 0 = .ok (.aload_n 0, 1) := by decide +kernel
theorem dX5_init_1 : decode cX5_init 1 = .ok (.invokespecial 3, 3) := by decide +kernel
theorem dX5_init_4 : decode cX5_init 4 = .ok (.aload_n 0, 1) := by decide +kernel
theorem dX5_init_5 : decode cX5_init 5 = .ok (.bipush 25, 2) := by decide +kernel
theorem dX5_init_7 : decode cX5_init 7 = .ok (.newarray .int, 2) := by decide +kernel
theorem dX5_init_9 : decode cX5_init 9 = .ok (.putfield 9, 3) := by decide +kernel
theorem dX5_init_12 : decode cX5_init 12 = .ok (.aload_n 0, 1) := by decide +kernel
theorem dX5_init_13 : decode cX5_init 13 = .ok (.bipush 25, 2) := by decide +kernel
theorem dX5_init_15 : decode cX5_init 15 = .ok (.newarray .int, 2) := by decide +kernel
theorem dX5_init_17 : decode cX5_init 17 = .ok (.putfield 15, 3) := by decide +kernel
theorem dX5_init_20 : decode cX5_init 20 = .ok (.aload_n 0, 1) := by decide +kernel
theorem dX5_init_21 : decode cX5_init 21 = .ok (.bipush 25, 2) := by decide +kernel
theorem dX5_init_23 : decode cX5_init 23 = .ok (.newarray .int, 2) := by decide +kernel
theorem dX5_init_25 : decode cX5_init 25 = .ok (.putfield 18, 3) := by decide +kernel
theorem dX5_init_28 : decode cX5_init 28 = .ok (.aload_n 0, 1) := by decide +kernel
theorem dX5_init_29 : decode cX5_init 29 = .ok (.bipush 25, 2) := by decide +kernel
theorem dX5_init_31 : decode cX5_init 31 = .ok (.newarray .int, 2) := by decide +kernel
theorem dX5_init_33 : decode cX5_init 33 = .ok (.putfield 21, 3) := by decide +kernel
theorem dX5_init_36 : decode cX5_init 36 = .ok (.aload_n 0, 1) := by decide +kernel
theorem dX5_init_37 : decode cX5_init 37 = .ok (.bipush 25, 2) := by decide +kernel
theorem dX5_init_39 : decode cX5_init 39 = .ok (.newarray .int, 2) := by decide +kernel
theorem dX5_init_41 : decode cX5_init 41 = .ok (.putfield 24, 3) := by decide +kernel
theorem dX5_init_44 : decode cX5_init 44 = .ok (.return_, 1) := by decide +kernel
theorem dX5_findPaths_0 : decode cX5_findPaths 0 = .ok (.aload_n 1, 1) := by decide +kernel
theorem dX5_findPaths_1 : decode cX5_findPaths 1 = .ok (.getfield 27, 3) := by decide +kernel
theorem dX5_findPaths_4 : decode cX5_findPaths 4 = .ok (.iload_n 2, 1) := by decide +kernel
theorem dX5_findPaths_5 : decode cX5_findPaths 5 = .ok (.iaload, 1) := by decide +kernel
theorem dX5_findPaths_6 : decode cX5_findPaths 6 = .ok (.istore_n 3, 1) := by decide +kernel
theorem dX5_findPaths_7 : decode cX5_findPaths 7 = .ok (.aload_n 0, 1) := by decide +kernel
theorem dX5_findPaths_8 : decode cX5_findPaths 8 = .ok (.getfield 9, 3) := by decide +kernel
theorem dX5_findPaths_11 : decode cX5_findPaths 11 = .ok (.bipush 25, 2) := by decide +kernel
theorem dX5_findPaths_13 : decode cX5_findPaths 13 = .ok (.invokestatic 32, 3) := by decide +kernel
theorem dX5_findPaths_16 : decode cX5_findPaths 16 = .ok (.aload_n 0, 1) := by decide +kernel
theorem dX5_findPaths_17 : decode cX5_findPaths 17 = .ok (.getfield 9, 3) := by decide +kernel
theorem dX5_findPaths_20 : decode cX5_findPaths 20 = .ok (.iload_n 3, 1) := by decide +kernel
theorem dX5_findPaths_21 : decode cX5_findPaths 21 = .ok (.iconst 0, 1) := by decide +kernel
theorem dX5_findPaths_22 : decode cX5_findPaths 22 = .ok (.iastore, 1) := by decide +kernel
theorem dX5_findPaths_23 : decode cX5_findPaths 23 = .ok (.aload_n 0, 1) := by decide +kernel
theorem dX5_findPaths_24 : decode cX5_findPaths 24 = .ok (.getfield 21, 3) := by decide +kernel
theorem dX5_findPaths_27 : decode cX5_findPaths 27 = .ok (.iconst 0, 1) := by decide +kernel
theorem dX5_findPaths_28 : decode cX5_findPaths 28 = .ok (.iload_n 3, 1) := by decide +kernel
theorem dX5_findPaths_29 : decode cX5_findPaths 29 = .ok (.iastore, 1) := by decide +kernel
theorem dX5_findPaths_30 : decode cX5_findPaths 30 = .ok (.iconst 1, 1) := by decide +kernel
theorem dX5_findPaths_31 : decode cX5_findPaths 31 = .ok (.istore 4, 2) := by decide +kernel
theorem dX5_findPaths_33 : decode cX5_findPaths 33 = .ok (.iconst 0, 1) := by decide +kernel
theorem dX5_findPaths_34 : decode cX5_findPaths 34 = .ok (.istore 5, 2) := by decide +kernel
theorem dX5_findPaths_36 : decode cX5_findPaths 36 = .ok (.iload 5, 2) := by decide +kernel
theorem dX5_findPaths_38 : decode cX5_findPaths 38 = .ok (.iload 4, 2) := by decide +kernel
theorem dX5_findPaths_40 : decode cX5_findPaths 40 = .ok (.if_icmp .ge 131, 3) := by decide +kernel
theorem dX5_findPaths_43 : decode cX5_findPaths 43 = .ok (.iload 5, 2) := by decide +kernel
theorem dX5_findPaths_45 : decode cX5_findPaths 45 = .ok (.bipush 25, 2) := by decide +kernel
theorem dX5_findPaths_47 : decode cX5_findPaths 47 = .ok (.if_icmp .ge 124, 3) := by decide +kernel
theorem dX5_findPaths_50 : decode cX5_findPaths 50 = .ok (.aload_n 0, 1) := by decide +kernel
theorem dX5_findPaths_51 : decode cX5_findPaths 51 = .ok (.getfield 21, 3) := by decide +kernel
theorem dX5_findPaths_54 : decode cX5_findPaths 54 = .ok (.iload 5, 2) := by decide +kernel
theorem dX5_findPaths_56 : decode cX5_findPaths 56 = .ok (.iaload, 1) := by decide +kernel
theorem dX5_findPaths_57 : decode cX5_findPaths 57 = .ok (.istore 6, 2) := by decide +kernel
theorem dX5_findPaths_59 : decode cX5_findPaths 59 = .ok (.iconst 0, 1) := by decide +kernel
theorem dX5_findPaths_60 : decode cX5_findPaths 60 = .ok (.istore 7, 2) := by decide +kernel
theorem dX5_findPaths_62 : decode cX5_findPaths 62 = .ok (.iload 7, 2) := by decide +kernel
theorem dX5_findPaths_64 : decode cX5_findPaths 64 = .ok (.iconst 4, 1) := by decide +kernel
theorem dX5_findPaths_65 : decode cX5_findPaths 65 = .ok (.if_icmp .ge 100, 3) := by decide +kernel
theorem dX5_findPaths_68 : decode cX5_findPaths 68 = .ok (.aload_n 1, 1) := by decide +kernel
theorem dX5_findPaths_69 : decode cX5_findPaths 69 = .ok (.iload 6, 2) := by decide +kernel
theorem dX5_findPaths_71 : decode cX5_findPaths 71 = .ok (.iload 7, 2) := by decide +kernel
theorem dX5_findPaths_73 : decode cX5_findPaths 73 = .ok (.invokevirtual 38, 3) := by decide +kernel
theorem dX5_findPaths_76 : decode cX5_findPaths 76 = .ok (.istore 8, 2) := by decide +kernel
theorem dX5_findPaths_78 : decode cX5_findPaths 78 = .ok (.iload 8, 2) := by decide +kernel
theorem dX5_findPaths_80 : decode cX5_findPaths 80 = .ok (.iconst (-1), 1) := by decide +kernel
theorem dX5_findPaths_81 : decode cX5_findPaths 81 = .ok (.if_icmp .eq 78, 3) := by decide +kernel
theorem dX5_findPaths_84 : decode cX5_findPaths 84 = .ok (.aload_n 0, 1) := by decide +kernel
theorem dX5_findPaths_85 : decode cX5_findPaths 85 = .ok (.getfield 9, 3) := by decide +kernel
theorem dX5_findPaths_88 : decode cX5_findPaths 88 = .ok (.iload 8, 2) := by decide +kernel
theorem dX5_findPaths_90 : decode cX5_findPaths 90 = .ok (.iaload, 1) := by decide +kernel
theorem dX5_findPaths_91 : decode cX5_findPaths 91 = .ok (.bipush 25, 2) := by decide +kernel
theorem dX5_findPaths_93 : decode cX5_findPaths 93 = .ok (.if_icmp .ne 66, 3) := by decide +kernel
theorem dX5_findPaths_96 : decode cX5_findPaths 96 = .ok (.aload_n 1, 1) := by decide +kernel
theorem dX5_findPaths_97 : decode cX5_findPaths 97 = .ok (.iload_n 2, 1) := by decide +kernel
theorem dX5_findPaths_98 : decode cX5_findPaths 98 = .ok (.iload 8, 2) := by decide +kernel
theorem dX5_findPaths_100 : decode cX5_findPaths 100 = .ok (.invokevirtual 42, 3) := by decide +kernel
theorem dX5_findPaths_103 : decode cX5_findPaths 103 = .ok (.ifCond .eq 56, 3) := by decide +kernel
theorem dX5_findPaths_106 : decode cX5_findPaths 106 = .ok (.aload_n 0, 1) := by decide +kernel
theorem dX5_findPaths_107 : decode cX5_findPaths 107 = .ok (.getfield 9, 3) := by decide +kernel
theorem dX5_findPaths_110 : decode cX5_findPaths 110 = .ok (.iload 8, 2) := by decide +kernel
theorem dX5_findPaths_112 : decode cX5_findPaths 112 = .ok (.aload_n 0, 1) := by decide +kernel
theorem dX5_findPaths_113 : decode cX5_findPaths 113 = .ok (.getfield 9, 3) := by decide +kernel
theorem dX5_findPaths_116 : decode cX5_findPaths 116 = .ok (.iload 6, 2) := by decide +kernel
theorem dX5_findPaths_118 : decode cX5_findPaths 118 = .ok (.iaload, 1) := by decide +kernel
theorem dX5_findPaths_119 : decode cX5_findPaths 119 = .ok (.iconst 1, 1) := by decide +kernel
theorem dX5_findPaths_120 : decode cX5_findPaths 120 = .ok (.iadd, 1) := by decide +kernel
theorem dX5_findPaths_121 : decode cX5_findPaths 121 = .ok (.iastore, 1) := by decide +kernel
theorem dX5_findPaths_122 : decode cX5_findPaths 122 = .ok (.aload_n 0, 1) := by decide +kernel
theorem dX5_findPaths_123 : decode cX5_findPaths 123 = .ok (.getfield 18, 3) := by decide +kernel
theorem dX5_findPaths_126 : decode cX5_findPaths 126 = .ok (.iload 8, 2) := by decide +kernel
theorem dX5_findPaths_128 : decode cX5_findPaths 128 = .ok (.iload 6, 2) := by decide +kernel
theorem dX5_findPaths_130 : decode cX5_findPaths 130 = .ok (.iload_n 3, 1) := by decide +kernel
theorem dX5_findPaths_131 : decode cX5_findPaths 131 = .ok (.if_icmp .ne 8, 3) := by decide +kernel
theorem dX5_findPaths_134 : decode cX5_findPaths 134 = .ok (.iload 7, 2) := by decide +kernel
theorem dX5_findPaths_136 : decode cX5_findPaths 136 = .ok (.goto 10, 3) := by decide +kernel
theorem dX5_findPaths_139 : decode cX5_findPaths 139 = .ok (.aload_n 0, 1) := by decide +kernel
theorem dX5_findPaths_140 : decode cX5_findPaths 140 = .ok (.getfield 18, 3) := by decide +kernel
theorem dX5_findPaths_143 : decode cX5_findPaths 143 = .ok (.iload 6, 2) := by decide +kernel
theorem dX5_findPaths_145 : decode cX5_findPaths 145 = .ok (.iaload, 1) := by decide +kernel
theorem dX5_findPaths_146 : decode cX5_findPaths 146 = .ok (.iastore, 1) := by decide +kernel
theorem dX5_findPaths_147 : decode cX5_findPaths 147 = .ok (.aload_n 0, 1) := by decide +kernel
theorem dX5_findPaths_148 : decode cX5_findPaths 148 = .ok (.getfield 21, 3) := by decide +kernel
theorem dX5_findPaths_151 : decode cX5_findPaths 151 = .ok (.iload 4, 2) := by decide +kernel
theorem dX5_findPaths_153 : decode cX5_findPaths 153 = .ok (.iload 8, 2) := by decide +kernel
theorem dX5_findPaths_155 : decode cX5_findPaths 155 = .ok (.iastore, 1) := by decide +kernel
theorem dX5_findPaths_156 : decode cX5_findPaths 156 = .ok (.iinc 4 1, 3) := by decide +kernel
theorem dX5_findPaths_159 : decode cX5_findPaths 159 = .ok (.iinc 7 1, 3) := by decide +kernel
theorem dX5_findPaths_162 : decode cX5_findPaths 162 = .ok (.goto (-100), 3) := by decide +kernel
theorem dX5_findPaths_165 : decode cX5_findPaths 165 = .ok (.iinc 5 1, 3) := by decide +kernel
theorem dX5_findPaths_168 : decode cX5_findPaths 168 = .ok (.goto (-132), 3) := by decide +kernel
theorem dX5_findPaths_171 : decode cX5_findPaths 171 = .ok (.return_, 1) := by decide +kernel
theorem dX5_findLengthsByRounds_0 : decode cX5_findLengthsByRounds 0 = .ok (.aload_n 0, 1) := by decide +kernel
theorem dX5_findLengthsByRounds_1 : decode cX5_findLengthsByRounds 1 = .ok (.getfield 15, 3) := by decide +kernel
theorem dX5_findLengthsByRounds_4 : decode cX5_findLengthsByRounds 4 = .ok (.bipush 25, 2) := by decide +kernel
theorem dX5_findLengthsByRounds_6 : decode cX5_findLengthsByRounds 6 = .ok (.invokestatic 32, 3) := by decide +kernel
theorem dX5_findLengthsByRounds_9 : decode cX5_findLengthsByRounds 9 = .ok (.aload_n 0, 1) := by decide +kernel
theorem dX5_findLengthsByRounds_10 : decode cX5_findLengthsByRounds 10 = .ok (.getfield 15, 3) := by decide +kernel
theorem dX5_findLengthsByRounds_13 : decode cX5_findLengthsByRounds 13 = .ok (.aload_n 1, 1) := by decide +kernel
theorem dX5_findLengthsByRounds_14 : decode cX5_findLengthsByRounds 14 = .ok (.getfield 27, 3) := by decide +kernel
theorem dX5_findLengthsByRounds_17 : decode cX5_findLengthsByRounds 17 = .ok (.iload_n 2, 1) := by decide +kernel
theorem dX5_findLengthsByRounds_18 : decode cX5_findLengthsByRounds 18 = .ok (.iaload, 1) := by decide +kernel
theorem dX5_findLengthsByRounds_19 : decode cX5_findLengthsByRounds 19 = .ok (.iconst 0, 1) := by decide +kernel
theorem dX5_findLengthsByRounds_20 : decode cX5_findLengthsByRounds 20 = .ok (.iastore, 1) := by decide +kernel
theorem dX5_findLengthsByRounds_21 : decode cX5_findLengthsByRounds 21 = .ok (.iconst 1, 1) := by decide +kernel
theorem dX5_findLengthsByRounds_22 : decode cX5_findLengthsByRounds 22 = .ok (.istore_n 3, 1) := by decide +kernel
theorem dX5_findLengthsByRounds_23 : decode cX5_findLengthsByRounds 23 = .ok (.iconst 0, 1) := by decide +kernel
theorem dX5_findLengthsByRounds_24 : decode cX5_findLengthsByRounds 24 = .ok (.istore 4, 2) := by decide +kernel
theorem dX5_findLengthsByRounds_26 : decode cX5_findLengthsByRounds 26 = .ok (.iload_n 3, 1) := by decide +kernel
theorem dX5_findLengthsByRounds_27 : decode cX5_findLengthsByRounds 27 = .ok (.ifCond .eq 59, 3) := by decide +kernel
theorem dX5_findLengthsByRounds_30 : decode cX5_findLengthsByRounds 30 = .ok (.iload 4, 2) := by decide +kernel
theorem dX5_findLengthsByRounds_32 : decode cX5_findLengthsByRounds 32 = .ok (.bipush 25, 2) := by decide +kernel
theorem dX5_findLengthsByRounds_34 : decode cX5_findLengthsByRounds 34 = .ok (.if_icmp .ge 52, 3) := by decide +kernel
theorem dX5_findLengthsByRounds_37 : decode cX5_findLengthsByRounds 37 = .ok (.iconst 0, 1) := by decide +kernel
theorem dX5_findLengthsByRounds_38 : decode cX5_findLengthsByRounds 38 = .ok (.istore_n 3, 1) := by decide +kernel
theorem dX5_findLengthsByRounds_39 : decode cX5_findLengthsByRounds 39 = .ok (.iconst 0, 1) := by decide +kernel
theorem dX5_findLengthsByRounds_40 : decode cX5_findLengthsByRounds 40 = .ok (.istore 5, 2) := by decide +kernel
theorem dX5_findLengthsByRounds_42 : decode cX5_findLengthsByRounds 42 = .ok (.iload 5, 2) := by decide +kernel
theorem dX5_findLengthsByRounds_44 : decode cX5_findLengthsByRounds 44 = .ok (.bipush 25, 2) := by decide +kernel
theorem dX5_findLengthsByRounds_46 : decode cX5_findLengthsByRounds 46 = .ok (.if_icmp .ge 34, 3) := by decide +kernel
theorem dX5_findLengthsByRounds_49 : decode cX5_findLengthsByRounds 49 = .ok (.aload_n 0, 1) := by decide +kernel
theorem dX5_findLengthsByRounds_50 : decode cX5_findLengthsByRounds 50 = .ok (.getfield 15, 3) := by decide +kernel
theorem dX5_findLengthsByRounds_53 : decode cX5_findLengthsByRounds 53 = .ok (.iload 5, 2) := by decide +kernel
theorem dX5_findLengthsByRounds_55 : decode cX5_findLengthsByRounds 55 = .ok (.iaload, 1) := by decide +kernel
theorem dX5_findLengthsByRounds_56 : decode cX5_findLengthsByRounds 56 = .ok (.bipush 25, 2) := by decide +kernel
theorem dX5_findLengthsByRounds_58 : decode cX5_findLengthsByRounds 58 = .ok (.if_icmp .ge 16, 3) := by decide +kernel
theorem dX5_findLengthsByRounds_61 : decode cX5_findLengthsByRounds 61 = .ok (.aload_n 0, 1) := by decide +kernel
theorem dX5_findLengthsByRounds_62 : decode cX5_findLengthsByRounds 62 = .ok (.aload_n 1, 1) := by decide +kernel
theorem dX5_findLengthsByRounds_63 : decode cX5_findLengthsByRounds 63 = .ok (.iload_n 2, 1) := by decide +kernel
theorem dX5_findLengthsByRounds_64 : decode cX5_findLengthsByRounds 64 = .ok (.iload 5, 2) := by decide +kernel
theorem dX5_findLengthsByRounds_66 : decode cX5_findLengthsByRounds 66 = .ok (.invokevirtual 46, 3) := by decide +kernel
theorem dX5_findLengthsByRounds_69 : decode cX5_findLengthsByRounds 69 = .ok (.ifCond .eq 5, 3) := by decide +kernel
theorem dX5_findLengthsByRounds_72 : decode cX5_findLengthsByRounds 72 = .ok (.iconst 1, 1) := by decide +kernel
theorem dX5_findLengthsByRounds_73 : decode cX5_findLengthsByRounds 73 = .ok (.istore_n 3, 1) := by decide +kernel
theorem dX5_findLengthsByRounds_74 : decode cX5_findLengthsByRounds 74 = .ok (.iinc 5 1, 3) := by decide +kernel
theorem dX5_findLengthsByRounds_77 : decode cX5_findLengthsByRounds 77 = .ok (.goto (-35), 3) := by decide +kernel
theorem dX5_findLengthsByRounds_80 : decode cX5_findLengthsByRounds 80 = .ok (.iinc 4 1, 3) := by decide +kernel
theorem dX5_findLengthsByRounds_83 : decode cX5_findLengthsByRounds 83 = .ok (.goto (-57), 3) := by decide +kernel
theorem dX5_findLengthsByRounds_86 : decode cX5_findLengthsByRounds 86 = .ok (.return_, 1) := by decide +kernel
theorem dX5_lengthsAgree_0 : decode cX5_lengthsAgree 0 = .ok (.aload_n 0, 1) := by decide +kernel
theorem dX5_lengthsAgree_1 : decode cX5_lengthsAgree 1 = .ok (.aload_n 1, 1) := by decide +kernel
theorem dX5_lengthsAgree_2 : decode cX5_lengthsAgree 2 = .ok (.iload_n 2, 1) := by decide +kernel
theorem dX5_lengthsAgree_3 : decode cX5_lengthsAgree 3 = .ok (.invokevirtual 50, 3) := by decide +kernel
theorem dX5_lengthsAgree_6 : decode cX5_lengthsAgree 6 = .ok (.aload_n 0, 1) := by decide +kernel
theorem dX5_lengthsAgree_7 : decode cX5_lengthsAgree 7 = .ok (.aload_n 1, 1) := by decide +kernel
theorem dX5_lengthsAgree_8 : decode cX5_lengthsAgree 8 = .ok (.iload_n 2, 1) := by decide +kernel
theorem dX5_lengthsAgree_9 : decode cX5_lengthsAgree 9 = .ok (.invokevirtual 54, 3) := by decide +kernel
theorem dX5_lengthsAgree_12 : decode cX5_lengthsAgree 12 = .ok (.iconst 0, 1) := by decide +kernel
theorem dX5_lengthsAgree_13 : decode cX5_lengthsAgree 13 = .ok (.istore_n 3, 1) := by decide +kernel
theorem dX5_lengthsAgree_14 : decode cX5_lengthsAgree 14 = .ok (.iload_n 3, 1) := by decide +kernel
theorem dX5_lengthsAgree_15 : decode cX5_lengthsAgree 15 = .ok (.bipush 25, 2) := by decide +kernel
theorem dX5_lengthsAgree_17 : decode cX5_lengthsAgree 17 = .ok (.if_icmp .ge 26, 3) := by decide +kernel
theorem dX5_lengthsAgree_20 : decode cX5_lengthsAgree 20 = .ok (.aload_n 0, 1) := by decide +kernel
theorem dX5_lengthsAgree_21 : decode cX5_lengthsAgree 21 = .ok (.getfield 9, 3) := by decide +kernel
theorem dX5_lengthsAgree_24 : decode cX5_lengthsAgree 24 = .ok (.iload_n 3, 1) := by decide +kernel
theorem dX5_lengthsAgree_25 : decode cX5_lengthsAgree 25 = .ok (.iaload, 1) := by decide +kernel
theorem dX5_lengthsAgree_26 : decode cX5_lengthsAgree 26 = .ok (.aload_n 0, 1) := by decide +kernel
theorem dX5_lengthsAgree_27 : decode cX5_lengthsAgree 27 = .ok (.getfield 15, 3) := by decide +kernel
theorem dX5_lengthsAgree_30 : decode cX5_lengthsAgree 30 = .ok (.iload_n 3, 1) := by decide +kernel
theorem dX5_lengthsAgree_31 : decode cX5_lengthsAgree 31 = .ok (.iaload, 1) := by decide +kernel
theorem dX5_lengthsAgree_32 : decode cX5_lengthsAgree 32 = .ok (.if_icmp .eq 5, 3) := by decide +kernel
theorem dX5_lengthsAgree_35 : decode cX5_lengthsAgree 35 = .ok (.iconst 0, 1) := by decide +kernel
theorem dX5_lengthsAgree_36 : decode cX5_lengthsAgree 36 = .ok (.ireturn, 1) := by decide +kernel
theorem dX5_lengthsAgree_37 : decode cX5_lengthsAgree 37 = .ok (.iinc 3 1, 3) := by decide +kernel
theorem dX5_lengthsAgree_40 : decode cX5_lengthsAgree 40 = .ok (.goto (-26), 3) := by decide +kernel
theorem dX5_lengthsAgree_43 : decode cX5_lengthsAgree 43 = .ok (.iconst 1, 1) := by decide +kernel
theorem dX5_lengthsAgree_44 : decode cX5_lengthsAgree 44 = .ok (.ireturn, 1) := by decide +kernel
theorem dX5_countReached_0 : decode cX5_countReached 0 = .ok (.iconst 0, 1) := by decide +kernel
theorem dX5_countReached_1 : decode cX5_countReached 1 = .ok (.istore_n 1, 1) := by decide +kernel
theorem dX5_countReached_2 : decode cX5_countReached 2 = .ok (.iconst 0, 1) := by decide +kernel
theorem dX5_countReached_3 : decode cX5_countReached 3 = .ok (.istore_n 2, 1) := by decide +kernel
theorem dX5_countReached_4 : decode cX5_countReached 4 = .ok (.iload_n 2, 1) := by decide +kernel
theorem dX5_countReached_5 : decode cX5_countReached 5 = .ok (.bipush 25, 2) := by decide +kernel
theorem dX5_countReached_7 : decode cX5_countReached 7 = .ok (.if_icmp .ge 23, 3) := by decide +kernel
theorem dX5_countReached_10 : decode cX5_countReached 10 = .ok (.aload_n 0, 1) := by decide +kernel
theorem dX5_countReached_11 : decode cX5_countReached 11 = .ok (.getfield 9, 3) := by decide +kernel
theorem dX5_countReached_14 : decode cX5_countReached 14 = .ok (.iload_n 2, 1) := by decide +kernel
theorem dX5_countReached_15 : decode cX5_countReached 15 = .ok (.iaload, 1) := by decide +kernel
theorem dX5_countReached_16 : decode cX5_countReached 16 = .ok (.bipush 25, 2) := by decide +kernel
theorem dX5_countReached_18 : decode cX5_countReached 18 = .ok (.if_icmp .ge 6, 3) := by decide +kernel
theorem dX5_countReached_21 : decode cX5_countReached 21 = .ok (.iinc 1 1, 3) := by decide +kernel
theorem dX5_countReached_24 : decode cX5_countReached 24 = .ok (.iinc 2 1, 3) := by decide +kernel
theorem dX5_countReached_27 : decode cX5_countReached 27 = .ok (.goto (-23), 3) := by decide +kernel
theorem dX5_countReached_30 : decode cX5_countReached 30 = .ok (.iload_n 1, 1) := by decide +kernel
theorem dX5_countReached_31 : decode cX5_countReached 31 = .ok (.ireturn, 1) := by decide +kernel
theorem dX5_countGroups_0 : decode cX5_countGroups 0 = .ok (.aload_n 0, 1) := by decide +kernel
theorem dX5_countGroups_1 : decode cX5_countGroups 1 = .ok (.getfield 24, 3) := by decide +kernel
theorem dX5_countGroups_4 : decode cX5_countGroups 4 = .ok (.iconst (-1), 1) := by decide +kernel
theorem dX5_countGroups_5 : decode cX5_countGroups 5 = .ok (.invokestatic 32, 3) := by decide +kernel
theorem dX5_countGroups_8 : decode cX5_countGroups 8 = .ok (.iconst 0, 1) := by decide +kernel
theorem dX5_countGroups_9 : decode cX5_countGroups 9 = .ok (.istore_n 2, 1) := by decide +kernel
theorem dX5_countGroups_10 : decode cX5_countGroups 10 = .ok (.iconst 0, 1) := by decide +kernel
theorem dX5_countGroups_11 : decode cX5_countGroups 11 = .ok (.istore_n 3, 1) := by decide +kernel
theorem dX5_countGroups_12 : decode cX5_countGroups 12 = .ok (.iload_n 3, 1) := by decide +kernel
theorem dX5_countGroups_13 : decode cX5_countGroups 13 = .ok (.bipush 25, 2) := by decide +kernel
theorem dX5_countGroups_15 : decode cX5_countGroups 15 = .ok (.if_icmp .ge 29, 3) := by decide +kernel
theorem dX5_countGroups_18 : decode cX5_countGroups 18 = .ok (.aload_n 0, 1) := by decide +kernel
theorem dX5_countGroups_19 : decode cX5_countGroups 19 = .ok (.getfield 24, 3) := by decide +kernel
theorem dX5_countGroups_22 : decode cX5_countGroups 22 = .ok (.iload_n 3, 1) := by decide +kernel
theorem dX5_countGroups_23 : decode cX5_countGroups 23 = .ok (.iaload, 1) := by decide +kernel
theorem dX5_countGroups_24 : decode cX5_countGroups 24 = .ok (.iconst (-1), 1) := by decide +kernel
theorem dX5_countGroups_25 : decode cX5_countGroups 25 = .ok (.if_icmp .ne 13, 3) := by decide +kernel
theorem dX5_countGroups_28 : decode cX5_countGroups 28 = .ok (.aload_n 0, 1) := by decide +kernel
theorem dX5_countGroups_29 : decode cX5_countGroups 29 = .ok (.aload_n 1, 1) := by decide +kernel
theorem dX5_countGroups_30 : decode cX5_countGroups 30 = .ok (.iload_n 3, 1) := by decide +kernel
theorem dX5_countGroups_31 : decode cX5_countGroups 31 = .ok (.iload_n 2, 1) := by decide +kernel
theorem dX5_countGroups_32 : decode cX5_countGroups 32 = .ok (.invokevirtual 57, 3) := by decide +kernel
theorem dX5_countGroups_35 : decode cX5_countGroups 35 = .ok (.iinc 2 1, 3) := by decide +kernel
theorem dX5_countGroups_38 : decode cX5_countGroups 38 = .ok (.iinc 3 1, 3) := by decide +kernel
theorem dX5_countGroups_41 : decode cX5_countGroups 41 = .ok (.goto (-29), 3) := by decide +kernel
theorem dX5_countGroups_44 : decode cX5_countGroups 44 = .ok (.iload_n 2, 1) := by decide +kernel
theorem dX5_countGroups_45 : decode cX5_countGroups 45 = .ok (.ireturn, 1) := by decide +kernel
theorem dX5_countGroupsByMerging_0 : decode cX5_countGroupsByMerging 0 = .ok (.iconst 0, 1) := by decide +kernel
theorem dX5_countGroupsByMerging_1 : decode cX5_countGroupsByMerging 1 = .ok (.istore_n 2, 1) := by decide +kernel
theorem dX5_countGroupsByMerging_2 : decode cX5_countGroupsByMerging 2 = .ok (.iload_n 2, 1) := by decide +kernel
theorem dX5_countGroupsByMerging_3 : decode cX5_countGroupsByMerging 3 = .ok (.bipush 25, 2) := by decide +kernel
theorem dX5_countGroupsByMerging_5 : decode cX5_countGroupsByMerging 5 = .ok (.if_icmp .ge 16, 3) := by decide +kernel
theorem dX5_countGroupsByMerging_8 : decode cX5_countGroupsByMerging 8 = .ok (.aload_n 0, 1) := by decide +kernel
theorem dX5_countGroupsByMerging_9 : decode cX5_countGroupsByMerging 9 = .ok (.getfield 24, 3) := by decide +kernel
theorem dX5_countGroupsByMerging_12 : decode cX5_countGroupsByMerging 12 = .ok (.iload_n 2, 1) := by decide +kernel
theorem dX5_countGroupsByMerging_13 : decode cX5_countGroupsByMerging 13 = .ok (.iload_n 2, 1) := by decide +kernel
theorem dX5_countGroupsByMerging_14 : decode cX5_countGroupsByMerging 14 = .ok (.iastore, 1) := by decide +kernel
theorem dX5_countGroupsByMerging_15 : decode cX5_countGroupsByMerging 15 = .ok (.iinc 2 1, 3) := by decide +kernel
theorem dX5_countGroupsByMerging_18 : decode cX5_countGroupsByMerging 18 = .ok (.goto (-16), 3) := by decide +kernel
theorem dX5_countGroupsByMerging_21 : decode cX5_countGroupsByMerging 21 = .ok (.bipush 25, 2) := by decide +kernel
theorem dX5_countGroupsByMerging_23 : decode cX5_countGroupsByMerging 23 = .ok (.istore_n 2, 1) := by decide +kernel
theorem dX5_countGroupsByMerging_24 : decode cX5_countGroupsByMerging 24 = .ok (.iconst 0, 1) := by decide +kernel
theorem dX5_countGroupsByMerging_25 : decode cX5_countGroupsByMerging 25 = .ok (.istore_n 3, 1) := by decide +kernel
theorem dX5_countGroupsByMerging_26 : decode cX5_countGroupsByMerging 26 = .ok (.iload_n 3, 1) := by decide +kernel
theorem dX5_countGroupsByMerging_27 : decode cX5_countGroupsByMerging 27 = .ok (.bipush 25, 2) := by decide +kernel
theorem dX5_countGroupsByMerging_29 : decode cX5_countGroupsByMerging 29 = .ok (.if_icmp .ge 75, 3) := by decide +kernel
theorem dX5_countGroupsByMerging_32 : decode cX5_countGroupsByMerging 32 = .ok (.iconst 1, 1) := by decide +kernel
theorem dX5_countGroupsByMerging_33 : decode cX5_countGroupsByMerging 33 = .ok (.istore 4, 2) := by decide +kernel
theorem dX5_countGroupsByMerging_35 : decode cX5_countGroupsByMerging 35 = .ok (.iload 4, 2) := by decide +kernel
theorem dX5_countGroupsByMerging_37 : decode cX5_countGroupsByMerging 37 = .ok (.iconst 2, 1) := by decide +kernel
theorem dX5_countGroupsByMerging_38 : decode cX5_countGroupsByMerging 38 = .ok (.if_icmp .gt 60, 3) := by decide +kernel
theorem dX5_countGroupsByMerging_41 : decode cX5_countGroupsByMerging 41 = .ok (.aload_n 1, 1) := by decide +kernel
theorem dX5_countGroupsByMerging_42 : decode cX5_countGroupsByMerging 42 = .ok (.iload_n 3, 1) := by decide +kernel
theorem dX5_countGroupsByMerging_43 : decode cX5_countGroupsByMerging 43 = .ok (.iload 4, 2) := by decide +kernel
theorem dX5_countGroupsByMerging_45 : decode cX5_countGroupsByMerging 45 = .ok (.invokevirtual 38, 3) := by decide +kernel
theorem dX5_countGroupsByMerging_48 : decode cX5_countGroupsByMerging 48 = .ok (.istore 5, 2) := by decide +kernel
theorem dX5_countGroupsByMerging_50 : decode cX5_countGroupsByMerging 50 = .ok (.iload 5, 2) := by decide +kernel
theorem dX5_countGroupsByMerging_52 : decode cX5_countGroupsByMerging 52 = .ok (.iconst (-1), 1) := by decide +kernel
theorem dX5_countGroupsByMerging_53 : decode cX5_countGroupsByMerging 53 = .ok (.if_icmp .eq 39, 3) := by decide +kernel
theorem dX5_countGroupsByMerging_56 : decode cX5_countGroupsByMerging 56 = .ok (.aload_n 0, 1) := by decide +kernel
theorem dX5_countGroupsByMerging_57 : decode cX5_countGroupsByMerging 57 = .ok (.getfield 24, 3) := by decide +kernel
theorem dX5_countGroupsByMerging_60 : decode cX5_countGroupsByMerging 60 = .ok (.iload 5, 2) := by decide +kernel
theorem dX5_countGroupsByMerging_62 : decode cX5_countGroupsByMerging 62 = .ok (.iaload, 1) := by decide +kernel
theorem dX5_countGroupsByMerging_63 : decode cX5_countGroupsByMerging 63 = .ok (.aload_n 0, 1) := by decide +kernel
theorem dX5_countGroupsByMerging_64 : decode cX5_countGroupsByMerging 64 = .ok (.getfield 24, 3) := by decide +kernel
theorem dX5_countGroupsByMerging_67 : decode cX5_countGroupsByMerging 67 = .ok (.iload_n 3, 1) := by decide +kernel
theorem dX5_countGroupsByMerging_68 : decode cX5_countGroupsByMerging 68 = .ok (.iaload, 1) := by decide +kernel
theorem dX5_countGroupsByMerging_69 : decode cX5_countGroupsByMerging 69 = .ok (.if_icmp .eq 23, 3) := by decide +kernel
theorem dX5_countGroupsByMerging_72 : decode cX5_countGroupsByMerging 72 = .ok (.aload_n 0, 1) := by decide +kernel
theorem dX5_countGroupsByMerging_73 : decode cX5_countGroupsByMerging 73 = .ok (.aload_n 0, 1) := by decide +kernel
theorem dX5_countGroupsByMerging_74 : decode cX5_countGroupsByMerging 74 = .ok (.getfield 24, 3) := by decide +kernel
theorem dX5_countGroupsByMerging_77 : decode cX5_countGroupsByMerging 77 = .ok (.iload 5, 2) := by decide +kernel
theorem dX5_countGroupsByMerging_79 : decode cX5_countGroupsByMerging 79 = .ok (.iaload, 1) := by decide +kernel
theorem dX5_countGroupsByMerging_80 : decode cX5_countGroupsByMerging 80 = .ok (.aload_n 0, 1) := by decide +kernel
theorem dX5_countGroupsByMerging_81 : decode cX5_countGroupsByMerging 81 = .ok (.getfield 24, 3) := by decide +kernel
theorem dX5_countGroupsByMerging_84 : decode cX5_countGroupsByMerging 84 = .ok (.iload_n 3, 1) := by decide +kernel
theorem dX5_countGroupsByMerging_85 : decode cX5_countGroupsByMerging 85 = .ok (.iaload, 1) := by decide +kernel
theorem dX5_countGroupsByMerging_86 : decode cX5_countGroupsByMerging 86 = .ok (.invokevirtual 61, 3) := by decide +kernel
theorem dX5_countGroupsByMerging_89 : decode cX5_countGroupsByMerging 89 = .ok (.iinc 2 (-1), 3) := by decide +kernel
theorem dX5_countGroupsByMerging_92 : decode cX5_countGroupsByMerging 92 = .ok (.iinc 4 1, 3) := by decide +kernel
theorem dX5_countGroupsByMerging_95 : decode cX5_countGroupsByMerging 95 = .ok (.goto (-60), 3) := by decide +kernel
theorem dX5_countGroupsByMerging_98 : decode cX5_countGroupsByMerging 98 = .ok (.iinc 3 1, 3) := by decide +kernel
theorem dX5_countGroupsByMerging_101 : decode cX5_countGroupsByMerging 101 = .ok (.goto (-75), 3) := by decide +kernel
theorem dX5_countGroupsByMerging_104 : decode cX5_countGroupsByMerging 104 = .ok (.iload_n 2, 1) := by decide +kernel
theorem dX5_countGroupsByMerging_105 : decode cX5_countGroupsByMerging 105 = .ok (.ireturn, 1) := by decide +kernel
theorem dX5_lowerNeighbours_0 : decode cX5_lowerNeighbours 0 = .ok (.iconst 0, 1) := by decide +kernel
theorem dX5_lowerNeighbours_1 : decode cX5_lowerNeighbours 1 = .ok (.istore 4, 2) := by decide +kernel
theorem dX5_lowerNeighbours_3 : decode cX5_lowerNeighbours 3 = .ok (.aload_n 0, 1) := by decide +kernel
theorem dX5_lowerNeighbours_4 : decode cX5_lowerNeighbours 4 = .ok (.getfield 15, 3) := by decide +kernel
theorem dX5_lowerNeighbours_7 : decode cX5_lowerNeighbours 7 = .ok (.iload_n 3, 1) := by decide +kernel
theorem dX5_lowerNeighbours_8 : decode cX5_lowerNeighbours 8 = .ok (.iaload, 1) := by decide +kernel
theorem dX5_lowerNeighbours_9 : decode cX5_lowerNeighbours 9 = .ok (.iconst 1, 1) := by decide +kernel
theorem dX5_lowerNeighbours_10 : decode cX5_lowerNeighbours 10 = .ok (.iadd, 1) := by decide +kernel
theorem dX5_lowerNeighbours_11 : decode cX5_lowerNeighbours 11 = .ok (.istore 5, 2) := by decide +kernel
theorem dX5_lowerNeighbours_13 : decode cX5_lowerNeighbours 13 = .ok (.iconst 0, 1) := by decide +kernel
theorem dX5_lowerNeighbours_14 : decode cX5_lowerNeighbours 14 = .ok (.istore 6, 2) := by decide +kernel
theorem dX5_lowerNeighbours_16 : decode cX5_lowerNeighbours 16 = .ok (.iload 6, 2) := by decide +kernel
theorem dX5_lowerNeighbours_18 : decode cX5_lowerNeighbours 18 = .ok (.iconst 4, 1) := by decide +kernel
theorem dX5_lowerNeighbours_19 : decode cX5_lowerNeighbours 19 = .ok (.if_icmp .ge 58, 3) := by decide +kernel
theorem dX5_lowerNeighbours_22 : decode cX5_lowerNeighbours 22 = .ok (.aload_n 1, 1) := by decide +kernel
theorem dX5_lowerNeighbours_23 : decode cX5_lowerNeighbours 23 = .ok (.iload_n 3, 1) := by decide +kernel
theorem dX5_lowerNeighbours_24 : decode cX5_lowerNeighbours 24 = .ok (.iload 6, 2) := by decide +kernel
theorem dX5_lowerNeighbours_26 : decode cX5_lowerNeighbours 26 = .ok (.invokevirtual 38, 3) := by decide +kernel
theorem dX5_lowerNeighbours_29 : decode cX5_lowerNeighbours 29 = .ok (.istore 7, 2) := by decide +kernel
theorem dX5_lowerNeighbours_31 : decode cX5_lowerNeighbours 31 = .ok (.iload 7, 2) := by decide +kernel
theorem dX5_lowerNeighbours_33 : decode cX5_lowerNeighbours 33 = .ok (.iconst (-1), 1) := by decide +kernel
theorem dX5_lowerNeighbours_34 : decode cX5_lowerNeighbours 34 = .ok (.if_icmp .eq 37, 3) := by decide +kernel
theorem dX5_lowerNeighbours_37 : decode cX5_lowerNeighbours 37 = .ok (.iload 5, 2) := by decide +kernel
theorem dX5_lowerNeighbours_39 : decode cX5_lowerNeighbours 39 = .ok (.aload_n 0, 1) := by decide +kernel
theorem dX5_lowerNeighbours_40 : decode cX5_lowerNeighbours 40 = .ok (.getfield 15, 3) := by decide +kernel
theorem dX5_lowerNeighbours_43 : decode cX5_lowerNeighbours 43 = .ok (.iload 7, 2) := by decide +kernel
theorem dX5_lowerNeighbours_45 : decode cX5_lowerNeighbours 45 = .ok (.iaload, 1) := by decide +kernel
theorem dX5_lowerNeighbours_46 : decode cX5_lowerNeighbours 46 = .ok (.if_icmp .ge 25, 3) := by decide +kernel
theorem dX5_lowerNeighbours_49 : decode cX5_lowerNeighbours 49 = .ok (.aload_n 1, 1) := by decide +kernel
theorem dX5_lowerNeighbours_50 : decode cX5_lowerNeighbours 50 = .ok (.iload_n 2, 1) := by decide +kernel
theorem dX5_lowerNeighbours_51 : decode cX5_lowerNeighbours 51 = .ok (.iload 7, 2) := by decide +kernel
theorem dX5_lowerNeighbours_53 : decode cX5_lowerNeighbours 53 = .ok (.invokevirtual 42, 3) := by decide +kernel
theorem dX5_lowerNeighbours_56 : decode cX5_lowerNeighbours 56 = .ok (.ifCond .eq 15, 3) := by decide +kernel
theorem dX5_lowerNeighbours_59 : decode cX5_lowerNeighbours 59 = .ok (.aload_n 0, 1) := by decide +kernel
theorem dX5_lowerNeighbours_60 : decode cX5_lowerNeighbours 60 = .ok (.getfield 15, 3) := by decide +kernel
theorem dX5_lowerNeighbours_63 : decode cX5_lowerNeighbours 63 = .ok (.iload 7, 2) := by decide +kernel
theorem dX5_lowerNeighbours_65 : decode cX5_lowerNeighbours 65 = .ok (.iload 5, 2) := by decide +kernel
theorem dX5_lowerNeighbours_67 : decode cX5_lowerNeighbours 67 = .ok (.iastore, 1) := by decide +kernel
theorem dX5_lowerNeighbours_68 : decode cX5_lowerNeighbours 68 = .ok (.iconst 1, 1) := by decide +kernel
theorem dX5_lowerNeighbours_69 : decode cX5_lowerNeighbours 69 = .ok (.istore 4, 2) := by decide +kernel
theorem dX5_lowerNeighbours_71 : decode cX5_lowerNeighbours 71 = .ok (.iinc 6 1, 3) := by decide +kernel
theorem dX5_lowerNeighbours_74 : decode cX5_lowerNeighbours 74 = .ok (.goto (-58), 3) := by decide +kernel
theorem dX5_lowerNeighbours_77 : decode cX5_lowerNeighbours 77 = .ok (.iload 4, 2) := by decide +kernel
theorem dX5_lowerNeighbours_79 : decode cX5_lowerNeighbours 79 = .ok (.ireturn, 1) := by decide +kernel
theorem dX5_markGroup_0 : decode cX5_markGroup 0 = .ok (.aload_n 0, 1) := by decide +kernel
theorem dX5_markGroup_1 : decode cX5_markGroup 1 = .ok (.getfield 24, 3) := by decide +kernel
theorem dX5_markGroup_4 : decode cX5_markGroup 4 = .ok (.iload_n 2, 1) := by decide +kernel
theorem dX5_markGroup_5 : decode cX5_markGroup 5 = .ok (.iload_n 3, 1) := by decide +kernel
theorem dX5_markGroup_6 : decode cX5_markGroup 6 = .ok (.iastore, 1) := by decide +kernel
theorem dX5_markGroup_7 : decode cX5_markGroup 7 = .ok (.aload_n 0, 1) := by decide +kernel
theorem dX5_markGroup_8 : decode cX5_markGroup 8 = .ok (.getfield 21, 3) := by decide +kernel
theorem dX5_markGroup_11 : decode cX5_markGroup 11 = .ok (.iconst 0, 1) := by decide +kernel
theorem dX5_markGroup_12 : decode cX5_markGroup 12 = .ok (.iload_n 2, 1) := by decide +kernel
theorem dX5_markGroup_13 : decode cX5_markGroup 13 = .ok (.iastore, 1) := by decide +kernel
theorem dX5_markGroup_14 : decode cX5_markGroup 14 = .ok (.iconst 1, 1) := by decide +kernel
theorem dX5_markGroup_15 : decode cX5_markGroup 15 = .ok (.istore 4, 2) := by decide +kernel
theorem dX5_markGroup_17 : decode cX5_markGroup 17 = .ok (.iconst 0, 1) := by decide +kernel
theorem dX5_markGroup_18 : decode cX5_markGroup 18 = .ok (.istore 5, 2) := by decide +kernel
theorem dX5_markGroup_20 : decode cX5_markGroup 20 = .ok (.iload 5, 2) := by decide +kernel
theorem dX5_markGroup_22 : decode cX5_markGroup 22 = .ok (.iload 4, 2) := by decide +kernel
theorem dX5_markGroup_24 : decode cX5_markGroup 24 = .ok (.if_icmp .ge 83, 3) := by decide +kernel
theorem dX5_markGroup_27 : decode cX5_markGroup 27 = .ok (.iload 5, 2) := by decide +kernel
theorem dX5_markGroup_29 : decode cX5_markGroup 29 = .ok (.bipush 25, 2) := by decide +kernel
theorem dX5_markGroup_31 : decode cX5_markGroup 31 = .ok (.if_icmp .ge 76, 3) := by decide +kernel
theorem dX5_markGroup_34 : decode cX5_markGroup 34 = .ok (.iconst 0, 1) := by decide +kernel
theorem dX5_markGroup_35 : decode cX5_markGroup 35 = .ok (.istore 6, 2) := by decide +kernel
theorem dX5_markGroup_37 : decode cX5_markGroup 37 = .ok (.iload 6, 2) := by decide +kernel
theorem dX5_markGroup_39 : decode cX5_markGroup 39 = .ok (.iconst 4, 1) := by decide +kernel
theorem dX5_markGroup_40 : decode cX5_markGroup 40 = .ok (.if_icmp .ge 61, 3) := by decide +kernel
theorem dX5_markGroup_43 : decode cX5_markGroup 43 = .ok (.aload_n 1, 1) := by decide +kernel
theorem dX5_markGroup_44 : decode cX5_markGroup 44 = .ok (.aload_n 0, 1) := by decide +kernel
theorem dX5_markGroup_45 : decode cX5_markGroup 45 = .ok (.getfield 21, 3) := by decide +kernel
theorem dX5_markGroup_48 : decode cX5_markGroup 48 = .ok (.iload 5, 2) := by decide +kernel
theorem dX5_markGroup_50 : decode cX5_markGroup 50 = .ok (.iaload, 1) := by decide +kernel
theorem dX5_markGroup_51 : decode cX5_markGroup 51 = .ok (.iload 6, 2) := by decide +kernel
theorem dX5_markGroup_53 : decode cX5_markGroup 53 = .ok (.invokevirtual 38, 3) := by decide +kernel
theorem dX5_markGroup_56 : decode cX5_markGroup 56 = .ok (.istore 7, 2) := by decide +kernel
theorem dX5_markGroup_58 : decode cX5_markGroup 58 = .ok (.iload 7, 2) := by decide +kernel
theorem dX5_markGroup_60 : decode cX5_markGroup 60 = .ok (.iconst (-1), 1) := by decide +kernel
theorem dX5_markGroup_61 : decode cX5_markGroup 61 = .ok (.if_icmp .eq 34, 3) := by decide +kernel
theorem dX5_markGroup_64 : decode cX5_markGroup 64 = .ok (.aload_n 0, 1) := by decide +kernel
theorem dX5_markGroup_65 : decode cX5_markGroup 65 = .ok (.getfield 24, 3) := by decide +kernel
theorem dX5_markGroup_68 : decode cX5_markGroup 68 = .ok (.iload 7, 2) := by decide +kernel
theorem dX5_markGroup_70 : decode cX5_markGroup 70 = .ok (.iaload, 1) := by decide +kernel
theorem dX5_markGroup_71 : decode cX5_markGroup 71 = .ok (.iconst (-1), 1) := by decide +kernel
theorem dX5_markGroup_72 : decode cX5_markGroup 72 = .ok (.if_icmp .ne 23, 3) := by decide +kernel
theorem dX5_markGroup_75 : decode cX5_markGroup 75 = .ok (.aload_n 0, 1) := by decide +kernel
theorem dX5_markGroup_76 : decode cX5_markGroup 76 = .ok (.getfield 24, 3) := by decide +kernel
theorem dX5_markGroup_79 : decode cX5_markGroup 79 = .ok (.iload 7, 2) := by decide +kernel
theorem dX5_markGroup_81 : decode cX5_markGroup 81 = .ok (.iload_n 3, 1) := by decide +kernel
theorem dX5_markGroup_82 : decode cX5_markGroup 82 = .ok (.iastore, 1) := by decide +kernel
theorem dX5_markGroup_83 : decode cX5_markGroup 83 = .ok (.aload_n 0, 1) := by decide +kernel
theorem dX5_markGroup_84 : decode cX5_markGroup 84 = .ok (.getfield 21, 3) := by decide +kernel
theorem dX5_markGroup_87 : decode cX5_markGroup 87 = .ok (.iload 4, 2) := by decide +kernel
theorem dX5_markGroup_89 : decode cX5_markGroup 89 = .ok (.iload 7, 2) := by decide +kernel
theorem dX5_markGroup_91 : decode cX5_markGroup 91 = .ok (.iastore, 1) := by decide +kernel
theorem dX5_markGroup_92 : decode cX5_markGroup 92 = .ok (.iinc 4 1, 3) := by decide +kernel
theorem dX5_markGroup_95 : decode cX5_markGroup 95 = .ok (.iinc 6 1, 3) := by decide +kernel
theorem dX5_markGroup_98 : decode cX5_markGroup 98 = .ok (.goto (-61), 3) := by decide +kernel
theorem dX5_markGroup_101 : decode cX5_markGroup 101 = .ok (.iinc 5 1, 3) := by decide +kernel
theorem dX5_markGroup_104 : decode cX5_markGroup 104 = .ok (.goto (-84), 3) := by decide +kernel
theorem dX5_markGroup_107 : decode cX5_markGroup 107 = .ok (.return_, 1) := by decide +kernel
theorem dX5_mergeGroups_0 : decode cX5_mergeGroups 0 = .ok (.iconst 0, 1) := by decide +kernel
theorem dX5_mergeGroups_1 : decode cX5_mergeGroups 1 = .ok (.istore_n 3, 1) := by decide +kernel
theorem dX5_mergeGroups_2 : decode cX5_mergeGroups 2 = .ok (.iload_n 3, 1) := by decide +kernel
theorem dX5_mergeGroups_3 : decode cX5_mergeGroups 3 = .ok (.bipush 25, 2) := by decide +kernel
theorem dX5_mergeGroups_5 : decode cX5_mergeGroups 5 = .ok (.if_icmp .ge 26, 3) := by decide +kernel
theorem dX5_mergeGroups_8 : decode cX5_mergeGroups 8 = .ok (.aload_n 0, 1) := by decide +kernel
theorem dX5_mergeGroups_9 : decode cX5_mergeGroups 9 = .ok (.getfield 24, 3) := by decide +kernel
theorem dX5_mergeGroups_12 : decode cX5_mergeGroups 12 = .ok (.iload_n 3, 1) := by decide +kernel
theorem dX5_mergeGroups_13 : decode cX5_mergeGroups 13 = .ok (.iaload, 1) := by decide +kernel
theorem dX5_mergeGroups_14 : decode cX5_mergeGroups 14 = .ok (.iload_n 1, 1) := by decide +kernel
theorem dX5_mergeGroups_15 : decode cX5_mergeGroups 15 = .ok (.if_icmp .ne 10, 3) := by decide +kernel
theorem dX5_mergeGroups_18 : decode cX5_mergeGroups 18 = .ok (.aload_n 0, 1) := by decide +kernel
theorem dX5_mergeGroups_19 : decode cX5_mergeGroups 19 = .ok (.getfield 24, 3) := by decide +kernel
theorem dX5_mergeGroups_22 : decode cX5_mergeGroups 22 = .ok (.iload_n 3, 1) := by decide +kernel
theorem dX5_mergeGroups_23 : decode cX5_mergeGroups 23 = .ok (.iload_n 2, 1) := by decide +kernel
theorem dX5_mergeGroups_24 : decode cX5_mergeGroups 24 = .ok (.iastore, 1) := by decide +kernel
theorem dX5_mergeGroups_25 : decode cX5_mergeGroups 25 = .ok (.iinc 3 1, 3) := by decide +kernel
theorem dX5_mergeGroups_28 : decode cX5_mergeGroups 28 = .ok (.goto (-26), 3) := by decide +kernel
theorem dX5_mergeGroups_31 : decode cX5_mergeGroups 31 = .ok (.return_, 1) := by decide +kernel
theorem dX6_init_0 : decode cX6_init 0 = .ok (.aload_n 0, 1) := by decide +kernel
theorem dX6_init_1 : decode cX6_init 1 = .ok (.invokespecial 3, 3) := by decide +kernel
theorem dX6_init_4 : decode cX6_init 4 = .ok (.aload_n 0, 1) := by decide +kernel
theorem dX6_init_5 : decode cX6_init 5 = .ok (.new 9, 3) := by decide +kernel
theorem dX6_init_8 : decode cX6_init 8 = .ok (.dup, 1) := by decide +kernel
theorem dX6_init_9 : decode cX6_init 9 = .ok (.invokespecial 11, 3) := by decide +kernel
theorem dX6_init_12 : decode cX6_init 12 = .ok (.putfield 12, 3) := by decide +kernel
theorem dX6_init_15 : decode cX6_init 15 = .ok (.aload_n 0, 1) := by decide +kernel
theorem dX6_init_16 : decode cX6_init 16 = .ok (.new 9, 3) := by decide +kernel
theorem dX6_init_19 : decode cX6_init 19 = .ok (.dup, 1) := by decide +kernel
theorem dX6_init_20 : decode cX6_init 20 = .ok (.invokespecial 11, 3) := by decide +kernel
theorem dX6_init_23 : decode cX6_init 23 = .ok (.putfield 16, 3) := by decide +kernel
theorem dX6_init_26 : decode cX6_init 26 = .ok (.aload_n 0, 1) := by decide +kernel
theorem dX6_init_27 : decode cX6_init 27 = .ok (.new 9, 3) := by decide +kernel
theorem dX6_init_30 : decode cX6_init 30 = .ok (.dup, 1) := by decide +kernel
theorem dX6_init_31 : decode cX6_init 31 = .ok (.invokespecial 11, 3) := by decide +kernel
theorem dX6_init_34 : decode cX6_init 34 = .ok (.putfield 19, 3) := by decide +kernel
theorem dX6_init_37 : decode cX6_init 37 = .ok (.aload_n 0, 1) := by decide +kernel
theorem dX6_init_38 : decode cX6_init 38 = .ok (.new 9, 3) := by decide +kernel
theorem dX6_init_41 : decode cX6_init 41 = .ok (.dup, 1) := by decide +kernel
theorem dX6_init_42 : decode cX6_init 42 = .ok (.invokespecial 11, 3) := by decide +kernel
theorem dX6_init_45 : decode cX6_init 45 = .ok (.putfield 22, 3) := by decide +kernel
theorem dX6_init_48 : decode cX6_init 48 = .ok (.aload_n 0, 1) := by decide +kernel
theorem dX6_init_49 : decode cX6_init 49 = .ok (.iconst 0, 1) := by decide +kernel
theorem dX6_init_50 : decode cX6_init 50 = .ok (.putfield 25, 3) := by decide +kernel
theorem dX6_init_53 : decode cX6_init 53 = .ok (.aload_n 0, 1) := by decide +kernel
theorem dX6_init_54 : decode cX6_init 54 = .ok (.new 29, 3) := by decide +kernel
theorem dX6_init_57 : decode cX6_init 57 = .ok (.dup, 1) := by decide +kernel
theorem dX6_init_58 : decode cX6_init 58 = .ok (.invokespecial 31, 3) := by decide +kernel
theorem dX6_init_61 : decode cX6_init 61 = .ok (.putfield 32, 3) := by decide +kernel
theorem dX6_init_64 : decode cX6_init 64 = .ok (.aload_n 0, 1) := by decide +kernel
theorem dX6_init_65 : decode cX6_init 65 = .ok (.new 36, 3) := by decide +kernel
theorem dX6_init_68 : decode cX6_init 68 = .ok (.dup, 1) := by decide +kernel
theorem dX6_init_69 : decode cX6_init 69 = .ok (.invokespecial 38, 3) := by decide +kernel
theorem dX6_init_72 : decode cX6_init 72 = .ok (.putfield 39, 3) := by decide +kernel
theorem dX6_init_75 : decode cX6_init 75 = .ok (.aload_n 0, 1) := by decide +kernel
theorem dX6_init_76 : decode cX6_init 76 = .ok (.new 43, 3) := by decide +kernel
theorem dX6_init_79 : decode cX6_init 79 = .ok (.dup, 1) := by decide +kernel
theorem dX6_init_80 : decode cX6_init 80 = .ok (.invokespecial 45, 3) := by decide +kernel
theorem dX6_init_83 : decode cX6_init 83 = .ok (.putfield 46, 3) := by decide +kernel
theorem dX6_init_86 : decode cX6_init 86 = .ok (.aload_n 0, 1) := by decide +kernel
theorem dX6_init_87 : decode cX6_init 87 = .ok (.iconst (-1), 1) := by decide +kernel
theorem dX6_init_88 : decode cX6_init 88 = .ok (.putfield 50, 3) := by decide +kernel
theorem dX6_init_91 : decode cX6_init 91 = .ok (.aload_n 0, 1) := by decide +kernel
theorem dX6_init_92 : decode cX6_init 92 = .ok (.iconst (-1), 1) := by decide +kernel
theorem dX6_init_93 : decode cX6_init 93 = .ok (.putfield 54, 3) := by decide +kernel
theorem dX6_init_96 : decode cX6_init 96 = .ok (.aload_n 0, 1) := by decide +kernel
theorem dX6_init_97 : decode cX6_init 97 = .ok (.bipush 35, 2) := by decide +kernel
theorem dX6_init_99 : decode cX6_init 99 = .ok (.newarray .char, 2) := by decide +kernel
theorem dX6_init_101 : decode cX6_init 101 = .ok (.putfield 57, 3) := by decide +kernel
theorem dX6_init_104 : decode cX6_init 104 = .ok (.aload_n 0, 1) := by decide +kernel
theorem dX6_init_105 : decode cX6_init 105 = .ok (.iconst 0, 1) := by decide +kernel
theorem dX6_init_106 : decode cX6_init 106 = .ok (.putfield 61, 3) := by decide +kernel
theorem dX6_init_109 : decode cX6_init 109 = .ok (.return_, 1) := by decide +kernel
theorem dX6_setTile_0 : decode cX6_setTile 0 = .ok (.aload_n 0, 1) := by decide +kernel
theorem dX6_setTile_1 : decode cX6_setTile 1 = .ok (.getfield 16, 3) := by decide +kernel
theorem dX6_setTile_4 : decode cX6_setTile 4 = .ok (.aload_n 0, 1) := by decide +kernel
theorem dX6_setTile_5 : decode cX6_setTile 5 = .ok (.getfield 12, 3) := by decide +kernel
theorem dX6_setTile_8 : decode cX6_setTile 8 = .ok (.invokevirtual 64, 3) := by decide +kernel
theorem dX6_setTile_11 : decode cX6_setTile 11 = .ok (.aload_n 0, 1) := by decide +kernel
theorem dX6_setTile_12 : decode cX6_setTile 12 = .ok (.aload_n 0, 1) := by decide +kernel
theorem dX6_setTile_13 : decode cX6_setTile 13 = .ok (.getfield 12, 3) := by decide +kernel
theorem dX6_setTile_16 : decode cX6_setTile 16 = .ok (.iload_n 1, 1) := by decide +kernel
theorem dX6_setTile_17 : decode cX6_setTile 17 = .ok (.iload_n 2, 1) := by decide +kernel
theorem dX6_setTile_18 : decode cX6_setTile 18 = .ok (.iload_n 3, 1) := by decide +kernel
theorem dX6_setTile_19 : decode cX6_setTile 19 = .ok (.invokevirtual 68, 3) := by decide +kernel
theorem dX6_setTile_22 : decode cX6_setTile 22 = .ok (.invokevirtual 72, 3) := by decide +kernel
theorem dX6_setTile_25 : decode cX6_setTile 25 = .ok (.ireturn, 1) := by decide +kernel
theorem dX6_turnTile_0 : decode cX6_turnTile 0 = .ok (.aload_n 0, 1) := by decide +kernel
theorem dX6_turnTile_1 : decode cX6_turnTile 1 = .ok (.getfield 16, 3) := by decide +kernel
theorem dX6_turnTile_4 : decode cX6_turnTile 4 = .ok (.aload_n 0, 1) := by decide +kernel
theorem dX6_turnTile_5 : decode cX6_turnTile 5 = .ok (.getfield 12, 3) := by decide +kernel
theorem dX6_turnTile_8 : decode cX6_turnTile 8 = .ok (.invokevirtual 64, 3) := by decide +kernel
theorem dX6_turnTile_11 : decode cX6_turnTile 11 = .ok (.aload_n 0, 1) := by decide +kernel
theorem dX6_turnTile_12 : decode cX6_turnTile 12 = .ok (.aload_n 0, 1) := by decide +kernel
theorem dX6_turnTile_13 : decode cX6_turnTile 13 = .ok (.getfield 12, 3) := by decide +kernel
theorem dX6_turnTile_16 : decode cX6_turnTile 16 = .ok (.iload_n 1, 1) := by decide +kernel
theorem dX6_turnTile_17 : decode cX6_turnTile 17 = .ok (.iload_n 2, 1) := by decide +kernel
theorem dX6_turnTile_18 : decode cX6_turnTile 18 = .ok (.iload_n 3, 1) := by decide +kernel
theorem dX6_turnTile_19 : decode cX6_turnTile 19 = .ok (.invokevirtual 76, 3) := by decide +kernel
theorem dX6_turnTile_22 : decode cX6_turnTile 22 = .ok (.invokevirtual 72, 3) := by decide +kernel
theorem dX6_turnTile_25 : decode cX6_turnTile 25 = .ok (.ireturn, 1) := by decide +kernel
theorem dX6_pin_0 : decode cX6_pin 0 = .ok (.aload_n 0, 1) := by decide +kernel
theorem dX6_pin_1 : decode cX6_pin 1 = .ok (.getfield 16, 3) := by decide +kernel
theorem dX6_pin_4 : decode cX6_pin 4 = .ok (.aload_n 0, 1) := by decide +kernel
theorem dX6_pin_5 : decode cX6_pin 5 = .ok (.getfield 12, 3) := by decide +kernel
theorem dX6_pin_8 : decode cX6_pin 8 = .ok (.invokevirtual 64, 3) := by decide +kernel
theorem dX6_pin_11 : decode cX6_pin 11 = .ok (.aload_n 0, 1) := by decide +kernel
theorem dX6_pin_12 : decode cX6_pin 12 = .ok (.aload_n 0, 1) := by decide +kernel
theorem dX6_pin_13 : decode cX6_pin 13 = .ok (.getfield 12, 3) := by decide +kernel
theorem dX6_pin_16 : decode cX6_pin 16 = .ok (.iload_n 1, 1) := by decide +kernel
theorem dX6_pin_17 : decode cX6_pin 17 = .ok (.iload_n 2, 1) := by decide +kernel
theorem dX6_pin_18 : decode cX6_pin 18 = .ok (.invokevirtual 79, 3) := by decide +kernel
theorem dX6_pin_21 : decode cX6_pin 21 = .ok (.invokevirtual 72, 3) := by decide +kernel
theorem dX6_pin_24 : decode cX6_pin 24 = .ok (.ireturn, 1) := by decide +kernel
theorem dX6_unpin_0 : decode cX6_unpin 0 = .ok (.aload_n 0, 1) := by decide +kernel
theorem dX6_unpin_1 : decode cX6_unpin 1 = .ok (.getfield 16, 3) := by decide +kernel
theorem dX6_unpin_4 : decode cX6_unpin 4 = .ok (.aload_n 0, 1) := by decide +kernel
theorem dX6_unpin_5 : decode cX6_unpin 5 = .ok (.getfield 12, 3) := by decide +kernel
theorem dX6_unpin_8 : decode cX6_unpin 8 = .ok (.invokevirtual 64, 3) := by decide +kernel
theorem dX6_unpin_11 : decode cX6_unpin 11 = .ok (.aload_n 0, 1) := by decide +kernel
theorem dX6_unpin_12 : decode cX6_unpin 12 = .ok (.aload_n 0, 1) := by decide +kernel
theorem dX6_unpin_13 : decode cX6_unpin 13 = .ok (.getfield 12, 3) := by decide +kernel
theorem dX6_unpin_16 : decode cX6_unpin 16 = .ok (.iload_n 1, 1) := by decide +kernel
theorem dX6_unpin_17 : decode cX6_unpin 17 = .ok (.iload_n 2, 1) := by decide +kernel
theorem dX6_unpin_18 : decode cX6_unpin 18 = .ok (.invokevirtual 83, 3) := by decide +kernel
theorem dX6_unpin_21 : decode cX6_unpin 21 = .ok (.invokevirtual 72, 3) := by decide +kernel
theorem dX6_unpin_24 : decode cX6_unpin 24 = .ok (.ireturn, 1) := by decide +kernel
theorem dX6_shiftRow_0 : decode cX6_shiftRow 0 = .ok (.aload_n 0, 1) := by decide +kernel
theorem dX6_shiftRow_1 : decode cX6_shiftRow 1 = .ok (.getfield 16, 3) := by decide +kernel
theorem dX6_shiftRow_4 : decode cX6_shiftRow 4 = .ok (.aload_n 0, 1) := by decide +kernel
theorem dX6_shiftRow_5 : decode cX6_shiftRow 5 = .ok (.getfield 12, 3) := by decide +kernel
theorem dX6_shiftRow_8 : decode cX6_shiftRow 8 = .ok (.invokevirtual 64, 3) := by decide +kernel
theorem dX6_shiftRow_11 : decode cX6_shiftRow 11 = .ok (.aload_n 0, 1) := by decide +kernel
theorem dX6_shiftRow_12 : decode cX6_shiftRow 12 = .ok (.aload_n 0, 1) := by decide +kernel
theorem dX6_shiftRow_13 : decode cX6_shiftRow 13 = .ok (.getfield 12, 3) := by decide +kernel
theorem dX6_shiftRow_16 : decode cX6_shiftRow 16 = .ok (.iload_n 1, 1) := by decide +kernel
theorem dX6_shiftRow_17 : decode cX6_shiftRow 17 = .ok (.iload_n 2, 1) := by decide +kernel
theorem dX6_shiftRow_18 : decode cX6_shiftRow 18 = .ok (.invokevirtual 86, 3) := by decide +kernel
theorem dX6_shiftRow_21 : decode cX6_shiftRow 21 = .ok (.invokevirtual 72, 3) := by decide +kernel
theorem dX6_shiftRow_24 : decode cX6_shiftRow 24 = .ok (.ireturn, 1) := by decide +kernel
theorem dX6_shiftColumn_0 : decode cX6_shiftColumn 0 = .ok (.aload_n 0, 1) := by decide +kernel
theorem dX6_shiftColumn_1 : decode cX6_shiftColumn 1 = .ok (.getfield 16, 3) := by decide +kernel
theorem dX6_shiftColumn_4 : decode cX6_shiftColumn 4 = .ok (.aload_n 0, 1) := by decide +kernel
theorem dX6_shiftColumn_5 : decode cX6_shiftColumn 5 = .ok (.getfield 12, 3) := by decide +kernel
theorem dX6_shiftColumn_8 : decode cX6_shiftColumn 8 = .ok (.invokevirtual 64, 3) := by decide +kernel
theorem dX6_shiftColumn_11 : decode cX6_shiftColumn 11 = .ok (.aload_n 0, 1) := by decide +kernel
theorem dX6_shiftColumn_12 : decode cX6_shiftColumn 12 = .ok (.aload_n 0, 1) := by decide +kernel
theorem dX6_shiftColumn_13 : decode cX6_shiftColumn 13 = .ok (.getfield 12, 3) := by decide +kernel
theorem dX6_shiftColumn_16 : decode cX6_shiftColumn 16 = .ok (.iload_n 1, 1) := by decide +kernel
theorem dX6_shiftColumn_17 : decode cX6_shiftColumn 17 = .ok (.iload_n 2, 1) := by decide +kernel
theorem dX6_shiftColumn_18 : decode cX6_shiftColumn 18 = .ok (.invokevirtual 89, 3) := by decide +kernel
theorem dX6_shiftColumn_21 : decode cX6_shiftColumn 21 = .ok (.invokevirtual 72, 3) := by decide +kernel
theorem dX6_shiftColumn_24 : decode cX6_shiftColumn 24 = .ok (.ireturn, 1) := by decide +kernel
theorem dX6_placeKey_0 : decode cX6_placeKey 0 = .ok (.aload_n 0, 1) := by decide +kernel
theorem dX6_placeKey_1 : decode cX6_placeKey 1 = .ok (.getfield 16, 3) := by decide +kernel
theorem dX6_placeKey_4 : decode cX6_placeKey 4 = .ok (.aload_n 0, 1) := by decide +kernel
theorem dX6_placeKey_5 : decode cX6_placeKey 5 = .ok (.getfield 12, 3) := by decide +kernel
theorem dX6_placeKey_8 : decode cX6_placeKey 8 = .ok (.invokevirtual 64, 3) := by decide +kernel
theorem dX6_placeKey_11 : decode cX6_placeKey 11 = .ok (.aload_n 0, 1) := by decide +kernel
theorem dX6_placeKey_12 : decode cX6_placeKey 12 = .ok (.aload_n 0, 1) := by decide +kernel
theorem dX6_placeKey_13 : decode cX6_placeKey 13 = .ok (.getfield 12, 3) := by decide +kernel
theorem dX6_placeKey_16 : decode cX6_placeKey 16 = .ok (.iload_n 1, 1) := by decide +kernel
theorem dX6_placeKey_17 : decode cX6_placeKey 17 = .ok (.iload_n 2, 1) := by decide +kernel
theorem dX6_placeKey_18 : decode cX6_placeKey 18 = .ok (.iload_n 3, 1) := by decide +kernel
theorem dX6_placeKey_19 : decode cX6_placeKey 19 = .ok (.invokevirtual 92, 3) := by decide +kernel
theorem dX6_placeKey_22 : decode cX6_placeKey 22 = .ok (.invokevirtual 72, 3) := by decide +kernel
theorem dX6_placeKey_25 : decode cX6_placeKey 25 = .ok (.ireturn, 1) := by decide +kernel
theorem dX6_addLock_0 : decode cX6_addLock 0 = .ok (.aload_n 0, 1) := by decide +kernel
theorem dX6_addLock_1 : decode cX6_addLock 1 = .ok (.getfield 16, 3) := by decide +kernel
theorem dX6_addLock_4 : decode cX6_addLock 4 = .ok (.aload_n 0, 1) := by decide +kernel
theorem dX6_addLock_5 : decode cX6_addLock 5 = .ok (.getfield 12, 3) := by decide +kernel
theorem dX6_addLock_8 : decode cX6_addLock 8 = .ok (.invokevirtual 64, 3) := by decide +kernel
theorem dX6_addLock_11 : decode cX6_addLock 11 = .ok (.aload_n 0, 1) := by decide +kernel
theorem dX6_addLock_12 : decode cX6_addLock 12 = .ok (.aload_n 0, 1) := by decide +kernel
theorem dX6_addLock_13 : decode cX6_addLock 13 = .ok (.getfield 12, 3) := by decide +kernel
theorem dX6_addLock_16 : decode cX6_addLock 16 = .ok (.iload_n 1, 1) := by decide +kernel
theorem dX6_addLock_17 : decode cX6_addLock 17 = .ok (.iload_n 2, 1) := by decide +kernel
theorem dX6_addLock_18 : decode cX6_addLock 18 = .ok (.iload_n 3, 1) := by decide +kernel
theorem dX6_addLock_19 : decode cX6_addLock 19 = .ok (.invokevirtual 96, 3) := by decide +kernel
theorem dX6_addLock_22 : decode cX6_addLock 22 = .ok (.invokevirtual 72, 3) := by decide +kernel
theorem dX6_addLock_25 : decode cX6_addLock 25 = .ok (.ireturn, 1) := by decide +kernel
theorem dX6_removeLock_0 : decode cX6_removeLock 0 = .ok (.aload_n 0, 1) := by decide +kernel
theorem dX6_removeLock_1 : decode cX6_removeLock 1 = .ok (.getfield 16, 3) := by decide +kernel
theorem dX6_removeLock_4 : decode cX6_removeLock 4 = .ok (.aload_n 0, 1) := by decide +kernel
theorem dX6_removeLock_5 : decode cX6_removeLock 5 = .ok (.getfield 12, 3) := by decide +kernel
theorem dX6_removeLock_8 : decode cX6_removeLock 8 = .ok (.invokevirtual 64, 3) := by decide +kernel
theorem dX6_removeLock_11 : decode cX6_removeLock 11 = .ok (.aload_n 0, 1) := by decide +kernel
theorem dX6_removeLock_12 : decode cX6_removeLock 12 = .ok (.aload_n 0, 1) := by decide +kernel
theorem dX6_removeLock_13 : decode cX6_removeLock 13 = .ok (.getfield 12, 3) := by decide +kernel
theorem dX6_removeLock_16 : decode cX6_removeLock 16 = .ok (.iload_n 1, 1) := by decide +kernel
theorem dX6_removeLock_17 : decode cX6_removeLock 17 = .ok (.iload_n 2, 1) := by decide +kernel
theorem dX6_removeLock_18 : decode cX6_removeLock 18 = .ok (.invokevirtual 100, 3) := by decide +kernel
theorem dX6_removeLock_21 : decode cX6_removeLock 21 = .ok (.invokevirtual 72, 3) := by decide +kernel
theorem dX6_removeLock_24 : decode cX6_removeLock 24 = .ok (.i2c, 1) := by decide +kernel
theorem dX6_removeLock_25 : decode cX6_removeLock 25 = .ok (.ireturn, 1) := by decide +kernel
theorem dX6_addWalker_0 : decode cX6_addWalker 0 = .ok (.aload_n 0, 1) := by decide +kernel
theorem dX6_addWalker_1 : decode cX6_addWalker 1 = .ok (.getfield 16, 3) := by decide +kernel
theorem dX6_addWalker_4 : decode cX6_addWalker 4 = .ok (.aload_n 0, 1) := by decide +kernel
theorem dX6_addWalker_5 : decode cX6_addWalker 5 = .ok (.getfield 12, 3) := by decide +kernel
theorem dX6_addWalker_8 : decode cX6_addWalker 8 = .ok (.invokevirtual 64, 3) := by decide +kernel
theorem dX6_addWalker_11 : decode cX6_addWalker 11 = .ok (.aload_n 0, 1) := by decide +kernel
theorem dX6_addWalker_12 : decode cX6_addWalker 12 = .ok (.aload_n 0, 1) := by decide +kernel
theorem dX6_addWalker_13 : decode cX6_addWalker 13 = .ok (.getfield 12, 3) := by decide +kernel
theorem dX6_addWalker_16 : decode cX6_addWalker 16 = .ok (.iload_n 1, 1) := by decide +kernel
theorem dX6_addWalker_17 : decode cX6_addWalker 17 = .ok (.iload_n 2, 1) := by decide +kernel
theorem dX6_addWalker_18 : decode cX6_addWalker 18 = .ok (.invokevirtual 103, 3) := by decide +kernel
theorem dX6_addWalker_21 : decode cX6_addWalker 21 = .ok (.invokevirtual 72, 3) := by decide +kernel
theorem dX6_addWalker_24 : decode cX6_addWalker 24 = .ok (.ireturn, 1) := by decide +kernel
theorem dX6_walk_0 : decode cX6_walk 0 = .ok (.aload_n 0, 1) := by decide +kernel
theorem dX6_walk_1 : decode cX6_walk 1 = .ok (.getfield 16, 3) := by decide +kernel
theorem dX6_walk_4 : decode cX6_walk 4 = .ok (.aload_n 0, 1) := by decide +kernel
theorem dX6_walk_5 : decode cX6_walk 5 = .ok (.getfield 12, 3) := by decide +kernel
theorem dX6_walk_8 : decode cX6_walk 8 = .ok (.invokevirtual 64, 3) := by decide +kernel
theorem dX6_walk_11 : decode cX6_walk 11 = .ok (.aload_n 0, 1) := by decide +kernel
theorem dX6_walk_12 : decode cX6_walk 12 = .ok (.aload_n 0, 1) := by decide +kernel
theorem dX6_walk_13 : decode cX6_walk 13 = .ok (.getfield 12, 3) := by decide +kernel
theorem dX6_walk_16 : decode cX6_walk 16 = .ok (.aload_n 0, 1) := by decide +kernel
theorem dX6_walk_17 : decode cX6_walk 17 = .ok (.getfield 39, 3) := by decide +kernel
theorem dX6_walk_20 : decode cX6_walk 20 = .ok (.iload_n 1, 1) := by decide +kernel
theorem dX6_walk_21 : decode cX6_walk 21 = .ok (.iload_n 2, 1) := by decide +kernel
theorem dX6_walk_22 : decode cX6_walk 22 = .ok (.iload_n 3, 1) := by decide +kernel
theorem dX6_walk_23 : decode cX6_walk 23 = .ok (.invokevirtual 106, 3) := by decide +kernel
theorem dX6_walk_26 : decode cX6_walk 26 = .ok (.invokevirtual 72, 3) := by decide +kernel
theorem dX6_walk_29 : decode cX6_walk 29 = .ok (.ireturn, 1) := by decide +kernel
theorem dX6_openings_0 : decode cX6_openings 0 = .ok (.aload_n 0, 1) := by decide +kernel
theorem dX6_openings_1 : decode cX6_openings 1 = .ok (.getfield 12, 3) := by decide +kernel
theorem dX6_openings_4 : decode cX6_openings 4 = .ok (.getfield 110, 3) := by decide +kernel
theorem dX6_openings_7 : decode cX6_openings 7 = .ok (.iload_n 1, 1) := by decide +kernel
theorem dX6_openings_8 : decode cX6_openings 8 = .ok (.iload_n 2, 1) := by decide +kernel
theorem dX6_openings_9 : decode cX6_openings 9 = .ok (.invokestatic 114, 3) := by decide +kernel
theorem dX6_openings_12 : decode cX6_openings 12 = .ok (.iaload, 1) := by decide +kernel
theorem dX6_openings_13 : decode cX6_openings 13 = .ok (.ireturn, 1) := by decide +kernel
theorem dX6_isPinned_0 : decode cX6_isPinned 0 = .ok (.aload_n 0, 1) := by decide +kernel
theorem dX6_isPinned_1 : decode cX6_isPinned 1 = .ok (.getfield 12, 3) := by decide +kernel
theorem dX6_isPinned_4 : decode cX6_isPinned 4 = .ok (.iload_n 1, 1) := by decide +kernel
theorem dX6_isPinned_5 : decode cX6_isPinned 5 = .ok (.iload_n 2, 1) := by decide +kernel
theorem dX6_isPinned_6 : decode cX6_isPinned 6 = .ok (.invokestatic 114, 3) := by decide +kernel
theorem dX6_isPinned_9 : decode cX6_isPinned 9 = .ok (.invokevirtual 117, 3) := by decide +kernel
theorem dX6_isPinned_12 : decode cX6_isPinned 12 = .ok (.ireturn, 1) := by decide +kernel
theorem dX6_canShiftRow_0 : decode cX6_canShiftRow 0 = .ok (.aload_n 0, 1) := by decide +kernel
theorem dX6_canShiftRow_1 : decode cX6_canShiftRow 1 = .ok (.getfield 12, 3) := by decide +kernel
theorem dX6_canShiftRow_4 : decode cX6_canShiftRow 4 = .ok (.iload_n 1, 1) := by decide +kernel
theorem dX6_canShiftRow_5 : decode cX6_canShiftRow 5 = .ok (.invokestatic 121, 3) := by decide +kernel
theorem dX6_canShiftRow_8 : decode cX6_canShiftRow 8 = .ok (.iconst 5, 1) := by decide +kernel
theorem dX6_canShiftRow_9 : decode cX6_canShiftRow 9 = .ok (.imul, 1) := by decide +kernel
theorem dX6_canShiftRow_10 : decode cX6_canShiftRow 10 = .ok (.iconst 1, 1) := by decide +kernel
theorem dX6_canShiftRow_11 : decode cX6_canShiftRow 11 = .ok (.invokevirtual 124, 3) := by decide +kernel
theorem dX6_canShiftRow_14 : decode cX6_canShiftRow 14 = .ok (.ireturn, 1) := by decide +kernel
theorem dX6_canShiftColumn_0 : decode cX6_canShiftColumn 0 = .ok (.aload_n 0, 1) := by decide +kernel
theorem dX6_canShiftColumn_1 : decode cX6_canShiftColumn 1 = .ok (.getfield 12, 3) := by decide +kernel
theorem dX6_canShiftColumn_4 : decode cX6_canShiftColumn 4 = .ok (.iload_n 1, 1) := by decide +kernel
theorem dX6_canShiftColumn_5 : decode cX6_canShiftColumn 5 = .ok (.invokestatic 121, 3) := by decide +kernel
theorem dX6_canShiftColumn_8 : decode cX6_canShiftColumn 8 = .ok (.iconst 5, 1) := by decide +kernel
theorem dX6_canShiftColumn_9 : decode cX6_canShiftColumn 9 = .ok (.invokevirtual 124, 3) := by decide +kernel
theorem dX6_canShiftColumn_12 : decode cX6_canShiftColumn 12 = .ok (.ireturn, 1) := by decide +kernel
theorem dX6_hasLock_0 : decode cX6_hasLock 0 = .ok (.aload_n 0, 1) := by decide +kernel
theorem dX6_hasLock_1 : decode cX6_hasLock 1 = .ok (.getfield 12, 3) := by decide +kernel
theorem dX6_hasLock_4 : decode cX6_hasLock 4 = .ok (.getfield 128, 3) := by decide +kernel
theorem dX6_hasLock_7 : decode cX6_hasLock 7 = .ok (.iload_n 1, 1) := by decide +kernel
theorem dX6_hasLock_8 : decode cX6_hasLock 8 = .ok (.iload_n 2, 1) := by decide +kernel
theorem dX6_hasLock_9 : decode cX6_hasLock 9 = .ok (.invokestatic 114, 3) := by decide +kernel
theorem dX6_hasLock_12 : decode cX6_hasLock 12 = .ok (.iaload, 1) := by decide +kernel
theorem dX6_hasLock_13 : decode cX6_hasLock 13 = .ok (.iconst (-1), 1) := by decide +kernel
theorem dX6_hasLock_14 : decode cX6_hasLock 14 = .ok (.if_icmp .eq 7, 3) := by decide +kernel
theorem dX6_hasLock_17 : decode cX6_hasLock 17 = .ok (.iconst 1, 1) := by decide +kernel
theorem dX6_hasLock_18 : decode cX6_hasLock 18 = .ok (.goto 4, 3) := by decide +kernel
theorem dX6_hasLock_21 : decode cX6_hasLock 21 = .ok (.iconst 0, 1) := by decide +kernel
theorem dX6_hasLock_22 : decode cX6_hasLock 22 = .ok (.ireturn, 1) := by decide +kernel
theorem dX6_lockAt_0 : decode cX6_lockAt 0 = .ok (.aload_n 0, 1) := by decide +kernel
theorem dX6_lockAt_1 : decode cX6_lockAt 1 = .ok (.getfield 12, 3) := by decide +kernel
theorem dX6_lockAt_4 : decode cX6_lockAt 4 = .ok (.getfield 128, 3) := by decide +kernel
theorem dX6_lockAt_7 : decode cX6_lockAt 7 = .ok (.iload_n 1, 1) := by decide +kernel
theorem dX6_lockAt_8 : decode cX6_lockAt 8 = .ok (.iload_n 2, 1) := by decide +kernel
theorem dX6_lockAt_9 : decode cX6_lockAt 9 = .ok (.invokestatic 114, 3) := by decide +kernel
theorem dX6_lockAt_12 : decode cX6_lockAt 12 = .ok (.iaload, 1) := by decide +kernel
theorem dX6_lockAt_13 : decode cX6_lockAt 13 = .ok (.istore_n 3, 1) := by decide +kernel
theorem dX6_lockAt_14 : decode cX6_lockAt 14 = .ok (.iload_n 3, 1) := by decide +kernel
theorem dX6_lockAt_15 : decode cX6_lockAt 15 = .ok (.iconst (-1), 1) := by decide +kernel
theorem dX6_lockAt_16 : decode cX6_lockAt 16 = .ok (.if_icmp .ne 13, 3) := by decide +kernel
theorem dX6_lockAt_19 : decode cX6_lockAt 19 = .ok (.new 131, 3) := by decide +kernel
theorem dX6_lockAt_22 : decode cX6_lockAt 22 = .ok (.dup, 1) := by decide +kernel
theorem dX6_lockAt_23 : decode cX6_lockAt 23 = .ok (.ldc 133, 2) := by decide +kernel
theorem dX6_lockAt_25 : decode cX6_lockAt 25 = .ok (.invokespecial 135, 3) := by decide +kernel
theorem dX6_lockAt_28 : decode cX6_lockAt 28 = .ok (.athrow, 1) := by decide +kernel
theorem dX6_lockAt_29 : decode cX6_lockAt 29 = .ok (.iload_n 3, 1) := by decide +kernel
theorem dX6_lockAt_30 : decode cX6_lockAt 30 = .ok (.invokestatic 138, 3) := by decide +kernel
theorem dX6_lockAt_33 : decode cX6_lockAt 33 = .ok (.ireturn, 1) := by decide +kernel
theorem dX6_keysAt_0 : decode cX6_keysAt 0 = .ok (.aload_n 0, 1) := by decide +kernel
theorem dX6_keysAt_1 : decode cX6_keysAt 1 = .ok (.getfield 12, 3) := by decide +kernel
theorem dX6_keysAt_4 : decode cX6_keysAt 4 = .ok (.iload_n 1, 1) := by decide +kernel
theorem dX6_keysAt_5 : decode cX6_keysAt 5 = .ok (.iload_n 2, 1) := by decide +kernel
theorem dX6_keysAt_6 : decode cX6_keysAt 6 = .ok (.invokestatic 114, 3) := by decide +kernel
theorem dX6_keysAt_9 : decode cX6_keysAt 9 = .ok (.invokevirtual 142, 3) := by decide +kernel
theorem dX6_keysAt_12 : decode cX6_keysAt 12 = .ok (.ireturn, 1) := by decide +kernel
theorem dX6_isConnected_0 : decode cX6_isConnected 0 = .ok (.iload_n 1, 1) := by decide +kernel
theorem dX6_isConnected_1 : decode cX6_isConnected 1 = .ok (.iload_n 2, 1) := by decide +kernel
theorem dX6_isConnected_2 : decode cX6_isConnected 2 = .ok (.invokestatic 114, 3) := by decide +kernel
theorem dX6_isConnected_5 : decode cX6_isConnected 5 = .ok (.istore 4, 2) := by decide +kernel
theorem dX6_isConnected_7 : decode cX6_isConnected 7 = .ok (.iload_n 3, 1) := by decide +kernel
theorem dX6_isConnected_8 : decode cX6_isConnected 8 = .ok (.ifCond .lt 8, 3) := by decide +kernel
theorem dX6_isConnected_11 : decode cX6_isConnected 11 = .ok (.iload_n 3, 1) := by decide +kernel
theorem dX6_isConnected_12 : decode cX6_isConnected 12 = .ok (.iconst 4, 1) := by decide +kernel
theorem dX6_isConnected_13 : decode cX6_isConnected 13 = .ok (.if_icmp .lt 13, 3) := by decide +kernel
theorem dX6_isConnected_16 : decode cX6_isConnected 16 = .ok (.new 145, 3) := by decide +kernel
theorem dX6_isConnected_19 : decode cX6_isConnected 19 = .ok (.dup, 1) := by decide +kernel
theorem dX6_isConnected_20 : decode cX6_isConnected 20 = .ok (.ldc 147, 2) := by decide +kernel
theorem dX6_isConnected_22 : decode cX6_isConnected 22 = .ok (.invokespecial 149, 3) := by decide +kernel
theorem dX6_isConnected_25 : decode cX6_isConnected 25 = .ok (.athrow, 1) := by decide +kernel
theorem dX6_isConnected_26 : decode cX6_isConnected 26 = .ok (.aload_n 0, 1) := by decide +kernel
theorem dX6_isConnected_27 : decode cX6_isConnected 27 = .ok (.getfield 12, 3) := by decide +kernel
theorem dX6_isConnected_30 : decode cX6_isConnected 30 = .ok (.iload 4, 2) := by decide +kernel
theorem dX6_isConnected_32 : decode cX6_isConnected 32 = .ok (.iload_n 3, 1) := by decide +kernel
theorem dX6_isConnected_33 : decode cX6_isConnected 33 = .ok (.invokevirtual 150, 3) := by decide +kernel
theorem dX6_isConnected_36 : decode cX6_isConnected 36 = .ok (.iconst (-1), 1) := by decide +kernel
theorem dX6_isConnected_37 : decode cX6_isConnected 37 = .ok (.if_icmp .eq 7, 3) := by decide +kernel
theorem dX6_isConnected_40 : decode cX6_isConnected 40 = .ok (.iconst 1, 1) := by decide +kernel
theorem dX6_isConnected_41 : decode cX6_isConnected 41 = .ok (.goto 4, 3) := by decide +kernel
theorem dX6_isConnected_44 : decode cX6_isConnected 44 = .ok (.iconst 0, 1) := by decide +kernel
theorem dX6_isConnected_45 : decode cX6_isConnected 45 = .ok (.ireturn, 1) := by decide +kernel
theorem dX6_regionCount_0 : decode cX6_regionCount 0 = .ok (.aload_n 0, 1) := by decide +kernel
