theorem dJ7_fill_53178_13 : decode cJ7_fill_53178 13 = .ok (.iastore, 1) := by decide +kernel
theorem dJ7_fill_53178_14 : decode cJ7_fill_53178 14 = .ok (.iinc 2 1, 3) := by decide +kernel
theorem dJ7_fill_53178_17 : decode cJ7_fill_53178 17 = .ok (.goto (-12), 3) := by decide +kernel
theorem dJ7_fill_53178_20 : decode cJ7_fill_53178 20 = .ok (.return_, 1) := by decide +kernel
theorem dJ7_copyOf_9075b_0 : decode cJ7_copyOf_9075b 0 = .ok (.iload_n 1, 1) := by decide +kernel
theorem dJ7_copyOf_9075b_1 : decode cJ7_copyOf_9075b 1 = .ok (.aload_n 0, 1) := by decide +kernel
theorem dJ7_copyOf_9075b_2 : decode cJ7_copyOf_9075b 2 = .ok (.arraylength, 1) := by decide +kernel
theorem dJ7_copyOf_9075b_3 : decode cJ7_copyOf_9075b 3 = .ok (.if_icmp .ne 11, 3) := by decide +kernel
theorem dJ7_copyOf_9075b_6 : decode cJ7_copyOf_9075b 6 = .ok (.aload_n 0, 1) := by decide +kernel
theorem dJ7_copyOf_9075b_7 : decode cJ7_copyOf_9075b 7 = .ok (.invokevirtual 310, 3) := by decide +kernel
theorem dJ7_copyOf_9075b_10 : decode cJ7_copyOf_9075b 10 = .ok (.checkcast 311, 3) := by decide +kernel
theorem dJ7_copyOf_9075b_13 : decode cJ7_copyOf_9075b 13 = .ok (.areturn, 1) := by decide +kernel
theorem dJ7_copyOf_9075b_14 : decode cJ7_copyOf_9075b 14 = .ok (.iload_n 1, 1) := by decide +kernel
theorem dJ7_copyOf_9075b_15 : decode cJ7_copyOf_9075b 15 = .ok (.newarray .byte, 2) := by decide +kernel
theorem dJ7_copyOf_9075b_17 : decode cJ7_copyOf_9075b 17 = .ok (.astore_n 2, 1) := by decide +kernel
theorem dJ7_copyOf_9075b_18 : decode cJ7_copyOf_9075b 18 = .ok (.aload_n 0, 1) := by decide +kernel
theorem dJ7_copyOf_9075b_19 : decode cJ7_copyOf_9075b 19 = .ok (.iconst 0, 1) := by decide +kernel
theorem dJ7_copyOf_9075b_20 : decode cJ7_copyOf_9075b 20 = .ok (.aload_n 2, 1) := by decide +kernel
theorem dJ7_copyOf_9075b_21 : decode cJ7_copyOf_9075b 21 = .ok (.iconst 0, 1) := by decide +kernel
theorem dJ7_copyOf_9075b_22 : decode cJ7_copyOf_9075b 22 = .ok (.aload_n 0, 1) := by decide +kernel
theorem dJ7_copyOf_9075b_23 : decode cJ7_copyOf_9075b 23 = .ok (.arraylength, 1) := by decide +kernel
theorem dJ7_copyOf_9075b_24 : decode cJ7_copyOf_9075b 24 = .ok (.iload_n 1, 1) := by decide +kernel
theorem dJ7_copyOf_9075b_25 : decode cJ7_copyOf_9075b 25 = .ok (.invokestatic 304, 3) := by decide +kernel
theorem dJ7_copyOf_9075b_28 : decode cJ7_copyOf_9075b 28 = .ok (.invokestatic 150, 3) := by decide +kernel
theorem dJ7_copyOf_9075b_31 : decode cJ7_copyOf_9075b 31 = .ok (.aload_n 2, 1) := by decide +kernel
theorem dJ7_copyOf_9075b_32 : decode cJ7_copyOf_9075b 32 = .ok (.areturn, 1) := by decide +kernel
theorem dJ7_checkLength_df160_0 : decode cJ7_checkLength_df160 0 = .ok (.iload_n 1, 1) := by decide +kernel
theorem dJ7_checkLength_df160_1 : decode cJ7_checkLength_df160 1 = .ok (.iload_n 0, 1) := by decide +kernel
theorem dJ7_checkLength_df160_2 : decode cJ7_checkLength_df160 2 = .ok (.if_icmp .ge 35, 3) := by decide +kernel
theorem dJ7_checkLength_df160_5 : decode cJ7_checkLength_df160 5 = .ok (.new 43, 3) := by decide +kernel
theorem dJ7_checkLength_df160_8 : decode cJ7_checkLength_df160 8 = .ok (.dup, 1) := by decide +kernel
theorem dJ7_checkLength_df160_9 : decode cJ7_checkLength_df160 9 = .ok (.new 45, 3) := by decide +kernel
theorem dJ7_checkLength_df160_12 : decode cJ7_checkLength_df160 12 = .ok (.dup, 1) := by decide +kernel
theorem dJ7_checkLength_df160_13 : decode cJ7_checkLength_df160 13 = .ok (.invokespecial 47, 3) := by decide +kernel
theorem dJ7_checkLength_df160_16 : decode cJ7_checkLength_df160 16 = .ok (.iload_n 0, 1) := by decide +kernel
theorem dJ7_checkLength_df160_17 : decode cJ7_checkLength_df160 17 = .ok (.invokevirtual 54, 3) := by decide +kernel
theorem dJ7_checkLength_df160_20 : decode cJ7_checkLength_df160 20 = .ok (.ldc_w 337, 3) := by decide +kernel
theorem dJ7_checkLength_df160_23 : decode cJ7_checkLength_df160 23 = .ok (.invokevirtual 50, 3) := by decide +kernel
theorem dJ7_checkLength_df160_26 : decode cJ7_checkLength_df160 26 = .ok (.iload_n 1, 1) := by decide +kernel
theorem dJ7_checkLength_df160_27 : decode cJ7_checkLength_df160 27 = .ok (.invokevirtual 54, 3) := by decide +kernel
theorem dJ7_checkLength_df160_30 : decode cJ7_checkLength_df160 30 = .ok (.invokevirtual 61, 3) := by decide +kernel
theorem dJ7_checkLength_df160_33 : decode cJ7_checkLength_df160 33 = .ok (.invokespecial 65, 3) := by decide +kernel
theorem dJ7_checkLength_df160_36 : decode cJ7_checkLength_df160 36 = .ok (.athrow, 1) := by decide +kernel
theorem dJ7_checkLength_df160_37 : decode cJ7_checkLength_df160 37 = .ok (.return_, 1) := by decide +kernel
theorem dJ7_copyOfRange_39247_0 : decode cJ7_copyOfRange_39247 0 = .ok (.iload_n 1, 1) := by decide +kernel
theorem dJ7_copyOfRange_39247_1 : decode cJ7_copyOfRange_39247 1 = .ok (.ifCond .ne 9, 3) := by decide +kernel
theorem dJ7_copyOfRange_39247_4 : decode cJ7_copyOfRange_39247 4 = .ok (.iload_n 2, 1) := by decide +kernel
theorem dJ7_copyOfRange_39247_5 : decode cJ7_copyOfRange_39247 5 = .ok (.aload_n 0, 1) := by decide +kernel
theorem dJ7_copyOfRange_39247_6 : decode cJ7_copyOfRange_39247 6 = .ok (.arraylength, 1) := by decide +kernel
theorem dJ7_copyOfRange_39247_7 : decode cJ7_copyOfRange_39247 7 = .ok (.if_icmp .eq 10, 3) := by decide +kernel
theorem dJ7_copyOfRange_39247_10 : decode cJ7_copyOfRange_39247 10 = .ok (.aload_n 0, 1) := by decide +kernel
theorem dJ7_copyOfRange_39247_11 : decode cJ7_copyOfRange_39247 11 = .ok (.iload_n 1, 1) := by decide +kernel
theorem dJ7_copyOfRange_39247_12 : decode cJ7_copyOfRange_39247 12 = .ok (.iload_n 2, 1) := by decide +kernel
theorem dJ7_copyOfRange_39247_13 : decode cJ7_copyOfRange_39247 13 = .ok (.invokestatic 339, 3) := by decide +kernel
theorem dJ7_copyOfRange_39247_16 : decode cJ7_copyOfRange_39247 16 = .ok (.areturn, 1) := by decide +kernel
theorem dJ7_copyOfRange_39247_17 : decode cJ7_copyOfRange_39247 17 = .ok (.aload_n 0, 1) := by decide +kernel
theorem dJ7_copyOfRange_39247_18 : decode cJ7_copyOfRange_39247 18 = .ok (.invokevirtual 310, 3) := by decide +kernel
theorem dJ7_copyOfRange_39247_21 : decode cJ7_copyOfRange_39247 21 = .ok (.checkcast 311, 3) := by decide +kernel
theorem dJ7_copyOfRange_39247_24 : decode cJ7_copyOfRange_39247 24 = .ok (.areturn, 1) := by decide +kernel
theorem dJ7_copyOfRangeByte_39247_0 : decode cJ7_copyOfRangeByte_39247 0 = .ok (.iload_n 1, 1) := by decide +kernel
theorem dJ7_copyOfRangeByte_39247_1 : decode cJ7_copyOfRangeByte_39247 1 = .ok (.iload_n 2, 1) := by decide +kernel
theorem dJ7_copyOfRangeByte_39247_2 : decode cJ7_copyOfRangeByte_39247 2 = .ok (.invokestatic 343, 3) := by decide +kernel
theorem dJ7_copyOfRangeByte_39247_5 : decode cJ7_copyOfRangeByte_39247 5 = .ok (.iload_n 2, 1) := by decide +kernel
theorem dJ7_copyOfRangeByte_39247_6 : decode cJ7_copyOfRangeByte_39247 6 = .ok (.iload_n 1, 1) := by decide +kernel
theorem dJ7_copyOfRangeByte_39247_7 : decode cJ7_copyOfRangeByte_39247 7 = .ok (.isub, 1) := by decide +kernel
theorem dJ7_copyOfRangeByte_39247_8 : decode cJ7_copyOfRangeByte_39247 8 = .ok (.istore_n 3, 1) := by decide +kernel
theorem dJ7_copyOfRangeByte_39247_9 : decode cJ7_copyOfRangeByte_39247 9 = .ok (.iload_n 3, 1) := by decide +kernel
theorem dJ7_copyOfRangeByte_39247_10 : decode cJ7_copyOfRangeByte_39247 10 = .ok (.newarray .byte, 2) := by decide +kernel
theorem dJ7_copyOfRangeByte_39247_12 : decode cJ7_copyOfRangeByte_39247 12 = .ok (.astore 4, 2) := by decide +kernel
theorem dJ7_copyOfRangeByte_39247_14 : decode cJ7_copyOfRangeByte_39247 14 = .ok (.aload_n 0, 1) := by decide +kernel
theorem dJ7_copyOfRangeByte_39247_15 : decode cJ7_copyOfRangeByte_39247 15 = .ok (.iload_n 1, 1) := by decide +kernel
theorem dJ7_copyOfRangeByte_39247_16 : decode cJ7_copyOfRangeByte_39247 16 = .ok (.aload 4, 2) := by decide +kernel
theorem dJ7_copyOfRangeByte_39247_18 : decode cJ7_copyOfRangeByte_39247 18 = .ok (.iconst 0, 1) := by decide +kernel
theorem dJ7_copyOfRangeByte_39247_19 : decode cJ7_copyOfRangeByte_39247 19 = .ok (.aload_n 0, 1) := by decide +kernel
theorem dJ7_copyOfRangeByte_39247_20 : decode cJ7_copyOfRangeByte_39247 20 = .ok (.arraylength, 1) := by decide +kernel
theorem dJ7_copyOfRangeByte_39247_21 : decode cJ7_copyOfRangeByte_39247 21 = .ok (.iload_n 1, 1) := by decide +kernel
theorem dJ7_copyOfRangeByte_39247_22 : decode cJ7_copyOfRangeByte_39247 22 = .ok (.isub, 1) := by decide +kernel
theorem dJ7_copyOfRangeByte_39247_23 : decode cJ7_copyOfRangeByte_39247 23 = .ok (.iload_n 3, 1) := by decide +kernel
theorem dJ7_copyOfRangeByte_39247_24 : decode cJ7_copyOfRangeByte_39247 24 = .ok (.invokestatic 304, 3) := by decide +kernel
theorem dJ7_copyOfRangeByte_39247_27 : decode cJ7_copyOfRangeByte_39247 27 = .ok (.invokestatic 150, 3) := by decide +kernel
theorem dJ7_copyOfRangeByte_39247_30 : decode cJ7_copyOfRangeByte_39247 30 = .ok (.aload 4, 2) := by decide +kernel
theorem dJ7_copyOfRangeByte_39247_32 : decode cJ7_copyOfRangeByte_39247 32 = .ok (.areturn, 1) := by decide +kernel
theorem dJ8_newLength_cabcc_0 : decode cJ8_newLength_cabcc 0 = .ok (.iload_n 0, 1) := by decide +kernel
theorem dJ8_newLength_cabcc_1 : decode cJ8_newLength_cabcc 1 = .ok (.iload_n 1, 1) := by decide +kernel
theorem dJ8_newLength_cabcc_2 : decode cJ8_newLength_cabcc 2 = .ok (.iload_n 2, 1) := by decide +kernel
theorem dJ8_newLength_cabcc_3 : decode cJ8_newLength_cabcc 3 = .ok (.invokestatic 194, 3) := by decide +kernel
theorem dJ8_newLength_cabcc_6 : decode cJ8_newLength_cabcc 6 = .ok (.iadd, 1) := by decide +kernel
theorem dJ8_newLength_cabcc_7 : decode cJ8_newLength_cabcc 7 = .ok (.istore_n 3, 1) := by decide +kernel
theorem dJ8_newLength_cabcc_8 : decode cJ8_newLength_cabcc 8 = .ok (.iconst 0, 1) := by decide +kernel
theorem dJ8_newLength_cabcc_9 : decode cJ8_newLength_cabcc 9 = .ok (.iload_n 3, 1) := by decide +kernel
theorem dJ8_newLength_cabcc_10 : decode cJ8_newLength_cabcc 10 = .ok (.if_icmp .ge 11, 3) := by decide +kernel
theorem dJ8_newLength_cabcc_13 : decode cJ8_newLength_cabcc 13 = .ok (.iload_n 3, 1) := by decide +kernel
theorem dJ8_newLength_cabcc_14 : decode cJ8_newLength_cabcc 14 = .ok (.ldc 200, 2) := by decide +kernel
theorem dJ8_newLength_cabcc_16 : decode cJ8_newLength_cabcc 16 = .ok (.if_icmp .gt 5, 3) := by decide +kernel
theorem dJ8_newLength_cabcc_19 : decode cJ8_newLength_cabcc 19 = .ok (.iload_n 3, 1) := by decide +kernel
theorem dJ8_newLength_cabcc_20 : decode cJ8_newLength_cabcc 20 = .ok (.ireturn, 1) := by decide +kernel
theorem dJ8_newLength_cabcc_21 : decode cJ8_newLength_cabcc 21 = .ok (.iload_n 0, 1) := by decide +kernel
theorem dJ8_newLength_cabcc_22 : decode cJ8_newLength_cabcc 22 = .ok (.iload_n 1, 1) := by decide +kernel
theorem dJ8_newLength_cabcc_23 : decode cJ8_newLength_cabcc 23 = .ok (.invokestatic 201, 3) := by decide +kernel
theorem dJ8_newLength_cabcc_26 : decode cJ8_newLength_cabcc 26 = .ok (.ireturn, 1) := by decide +kernel
theorem dJ8_hugeLength_7cf53_0 : decode cJ8_hugeLength_7cf53 0 = .ok (.iload_n 0, 1) := by decide +kernel
theorem dJ8_hugeLength_7cf53_1 : decode cJ8_hugeLength_7cf53 1 = .ok (.iload_n 1, 1) := by decide +kernel
theorem dJ8_hugeLength_7cf53_2 : decode cJ8_hugeLength_7cf53 2 = .ok (.iadd, 1) := by decide +kernel
theorem dJ8_hugeLength_7cf53_3 : decode cJ8_hugeLength_7cf53 3 = .ok (.istore_n 2, 1) := by decide +kernel
theorem dJ8_hugeLength_7cf53_4 : decode cJ8_hugeLength_7cf53 4 = .ok (.iload_n 2, 1) := by decide +kernel
theorem dJ8_hugeLength_7cf53_5 : decode cJ8_hugeLength_7cf53 5 = .ok (.ifCond .ge 44, 3) := by decide +kernel
theorem dJ8_hugeLength_7cf53_8 : decode cJ8_hugeLength_7cf53 8 = .ok (.new 204, 3) := by decide +kernel
theorem dJ8_hugeLength_7cf53_11 : decode cJ8_hugeLength_7cf53 11 = .ok (.dup, 1) := by decide +kernel
theorem dJ8_hugeLength_7cf53_12 : decode cJ8_hugeLength_7cf53 12 = .ok (.new 89, 3) := by decide +kernel
theorem dJ8_hugeLength_7cf53_15 : decode cJ8_hugeLength_7cf53 15 = .ok (.dup, 1) := by decide +kernel
theorem dJ8_hugeLength_7cf53_16 : decode cJ8_hugeLength_7cf53 16 = .ok (.invokespecial 91, 3) := by decide +kernel
theorem dJ8_hugeLength_7cf53_19 : decode cJ8_hugeLength_7cf53 19 = .ok (.ldc 206, 2) := by decide +kernel
theorem dJ8_hugeLength_7cf53_21 : decode cJ8_hugeLength_7cf53 21 = .ok (.invokevirtual 94, 3) := by decide +kernel
theorem dJ8_hugeLength_7cf53_24 : decode cJ8_hugeLength_7cf53 24 = .ok (.iload_n 0, 1) := by decide +kernel
theorem dJ8_hugeLength_7cf53_25 : decode cJ8_hugeLength_7cf53 25 = .ok (.invokevirtual 98, 3) := by decide +kernel
theorem dJ8_hugeLength_7cf53_28 : decode cJ8_hugeLength_7cf53 28 = .ok (.ldc 208, 2) := by decide +kernel
theorem dJ8_hugeLength_7cf53_30 : decode cJ8_hugeLength_7cf53 30 = .ok (.invokevirtual 94, 3) := by decide +kernel
theorem dJ8_hugeLength_7cf53_33 : decode cJ8_hugeLength_7cf53 33 = .ok (.iload_n 1, 1) := by decide +kernel
theorem dJ8_hugeLength_7cf53_34 : decode cJ8_hugeLength_7cf53 34 = .ok (.invokevirtual 98, 3) := by decide +kernel
theorem dJ8_hugeLength_7cf53_37 : decode cJ8_hugeLength_7cf53 37 = .ok (.ldc 210, 2) := by decide +kernel
theorem dJ8_hugeLength_7cf53_39 : decode cJ8_hugeLength_7cf53 39 = .ok (.invokevirtual 94, 3) := by decide +kernel
theorem dJ8_hugeLength_7cf53_42 : decode cJ8_hugeLength_7cf53 42 = .ok (.invokevirtual 101, 3) := by decide +kernel
theorem dJ8_hugeLength_7cf53_45 : decode cJ8_hugeLength_7cf53 45 = .ok (.invokespecial 212, 3) := by decide +kernel
theorem dJ8_hugeLength_7cf53_48 : decode cJ8_hugeLength_7cf53 48 = .ok (.athrow, 1) := by decide +kernel
theorem dJ8_hugeLength_7cf53_49 : decode cJ8_hugeLength_7cf53 49 = .ok (.iload_n 2, 1) := by decide +kernel
theorem dJ8_hugeLength_7cf53_50 : decode cJ8_hugeLength_7cf53 50 = .ok (.ldc 200, 2) := by decide +kernel
theorem dJ8_hugeLength_7cf53_52 : decode cJ8_hugeLength_7cf53 52 = .ok (.if_icmp .gt 6, 3) := by decide +kernel
theorem dJ8_hugeLength_7cf53_55 : decode cJ8_hugeLength_7cf53 55 = .ok (.ldc 200, 2) := by decide +kernel
theorem dJ8_hugeLength_7cf53_57 : decode cJ8_hugeLength_7cf53 57 = .ok (.ireturn, 1) := by decide +kernel
theorem dJ8_hugeLength_7cf53_58 : decode cJ8_hugeLength_7cf53 58 = .ok (.iload_n 2, 1) := by decide +kernel
theorem dJ8_hugeLength_7cf53_59 : decode cJ8_hugeLength_7cf53 59 = .ok (.ireturn, 1) := by decide +kernel
theorem dJ3_checkIndex_8e157_0 : decode cJ3_checkIndex_8e157 0 = .ok (.iload_n 0, 1) := by decide +kernel
theorem dJ3_checkIndex_8e157_1 : decode cJ3_checkIndex_8e157 1 = .ok (.ifCond .lt 8, 3) := by decide +kernel
theorem dJ3_checkIndex_8e157_4 : decode cJ3_checkIndex_8e157 4 = .ok (.iload_n 0, 1) := by decide +kernel
theorem dJ3_checkIndex_8e157_5 : decode cJ3_checkIndex_8e157 5 = .ok (.iload_n 1, 1) := by decide +kernel
theorem dJ3_checkIndex_8e157_6 : decode cJ3_checkIndex_8e157 6 = .ok (.if_icmp .lt 10, 3) := by decide +kernel
theorem dJ3_checkIndex_8e157_9 : decode cJ3_checkIndex_8e157 9 = .ok (.aload_n 2, 1) := by decide +kernel
theorem dJ3_checkIndex_8e157_10 : decode cJ3_checkIndex_8e157 10 = .ok (.iload_n 0, 1) := by decide +kernel
theorem dJ3_checkIndex_8e157_11 : decode cJ3_checkIndex_8e157 11 = .ok (.iload_n 1, 1) := by decide +kernel
theorem dJ3_checkIndex_8e157_12 : decode cJ3_checkIndex_8e157 12 = .ok (.invokestatic 95, 3) := by decide +kernel
theorem dJ3_checkIndex_8e157_15 : decode cJ3_checkIndex_8e157 15 = .ok (.athrow, 1) := by decide +kernel
theorem dJ3_checkIndex_8e157_16 : decode cJ3_checkIndex_8e157 16 = .ok (.iload_n 0, 1) := by decide +kernel
theorem dJ3_checkIndex_8e157_17 : decode cJ3_checkIndex_8e157 17 = .ok (.ireturn, 1) := by decide +kernel
theorem dJ3_checkFromToIndex_8c36e_0 : decode cJ3_checkFromToIndex_8c36e 0 = .ok (.iload_n 0, 1) := by decide +kernel
theorem dJ3_checkFromToIndex_8c36e_1 : decode cJ3_checkFromToIndex_8c36e 1 = .ok (.ifCond .lt 13, 3) := by decide +kernel
theorem dJ3_checkFromToIndex_8c36e_4 : decode cJ3_checkFromToIndex_8c36e 4 = .ok (.iload_n 0, 1) := by decide +kernel
theorem dJ3_checkFromToIndex_8c36e_5 : decode cJ3_checkFromToIndex_8c36e 5 = .ok (.iload_n 1, 1) := by decide +kernel
theorem dJ3_checkFromToIndex_8c36e_6 : decode cJ3_checkFromToIndex_8c36e 6 = .ok (.if_icmp .gt 8, 3) := by decide +kernel
theorem dJ3_checkFromToIndex_8c36e_9 : decode cJ3_checkFromToIndex_8c36e 9 = .ok (.iload_n 1, 1) := by decide +kernel
theorem dJ3_checkFromToIndex_8c36e_10 : decode cJ3_checkFromToIndex_8c36e 10 = .ok (.iload_n 2, 1) := by decide +kernel
theorem dJ3_checkFromToIndex_8c36e_11 : decode cJ3_checkFromToIndex_8c36e 11 = .ok (.if_icmp .le 11, 3) := by decide +kernel
theorem dJ3_checkFromToIndex_8c36e_14 : decode cJ3_checkFromToIndex_8c36e 14 = .ok (.aload_n 3, 1) := by decide +kernel
theorem dJ3_checkFromToIndex_8c36e_15 : decode cJ3_checkFromToIndex_8c36e 15 = .ok (.iload_n 0, 1) := by decide +kernel
theorem dJ3_checkFromToIndex_8c36e_16 : decode cJ3_checkFromToIndex_8c36e 16 = .ok (.iload_n 1, 1) := by decide +kernel
theorem dJ3_checkFromToIndex_8c36e_17 : decode cJ3_checkFromToIndex_8c36e 17 = .ok (.iload_n 2, 1) := by decide +kernel
theorem dJ3_checkFromToIndex_8c36e_18 : decode cJ3_checkFromToIndex_8c36e 18 = .ok (.invokestatic 99, 3) := by decide +kernel
theorem dJ3_checkFromToIndex_8c36e_21 : decode cJ3_checkFromToIndex_8c36e 21 = .ok (.athrow, 1) := by decide +kernel
theorem dJ3_checkFromToIndex_8c36e_22 : decode cJ3_checkFromToIndex_8c36e 22 = .ok (.iload_n 0, 1) := by decide +kernel
theorem dJ3_checkFromToIndex_8c36e_23 : decode cJ3_checkFromToIndex_8c36e 23 = .ok (.ireturn, 1) := by decide +kernel
theorem dJ3_checkFromIndexSize_8c36e_0 : decode cJ3_checkFromIndexSize_8c36e 0 = .ok (.iload_n 2, 1) := by decide +kernel
theorem dJ3_checkFromIndexSize_8c36e_1 : decode cJ3_checkFromIndexSize_8c36e 1 = .ok (.iload_n 0, 1) := by decide +kernel
theorem dJ3_checkFromIndexSize_8c36e_2 : decode cJ3_checkFromIndexSize_8c36e 2 = .ok (.ior, 1) := by decide +kernel
theorem dJ3_checkFromIndexSize_8c36e_3 : decode cJ3_checkFromIndexSize_8c36e 3 = .ok (.iload_n 1, 1) := by decide +kernel
theorem dJ3_checkFromIndexSize_8c36e_4 : decode cJ3_checkFromIndexSize_8c36e 4 = .ok (.ior, 1) := by decide +kernel
theorem dJ3_checkFromIndexSize_8c36e_5 : decode cJ3_checkFromIndexSize_8c36e 5 = .ok (.ifCond .lt 10, 3) := by decide +kernel
theorem dJ3_checkFromIndexSize_8c36e_8 : decode cJ3_checkFromIndexSize_8c36e 8 = .ok (.iload_n 1, 1) := by decide +kernel
theorem dJ3_checkFromIndexSize_8c36e_9 : decode cJ3_checkFromIndexSize_8c36e 9 = .ok (.iload_n 2, 1) := by decide +kernel
theorem dJ3_checkFromIndexSize_8c36e_10 : decode cJ3_checkFromIndexSize_8c36e 10 = .ok (.iload_n 0, 1) := by decide +kernel
theorem dJ3_checkFromIndexSize_8c36e_11 : decode cJ3_checkFromIndexSize_8c36e 11 = .ok (.isub, 1) := by decide +kernel
theorem dJ3_checkFromIndexSize_8c36e_12 : decode cJ3_checkFromIndexSize_8c36e 12 = .ok (.if_icmp .le 11, 3) := by decide +kernel
theorem dJ3_checkFromIndexSize_8c36e_15 : decode cJ3_checkFromIndexSize_8c36e 15 = .ok (.aload_n 3, 1) := by decide +kernel
theorem dJ3_checkFromIndexSize_8c36e_16 : decode cJ3_checkFromIndexSize_8c36e 16 = .ok (.iload_n 0, 1) := by decide +kernel
theorem dJ3_checkFromIndexSize_8c36e_17 : decode cJ3_checkFromIndexSize_8c36e 17 = .ok (.iload_n 1, 1) := by decide +kernel
theorem dJ3_checkFromIndexSize_8c36e_18 : decode cJ3_checkFromIndexSize_8c36e 18 = .ok (.iload_n 2, 1) := by decide +kernel
theorem dJ3_checkFromIndexSize_8c36e_19 : decode cJ3_checkFromIndexSize_8c36e 19 = .ok (.invokestatic 103, 3) := by decide +kernel
theorem dJ3_checkFromIndexSize_8c36e_22 : decode cJ3_checkFromIndexSize_8c36e 22 = .ok (.athrow, 1) := by decide +kernel
theorem dJ3_checkFromIndexSize_8c36e_23 : decode cJ3_checkFromIndexSize_8c36e 23 = .ok (.iload_n 0, 1) := by decide +kernel
theorem dJ3_checkFromIndexSize_8c36e_24 : decode cJ3_checkFromIndexSize_8c36e 24 = .ok (.ireturn, 1) := by decide +kernel
theorem dL_cell_0 : decode cL_cell 0 = .ok (.ldc 7, 2) := by decide +kernel
theorem dL_cell_2 : decode cL_cell 2 = .ok (.iload_n 1, 1) := by decide +kernel
theorem dL_cell_3 : decode cL_cell 3 = .ok (.aload_n 0, 1) := by decide +kernel
theorem dL_cell_4 : decode cL_cell 4 = .ok (.arraylength, 1) := by decide +kernel
theorem dL_cell_5 : decode cL_cell 5 = .ok (.if_icmp .ge 9, 3) := by decide +kernel
theorem dL_cell_8 : decode cL_cell 8 = .ok (.aload_n 0, 1) := by decide +kernel
theorem dL_cell_9 : decode cL_cell 9 = .ok (.iload_n 1, 1) := by decide +kernel
theorem dL_cell_10 : decode cL_cell 10 = .ok (.iaload, 1) := by decide +kernel
theorem dL_cell_11 : decode cL_cell 11 = .ok (.goto 4, 3) := by decide +kernel
theorem dL_cell_14 : decode cL_cell 14 = .ok (.iconst 0, 1) := by decide +kernel
theorem dL_cell_15 : decode cL_cell 15 = .ok (.sipush 1009, 3) := by decide +kernel
theorem dL_cell_18 : decode cL_cell 18 = .ok (.iload_n 1, 1) := by decide +kernel
theorem dL_cell_19 : decode cL_cell 19 = .ok (.imul, 1) := by decide +kernel
theorem dL_cell_20 : decode cL_cell 20 = .ok (.iadd, 1) := by decide +kernel
theorem dL_cell_21 : decode cL_cell 21 = .ok (.imul, 1) := by decide +kernel
theorem dL_cell_22 : decode cL_cell 22 = .ok (.sipush 12345, 3) := by decide +kernel
theorem dL_cell_25 : decode cL_cell 25 = .ok (.iadd, 1) := by decide +kernel
theorem dL_cell_26 : decode cL_cell 26 = .ok (.istore_n 2, 1) := by decide +kernel
theorem dL_cell_27 : decode cL_cell 27 = .ok (.iload_n 2, 1) := by decide +kernel
theorem dL_cell_28 : decode cL_cell 28 = .ok (.iload_n 2, 1) := by decide +kernel
theorem dL_cell_29 : decode cL_cell 29 = .ok (.bipush 13, 2) := by decide +kernel
theorem dL_cell_31 : decode cL_cell 31 = .ok (.iushr, 1) := by decide +kernel
theorem dL_cell_32 : decode cL_cell 32 = .ok (.ixor, 1) := by decide +kernel
theorem dL_cell_33 : decode cL_cell 33 = .ok (.ldc 8, 2) := by decide +kernel
theorem dL_cell_35 : decode cL_cell 35 = .ok (.imul, 1) := by decide +kernel
theorem dL_cell_36 : decode cL_cell 36 = .ok (.istore_n 2, 1) := by decide +kernel
theorem dL_cell_37 : decode cL_cell 37 = .ok (.iload_n 2, 1) := by decide +kernel
theorem dL_cell_38 : decode cL_cell 38 = .ok (.iload_n 2, 1) := by decide +kernel
theorem dL_cell_39 : decode cL_cell 39 = .ok (.bipush 16, 2) := by decide +kernel
theorem dL_cell_41 : decode cL_cell 41 = .ok (.iushr, 1) := by decide +kernel
theorem dL_cell_42 : decode cL_cell 42 = .ok (.ixor, 1) := by decide +kernel
theorem dL_cell_43 : decode cL_cell 43 = .ok (.ireturn, 1) := by decide +kernel
theorem dL_pick_0 : decode cL_pick 0 = .ok (.aload_n 0, 1) := by decide +kernel
theorem dL_pick_1 : decode cL_pick 1 = .ok (.iload_n 1, 1) := by decide +kernel
theorem dL_pick_2 : decode cL_pick 2 = .ok (.invokestatic 9, 3) := by decide +kernel
theorem dL_pick_5 : decode cL_pick 5 = .ok (.bipush 8, 2) := by decide +kernel
theorem dL_pick_7 : decode cL_pick 7 = .ok (.iushr, 1) := by decide +kernel
theorem dL_pick_8 : decode cL_pick 8 = .ok (.iload_n 2, 1) := by decide +kernel
theorem dL_pick_9 : decode cL_pick 9 = .ok (.irem, 1) := by decide +kernel
theorem dL_pick_10 : decode cL_pick 10 = .ok (.ireturn, 1) := by decide +kernel
theorem dL_told_0 : decode cL_told 0 = .ok (.iload_n 0, 1) := by decide +kernel
theorem dL_told_1 : decode cL_told 1 = .ok (.ifCond .eq 7, 3) := by decide +kernel
theorem dL_told_4 : decode cL_told 4 = .ok (.iconst 1, 1) := by decide +kernel
theorem dL_told_5 : decode cL_told 5 = .ok (.goto 4, 3) := by decide +kernel
theorem dL_told_8 : decode cL_told 8 = .ok (.iconst 0, 1) := by decide +kernel
theorem dL_told_9 : decode cL_told 9 = .ok (.ireturn, 1) := by decide +kernel
theorem dL_plain_0 : decode cL_plain 0 = .ok (.iload_n 1, 1) := by decide +kernel
theorem dL_plain_1 : decode cL_plain 1 = .ok (.tableswitch 154 0 10 #[59, 68, 77, 84, 91, 98, 105, 118, 131, 138, 145], 59) := by decide +kernel
theorem dL_plain_60 : decode cL_plain 60 = .ok (.aload_n 0, 1) := by decide +kernel
theorem dL_plain_61 : decode cL_plain 61 = .ok (.iload_n 2, 1) := by decide +kernel
theorem dL_plain_62 : decode cL_plain 62 = .ok (.iload_n 3, 1) := by decide +kernel
theorem dL_plain_63 : decode cL_plain 63 = .ok (.iload 4, 2) := by decide +kernel
theorem dL_plain_65 : decode cL_plain 65 = .ok (.invokevirtual 15, 3) := by decide +kernel
theorem dL_plain_68 : decode cL_plain 68 = .ok (.ireturn, 1) := by decide +kernel
theorem dL_plain_69 : decode cL_plain 69 = .ok (.aload_n 0, 1) := by decide +kernel
theorem dL_plain_70 : decode cL_plain 70 = .ok (.iload_n 2, 1) := by decide +kernel
theorem dL_plain_71 : decode cL_plain 71 = .ok (.iload_n 3, 1) := by decide +kernel
theorem dL_plain_72 : decode cL_plain 72 = .ok (.iload 4, 2) := by decide +kernel
theorem dL_plain_74 : decode cL_plain 74 = .ok (.invokevirtual 21, 3) := by decide +kernel
theorem dL_plain_77 : decode cL_plain 77 = .ok (.ireturn, 1) := by decide +kernel
theorem dL_plain_78 : decode cL_plain 78 = .ok (.aload_n 0, 1) := by decide +kernel
theorem dL_plain_79 : decode cL_plain 79 = .ok (.iload_n 2, 1) := by decide +kernel
theorem dL_plain_80 : decode cL_plain 80 = .ok (.iload_n 3, 1) := by decide +kernel
theorem dL_plain_81 : decode cL_plain 81 = .ok (.invokevirtual 24, 3) := by decide +kernel
theorem dL_plain_84 : decode cL_plain 84 = .ok (.ireturn, 1) := by decide +kernel
theorem dL_plain_85 : decode cL_plain 85 = .ok (.aload_n 0, 1) := by decide +kernel
theorem dL_plain_86 : decode cL_plain 86 = .ok (.iload_n 2, 1) := by decide +kernel
theorem dL_plain_87 : decode cL_plain 87 = .ok (.iload_n 3, 1) := by decide +kernel
theorem dL_plain_88 : decode cL_plain 88 = .ok (.invokevirtual 28, 3) := by decide +kernel
theorem dL_plain_91 : decode cL_plain 91 = .ok (.ireturn, 1) := by decide +kernel
theorem dL_plain_92 : decode cL_plain 92 = .ok (.aload_n 0, 1) := by decide +kernel
theorem dL_plain_93 : decode cL_plain 93 = .ok (.iload_n 2, 1) := by decide +kernel
theorem dL_plain_94 : decode cL_plain 94 = .ok (.iload_n 3, 1) := by decide +kernel
theorem dL_plain_95 : decode cL_plain 95 = .ok (.invokevirtual 31, 3) := by decide +kernel
theorem dL_plain_98 : decode cL_plain 98 = .ok (.ireturn, 1) := by decide +kernel
theorem dL_plain_99 : decode cL_plain 99 = .ok (.aload_n 0, 1) := by decide +kernel
theorem dL_plain_100 : decode cL_plain 100 = .ok (.iload_n 2, 1) := by decide +kernel
theorem dL_plain_101 : decode cL_plain 101 = .ok (.iload_n 3, 1) := by decide +kernel
theorem dL_plain_102 : decode cL_plain 102 = .ok (.invokevirtual 34, 3) := by decide +kernel
theorem dL_plain_105 : decode cL_plain 105 = .ok (.ireturn, 1) := by decide +kernel
theorem dL_plain_106 : decode cL_plain 106 = .ok (.aload_n 0, 1) := by decide +kernel
theorem dL_plain_107 : decode cL_plain 107 = .ok (.bipush 97, 2) := by decide +kernel
theorem dL_plain_109 : decode cL_plain 109 = .ok (.iload 4, 2) := by decide +kernel
theorem dL_plain_111 : decode cL_plain 111 = .ok (.iadd, 1) := by decide +kernel
theorem dL_plain_112 : decode cL_plain 112 = .ok (.i2c, 1) := by decide +kernel
theorem dL_plain_113 : decode cL_plain 113 = .ok (.iload_n 2, 1) := by decide +kernel
theorem dL_plain_114 : decode cL_plain 114 = .ok (.iload_n 3, 1) := by decide +kernel
theorem dL_plain_115 : decode cL_plain 115 = .ok (.invokevirtual 37, 3) := by decide +kernel
theorem dL_plain_118 : decode cL_plain 118 = .ok (.ireturn, 1) := by decide +kernel
theorem dL_plain_119 : decode cL_plain 119 = .ok (.aload_n 0, 1) := by decide +kernel
theorem dL_plain_120 : decode cL_plain 120 = .ok (.iload_n 2, 1) := by decide +kernel
theorem dL_plain_121 : decode cL_plain 121 = .ok (.iload_n 3, 1) := by decide +kernel
theorem dL_plain_122 : decode cL_plain 122 = .ok (.bipush 97, 2) := by decide +kernel
theorem dL_plain_124 : decode cL_plain 124 = .ok (.iload 4, 2) := by decide +kernel
theorem dL_plain_126 : decode cL_plain 126 = .ok (.iadd, 1) := by decide +kernel
theorem dL_plain_127 : decode cL_plain 127 = .ok (.i2c, 1) := by decide +kernel
theorem dL_plain_128 : decode cL_plain 128 = .ok (.invokevirtual 41, 3) := by decide +kernel
theorem dL_plain_131 : decode cL_plain 131 = .ok (.ireturn, 1) := by decide +kernel
theorem dL_plain_132 : decode cL_plain 132 = .ok (.aload_n 0, 1) := by decide +kernel
theorem dL_plain_133 : decode cL_plain 133 = .ok (.iload_n 2, 1) := by decide +kernel
theorem dL_plain_134 : decode cL_plain 134 = .ok (.iload_n 3, 1) := by decide +kernel
theorem dL_plain_135 : decode cL_plain 135 = .ok (.invokevirtual 45, 3) := by decide +kernel
theorem dL_plain_138 : decode cL_plain 138 = .ok (.ireturn, 1) := by decide +kernel
theorem dL_plain_139 : decode cL_plain 139 = .ok (.aload_n 0, 1) := by decide +kernel
theorem dL_plain_140 : decode cL_plain 140 = .ok (.iload_n 2, 1) := by decide +kernel
theorem dL_plain_141 : decode cL_plain 141 = .ok (.iload_n 3, 1) := by decide +kernel
theorem dL_plain_142 : decode cL_plain 142 = .ok (.invokevirtual 49, 3) := by decide +kernel
theorem dL_plain_145 : decode cL_plain 145 = .ok (.ireturn, 1) := by decide +kernel
theorem dL_plain_146 : decode cL_plain 146 = .ok (.aload_n 0, 1) := by decide +kernel
theorem dL_plain_147 : decode cL_plain 147 = .ok (.iload 4, 2) := by decide +kernel
theorem dL_plain_149 : decode cL_plain 149 = .ok (.iload_n 2, 1) := by decide +kernel
theorem dL_plain_150 : decode cL_plain 150 = .ok (.iload_n 3, 1) := by decide +kernel
theorem dL_plain_151 : decode cL_plain 151 = .ok (.invokevirtual 52, 3) := by decide +kernel
theorem dL_plain_154 : decode cL_plain 154 = .ok (.ireturn, 1) := by decide +kernel
theorem dL_plain_155 : decode cL_plain 155 = .ok (.aload_n 0, 1) := by decide +kernel
theorem dL_plain_156 : decode cL_plain 156 = .ok (.invokevirtual 55, 3) := by decide +kernel
theorem dL_plain_159 : decode cL_plain 159 = .ok (.ireturn, 1) := by decide +kernel
theorem dL_deed_0 : decode cL_deed 0 = .ok (.aload_n 0, 1) := by decide +kernel
theorem dL_deed_1 : decode cL_deed 1 = .ok (.iload_n 1, 1) := by decide +kernel
theorem dL_deed_2 : decode cL_deed 2 = .ok (.iload_n 2, 1) := by decide +kernel
theorem dL_deed_3 : decode cL_deed 3 = .ok (.iload_n 3, 1) := by decide +kernel
theorem dL_deed_4 : decode cL_deed 4 = .ok (.iload 4, 2) := by decide +kernel
theorem dL_deed_6 : decode cL_deed 6 = .ok (.invokestatic 59, 3) := by decide +kernel
theorem dL_deed_9 : decode cL_deed 9 = .ok (.ireturn, 1) := by decide +kernel
theorem dL_deed_10 : decode cL_deed 10 = .ok (.astore 5, 2) := by decide +kernel
theorem dL_deed_12 : decode cL_deed 12 = .ok (.sipush (-2002), 3) := by decide +kernel
theorem dL_deed_15 : decode cL_deed 15 = .ok (.ireturn, 1) := by decide +kernel
theorem dL_deed_16 : decode cL_deed 16 = .ok (.astore 5, 2) := by decide +kernel
theorem dL_deed_18 : decode cL_deed 18 = .ok (.sipush (-2003), 3) := by decide +kernel
theorem dL_deed_21 : decode cL_deed 21 = .ok (.ireturn, 1) := by decide +kernel
theorem dL_deed_22 : decode cL_deed 22 = .ok (.astore 5, 2) := by decide +kernel
theorem dL_deed_24 : decode cL_deed 24 = .ok (.sipush (-2005), 3) := by decide +kernel
theorem dL_deed_27 : decode cL_deed 27 = .ok (.ireturn, 1) := by decide +kernel
theorem dL_deed_28 : decode cL_deed 28 = .ok (.astore 5, 2) := by decide +kernel
theorem dL_deed_30 : decode cL_deed 30 = .ok (.sipush (-2001), 3) := by decide +kernel
theorem dL_deed_33 : decode cL_deed 33 = .ok (.ireturn, 1) := by decide +kernel
theorem dL_deed_34 : decode cL_deed 34 = .ok (.astore 5, 2) := by decide +kernel
theorem dL_deed_36 : decode cL_deed 36 = .ok (.sipush (-2004), 3) := by decide +kernel
theorem dL_deed_39 : decode cL_deed 39 = .ok (.ireturn, 1) := by decide +kernel
theorem dL_asked_0 : decode cL_asked 0 = .ok (.iload_n 1, 1) := by decide +kernel
theorem dL_asked_1 : decode cL_asked 1 = .ok (.tableswitch 183 0 12 #[67, 74, 81, 93, 115, 125, 134, 143, 152, 158, 167, 172, 177], 67) := by decide +kernel
theorem dL_asked_68 : decode cL_asked 68 = .ok (.aload_n 0, 1) := by decide +kernel
theorem dL_asked_69 : decode cL_asked 69 = .ok (.iload_n 2, 1) := by decide +kernel
theorem dL_asked_70 : decode cL_asked 70 = .ok (.iload_n 3, 1) := by decide +kernel
theorem dL_asked_71 : decode cL_asked 71 = .ok (.invokevirtual 73, 3) := by decide +kernel
theorem dL_asked_74 : decode cL_asked 74 = .ok (.ireturn, 1) := by decide +kernel
theorem dL_asked_75 : decode cL_asked 75 = .ok (.aload_n 0, 1) := by decide +kernel
theorem dL_asked_76 : decode cL_asked 76 = .ok (.iload_n 2, 1) := by decide +kernel
theorem dL_asked_77 : decode cL_asked 77 = .ok (.iload_n 3, 1) := by decide +kernel
theorem dL_asked_78 : decode cL_asked 78 = .ok (.invokevirtual 76, 3) := by decide +kernel
theorem dL_asked_81 : decode cL_asked 81 = .ok (.ireturn, 1) := by decide +kernel
theorem dL_asked_82 : decode cL_asked 82 = .ok (.aload_n 0, 1) := by decide +kernel
theorem dL_asked_83 : decode cL_asked 83 = .ok (.iload_n 2, 1) := by decide +kernel
theorem dL_asked_84 : decode cL_asked 84 = .ok (.iload_n 3, 1) := by decide +kernel
theorem dL_asked_85 : decode cL_asked 85 = .ok (.iload 4, 2) := by decide +kernel
theorem dL_asked_87 : decode cL_asked 87 = .ok (.invokevirtual 79, 3) := by decide +kernel
theorem dL_asked_90 : decode cL_asked 90 = .ok (.invokestatic 83, 3) := by decide +kernel
theorem dL_asked_93 : decode cL_asked 93 = .ok (.ireturn, 1) := by decide +kernel
theorem dL_asked_94 : decode cL_asked 94 = .ok (.aload_n 0, 1) := by decide +kernel
theorem dL_asked_95 : decode cL_asked 95 = .ok (.bipush 97, 2) := by decide +kernel
theorem dL_asked_97 : decode cL_asked 97 = .ok (.iload_n 2, 1) := by decide +kernel
theorem dL_asked_98 : decode cL_asked 98 = .ok (.iadd, 1) := by decide +kernel
theorem dL_asked_99 : decode cL_asked 99 = .ok (.i2c, 1) := by decide +kernel
theorem dL_asked_100 : decode cL_asked 100 = .ok (.invokevirtual 87, 3) := by decide +kernel
theorem dL_asked_103 : decode cL_asked 103 = .ok (.iconst 5, 1) := by decide +kernel
theorem dL_asked_104 : decode cL_asked 104 = .ok (.imul, 1) := by decide +kernel
theorem dL_asked_105 : decode cL_asked 105 = .ok (.aload_n 0, 1) := by decide +kernel
theorem dL_asked_106 : decode cL_asked 106 = .ok (.bipush 97, 2) := by decide +kernel
theorem dL_asked_108 : decode cL_asked 108 = .ok (.iload_n 2, 1) := by decide +kernel
theorem dL_asked_109 : decode cL_asked 109 = .ok (.iadd, 1) := by decide +kernel
theorem dL_asked_110 : decode cL_asked 110 = .ok (.i2c, 1) := by decide +kernel
theorem dL_asked_111 : decode cL_asked 111 = .ok (.invokevirtual 91, 3) := by decide +kernel
theorem dL_asked_114 : decode cL_asked 114 = .ok (.iadd, 1) := by decide +kernel
theorem dL_asked_115 : decode cL_asked 115 = .ok (.ireturn, 1) := by decide +kernel
theorem dL_asked_116 : decode cL_asked 116 = .ok (.aload_n 0, 1) := by decide +kernel
theorem dL_asked_117 : decode cL_asked 117 = .ok (.bipush 97, 2) := by decide +kernel
theorem dL_asked_119 : decode cL_asked 119 = .ok (.iload_n 2, 1) := by decide +kernel
theorem dL_asked_120 : decode cL_asked 120 = .ok (.iadd, 1) := by decide +kernel
theorem dL_asked_121 : decode cL_asked 121 = .ok (.i2c, 1) := by decide +kernel
theorem dL_asked_122 : decode cL_asked 122 = .ok (.invokevirtual 94, 3) := by decide +kernel
theorem dL_asked_125 : decode cL_asked 125 = .ok (.ireturn, 1) := by decide +kernel
theorem dL_asked_126 : decode cL_asked 126 = .ok (.aload_n 0, 1) := by decide +kernel
theorem dL_asked_127 : decode cL_asked 127 = .ok (.iload 4, 2) := by decide +kernel
theorem dL_asked_129 : decode cL_asked 129 = .ok (.iload_n 2, 1) := by decide +kernel
theorem dL_asked_130 : decode cL_asked 130 = .ok (.iload_n 3, 1) := by decide +kernel
theorem dL_asked_131 : decode cL_asked 131 = .ok (.invokevirtual 97, 3) := by decide +kernel
theorem dL_asked_134 : decode cL_asked 134 = .ok (.ireturn, 1) := by decide +kernel
theorem dL_asked_135 : decode cL_asked 135 = .ok (.aload_n 0, 1) := by decide +kernel
theorem dL_asked_136 : decode cL_asked 136 = .ok (.iload 4, 2) := by decide +kernel
theorem dL_asked_138 : decode cL_asked 138 = .ok (.iload_n 2, 1) := by decide +kernel
theorem dL_asked_139 : decode cL_asked 139 = .ok (.iload_n 3, 1) := by decide +kernel
theorem dL_asked_140 : decode cL_asked 140 = .ok (.invokevirtual 100, 3) := by decide +kernel
theorem dL_asked_143 : decode cL_asked 143 = .ok (.ireturn, 1) := by decide +kernel
theorem dL_asked_144 : decode cL_asked 144 = .ok (.aload_n 0, 1) := by decide +kernel
theorem dL_asked_145 : decode cL_asked 145 = .ok (.iload 4, 2) := by decide +kernel
theorem dL_asked_147 : decode cL_asked 147 = .ok (.iload_n 2, 1) := by decide +kernel
theorem dL_asked_148 : decode cL_asked 148 = .ok (.iload_n 3, 1) := by decide +kernel
theorem dL_asked_149 : decode cL_asked 149 = .ok (.invokevirtual 103, 3) := by decide +kernel
theorem dL_asked_152 : decode cL_asked 152 = .ok (.ireturn, 1) := by decide +kernel
theorem dL_asked_153 : decode cL_asked 153 = .ok (.aload_n 0, 1) := by decide +kernel
theorem dL_asked_154 : decode cL_asked 154 = .ok (.iload_n 2, 1) := by decide +kernel
theorem dL_asked_155 : decode cL_asked 155 = .ok (.invokevirtual 106, 3) := by decide +kernel
theorem dL_asked_158 : decode cL_asked 158 = .ok (.ireturn, 1) := by decide +kernel
theorem dL_asked_159 : decode cL_asked 159 = .ok (.aload_n 0, 1) := by decide +kernel
theorem dL_asked_160 : decode cL_asked 160 = .ok (.iload 4, 2) := by decide +kernel
theorem dL_asked_162 : decode cL_asked 162 = .ok (.iload_n 2, 1) := by decide +kernel
theorem dL_asked_163 : decode cL_asked 163 = .ok (.iload_n 3, 1) := by decide +kernel
theorem dL_asked_164 : decode cL_asked 164 = .ok (.invokevirtual 110, 3) := by decide +kernel
theorem dL_asked_167 : decode cL_asked 167 = .ok (.ireturn, 1) := by decide +kernel
theorem dL_asked_168 : decode cL_asked 168 = .ok (.aload_n 0, 1) := by decide +kernel
theorem dL_asked_169 : decode cL_asked 169 = .ok (.invokevirtual 113, 3) := by decide +kernel
theorem dL_asked_172 : decode cL_asked 172 = .ok (.ireturn, 1) := by decide +kernel
theorem dL_asked_173 : decode cL_asked 173 = .ok (.aload_n 0, 1) := by decide +kernel
theorem dL_asked_174 : decode cL_asked 174 = .ok (.invokevirtual 116, 3) := by decide +kernel
theorem dL_asked_177 : decode cL_asked 177 = .ok (.ireturn, 1) := by decide +kernel
theorem dL_asked_178 : decode cL_asked 178 = .ok (.aload_n 0, 1) := by decide +kernel
theorem dL_asked_179 : decode cL_asked 179 = .ok (.iload_n 2, 1) := by decide +kernel
theorem dL_asked_180 : decode cL_asked 180 = .ok (.invokevirtual 119, 3) := by decide +kernel
theorem dL_asked_183 : decode cL_asked 183 = .ok (.ireturn, 1) := by decide +kernel
theorem dL_asked_184 : decode cL_asked 184 = .ok (.aload_n 0, 1) := by decide +kernel
theorem dL_asked_185 : decode cL_asked 185 = .ok (.iload_n 2, 1) := by decide +kernel
theorem dL_asked_186 : decode cL_asked 186 = .ok (.invokevirtual 123, 3) := by decide +kernel
theorem dL_asked_189 : decode cL_asked 189 = .ok (.invokestatic 83, 3) := by decide +kernel
theorem dL_asked_192 : decode cL_asked 192 = .ok (.iconst 2, 1) := by decide +kernel
theorem dL_asked_193 : decode cL_asked 193 = .ok (.aload_n 0, 1) := by decide +kernel
theorem dL_asked_194 : decode cL_asked 194 = .ok (.iload_n 2, 1) := by decide +kernel
theorem dL_asked_195 : decode cL_asked 195 = .ok (.invokevirtual 127, 3) := by decide +kernel
theorem dL_asked_198 : decode cL_asked 198 = .ok (.invokestatic 83, 3) := by decide +kernel
theorem dL_asked_201 : decode cL_asked 201 = .ok (.imul, 1) := by decide +kernel
theorem dL_asked_202 : decode cL_asked 202 = .ok (.iadd, 1) := by decide +kernel
theorem dL_asked_203 : decode cL_asked 203 = .ok (.ireturn, 1) := by decide +kernel
theorem dL_ask_0 : decode cL_ask 0 = .ok (.aload_n 0, 1) := by decide +kernel
theorem dL_ask_1 : decode cL_ask 1 = .ok (.iload_n 1, 1) := by decide +kernel
theorem dL_ask_2 : decode cL_ask 2 = .ok (.iload_n 2, 1) := by decide +kernel
theorem dL_ask_3 : decode cL_ask 3 = .ok (.iload_n 3, 1) := by decide +kernel
theorem dL_ask_4 : decode cL_ask 4 = .ok (.iload 4, 2) := by decide +kernel
theorem dL_ask_6 : decode cL_ask 6 = .ok (.invokestatic 130, 3) := by decide +kernel
theorem dL_ask_9 : decode cL_ask 9 = .ok (.ireturn, 1) := by decide +kernel
theorem dL_ask_10 : decode cL_ask 10 = .ok (.astore 5, 2) := by decide +kernel
theorem dL_ask_12 : decode cL_ask 12 = .ok (.sipush (-2002), 3) := by decide +kernel
theorem dL_ask_15 : decode cL_ask 15 = .ok (.ireturn, 1) := by decide +kernel
theorem dL_ask_16 : decode cL_ask 16 = .ok (.astore 5, 2) := by decide +kernel
theorem dL_ask_18 : decode cL_ask 18 = .ok (.sipush (-2003), 3) := by decide +kernel
theorem dL_ask_21 : decode cL_ask 21 = .ok (.ireturn, 1) := by decide +kernel
theorem dL_ask_22 : decode cL_ask 22 = .ok (.astore 5, 2) := by decide +kernel
theorem dL_ask_24 : decode cL_ask 24 = .ok (.sipush (-2004), 3) := by decide +kernel
theorem dL_ask_27 : decode cL_ask 27 = .ok (.ireturn, 1) := by decide +kernel
theorem dL_tile_0 : decode cL_tile 0 = .ok (.aload_n 0, 1) := by decide +kernel
theorem dL_tile_1 : decode cL_tile 1 = .ok (.iload_n 1, 1) := by decide +kernel
theorem dL_tile_2 : decode cL_tile 2 = .ok (.iconst 3, 1) := by decide +kernel
theorem dL_tile_3 : decode cL_tile 3 = .ok (.invokestatic 133, 3) := by decide +kernel
theorem dL_tile_6 : decode cL_tile 6 = .ok (.ifCond .ne 8, 3) := by decide +kernel
theorem dL_tile_9 : decode cL_tile 9 = .ok (.bipush 15, 2) := by decide +kernel
theorem dL_tile_11 : decode cL_tile 11 = .ok (.goto 39, 3) := by decide +kernel
theorem dL_tile_14 : decode cL_tile 14 = .ok (.aload_n 0, 1) := by decide +kernel
theorem dL_tile_15 : decode cL_tile 15 = .ok (.iload_n 1, 1) := by decide +kernel
theorem dL_tile_16 : decode cL_tile 16 = .ok (.iconst 2, 1) := by decide +kernel
theorem dL_tile_17 : decode cL_tile 17 = .ok (.invokestatic 133, 3) := by decide +kernel
theorem dL_tile_20 : decode cL_tile 20 = .ok (.ifCond .ne 21, 3) := by decide +kernel
theorem dL_tile_23 : decode cL_tile 23 = .ok (.bipush 15, 2) := by decide +kernel
theorem dL_tile_25 : decode cL_tile 25 = .ok (.iconst 1, 1) := by decide +kernel
theorem dL_tile_26 : decode cL_tile 26 = .ok (.aload_n 0, 1) := by decide +kernel
theorem dL_tile_27 : decode cL_tile 27 = .ok (.iload_n 1, 1) := by decide +kernel
theorem dL_tile_28 : decode cL_tile 28 = .ok (.iconst 1, 1) := by decide +kernel
theorem dL_tile_29 : decode cL_tile 29 = .ok (.iadd, 1) := by decide +kernel
theorem dL_tile_30 : decode cL_tile 30 = .ok (.iconst 4, 1) := by decide +kernel
theorem dL_tile_31 : decode cL_tile 31 = .ok (.invokestatic 133, 3) := by decide +kernel
theorem dL_tile_34 : decode cL_tile 34 = .ok (.ishl, 1) := by decide +kernel
theorem dL_tile_35 : decode cL_tile 35 = .ok (.iconst (-1), 1) := by decide +kernel
theorem dL_tile_36 : decode cL_tile 36 = .ok (.ixor, 1) := by decide +kernel
theorem dL_tile_37 : decode cL_tile 37 = .ok (.iand, 1) := by decide +kernel
theorem dL_tile_38 : decode cL_tile 38 = .ok (.goto 12, 3) := by decide +kernel
theorem dL_tile_41 : decode cL_tile 41 = .ok (.aload_n 0, 1) := by decide +kernel
theorem dL_tile_42 : decode cL_tile 42 = .ok (.iload_n 1, 1) := by decide +kernel
theorem dL_tile_43 : decode cL_tile 43 = .ok (.iconst 1, 1) := by decide +kernel
theorem dL_tile_44 : decode cL_tile 44 = .ok (.iadd, 1) := by decide +kernel
theorem dL_tile_45 : decode cL_tile 45 = .ok (.bipush 16, 2) := by decide +kernel
theorem dL_tile_47 : decode cL_tile 47 = .ok (.invokestatic 133, 3) := by decide +kernel
theorem dL_tile_50 : decode cL_tile 50 = .ok (.ireturn, 1) := by decide +kernel
theorem dL_lay_0 : decode cL_lay 0 = .ok (.iconst 0, 1) := by decide +kernel
theorem dL_lay_1 : decode cL_lay 1 = .ok (.istore_n 2, 1) := by decide +kernel
theorem dL_lay_2 : decode cL_lay 2 = .ok (.iconst 0, 1) := by decide +kernel
theorem dL_lay_3 : decode cL_lay 3 = .ok (.istore_n 3, 1) := by decide +kernel
theorem dL_lay_4 : decode cL_lay 4 = .ok (.iload_n 3, 1) := by decide +kernel
theorem dL_lay_5 : decode cL_lay 5 = .ok (.bipush 25, 2) := by decide +kernel
theorem dL_lay_7 : decode cL_lay 7 = .ok (.if_icmp .ge 34, 3) := by decide +kernel
theorem dL_lay_10 : decode cL_lay 10 = .ok (.iload_n 2, 1) := by decide +kernel
theorem dL_lay_11 : decode cL_lay 11 = .ok (.aload_n 0, 1) := by decide +kernel
theorem dL_lay_12 : decode cL_lay 12 = .ok (.iconst 0, 1) := by decide +kernel
theorem dL_lay_13 : decode cL_lay 13 = .ok (.iload_n 3, 1) := by decide +kernel
theorem dL_lay_14 : decode cL_lay 14 = .ok (.iconst 5, 1) := by decide +kernel
theorem dL_lay_15 : decode cL_lay 15 = .ok (.idiv, 1) := by decide +kernel
theorem dL_lay_16 : decode cL_lay 16 = .ok (.iload_n 3, 1) := by decide +kernel
theorem dL_lay_17 : decode cL_lay 17 = .ok (.iconst 5, 1) := by decide +kernel
theorem dL_lay_18 : decode cL_lay 18 = .ok (.irem, 1) := by decide +kernel
theorem dL_lay_19 : decode cL_lay 19 = .ok (.aload_n 1, 1) := by decide +kernel
theorem dL_lay_20 : decode cL_lay 20 = .ok (.sipush 400, 3) := by decide +kernel
theorem dL_lay_23 : decode cL_lay 23 = .ok (.iconst 2, 1) := by decide +kernel
theorem dL_lay_24 : decode cL_lay 24 = .ok (.iload_n 3, 1) := by decide +kernel
theorem dL_lay_25 : decode cL_lay 25 = .ok (.imul, 1) := by decide +kernel
theorem dL_lay_26 : decode cL_lay 26 = .ok (.iadd, 1) := by decide +kernel
theorem dL_lay_27 : decode cL_lay 27 = .ok (.invokestatic 137, 3) := by decide +kernel
theorem dL_lay_30 : decode cL_lay 30 = .ok (.invokestatic 140, 3) := by decide +kernel
theorem dL_lay_33 : decode cL_lay 33 = .ok (.iadd, 1) := by decide +kernel
theorem dL_lay_34 : decode cL_lay 34 = .ok (.istore_n 2, 1) := by decide +kernel
theorem dL_lay_35 : decode cL_lay 35 = .ok (.iinc 3 1, 3) := by decide +kernel
theorem dL_lay_38 : decode cL_lay 38 = .ok (.goto (-34), 3) := by decide +kernel
theorem dL_lay_41 : decode cL_lay 41 = .ok (.iconst 0, 1) := by decide +kernel
theorem dL_lay_42 : decode cL_lay 42 = .ok (.istore_n 3, 1) := by decide +kernel
theorem dL_lay_43 : decode cL_lay 43 = .ok (.iload_n 3, 1) := by decide +kernel
theorem dL_lay_44 : decode cL_lay 44 = .ok (.aload_n 1, 1) := by decide +kernel
theorem dL_lay_45 : decode cL_lay 45 = .ok (.iconst 0, 1) := by decide +kernel
theorem dL_lay_46 : decode cL_lay 46 = .ok (.iconst 4, 1) := by decide +kernel
theorem dL_lay_47 : decode cL_lay 47 = .ok (.invokestatic 133, 3) := by decide +kernel
theorem dL_lay_50 : decode cL_lay 50 = .ok (.if_icmp .ge 37, 3) := by decide +kernel
theorem dL_lay_53 : decode cL_lay 53 = .ok (.iload_n 2, 1) := by decide +kernel
theorem dL_lay_54 : decode cL_lay 54 = .ok (.aload_n 0, 1) := by decide +kernel
theorem dL_lay_55 : decode cL_lay 55 = .ok (.bipush 9, 2) := by decide +kernel
theorem dL_lay_57 : decode cL_lay 57 = .ok (.aload_n 1, 1) := by decide +kernel
theorem dL_lay_58 : decode cL_lay 58 = .ok (.bipush 11, 2) := by decide +kernel
theorem dL_lay_60 : decode cL_lay 60 = .ok (.iload_n 3, 1) := by decide +kernel
theorem dL_lay_61 : decode cL_lay 61 = .ok (.iadd, 1) := by decide +kernel
theorem dL_lay_62 : decode cL_lay 62 = .ok (.iconst 5, 1) := by decide +kernel
theorem dL_lay_63 : decode cL_lay 63 = .ok (.invokestatic 133, 3) := by decide +kernel
theorem dL_lay_66 : decode cL_lay 66 = .ok (.aload_n 1, 1) := by decide +kernel
theorem dL_lay_67 : decode cL_lay 67 = .ok (.bipush 21, 2) := by decide +kernel
theorem dL_lay_69 : decode cL_lay 69 = .ok (.iload_n 3, 1) := by decide +kernel
theorem dL_lay_70 : decode cL_lay 70 = .ok (.iadd, 1) := by decide +kernel
theorem dL_lay_71 : decode cL_lay 71 = .ok (.iconst 5, 1) := by decide +kernel
theorem dL_lay_72 : decode cL_lay 72 = .ok (.invokestatic 133, 3) := by decide +kernel
theorem dL_lay_75 : decode cL_lay 75 = .ok (.iconst 0, 1) := by decide +kernel
theorem dL_lay_76 : decode cL_lay 76 = .ok (.invokestatic 140, 3) := by decide +kernel
theorem dL_lay_79 : decode cL_lay 79 = .ok (.iadd, 1) := by decide +kernel
theorem dL_lay_80 : decode cL_lay 80 = .ok (.istore_n 2, 1) := by decide +kernel
theorem dL_lay_81 : decode cL_lay 81 = .ok (.iinc 3 1, 3) := by decide +kernel
theorem dL_lay_84 : decode cL_lay 84 = .ok (.goto (-41), 3) := by decide +kernel
theorem dL_lay_87 : decode cL_lay 87 = .ok (.iconst 0, 1) := by decide +kernel
theorem dL_lay_88 : decode cL_lay 88 = .ok (.istore_n 3, 1) := by decide +kernel
theorem dL_lay_89 : decode cL_lay 89 = .ok (.iload_n 3, 1) := by decide +kernel
theorem dL_lay_90 : decode cL_lay 90 = .ok (.bipush 6, 2) := by decide +kernel
theorem dL_lay_92 : decode cL_lay 92 = .ok (.if_icmp .ge 100, 3) := by decide +kernel
theorem dL_lay_95 : decode cL_lay 95 = .ok (.iload_n 2, 1) := by decide +kernel
theorem dL_lay_96 : decode cL_lay 96 = .ok (.aload_n 1, 1) := by decide +kernel
theorem dL_lay_97 : decode cL_lay 97 = .ok (.bipush 31, 2) := by decide +kernel
theorem dL_lay_99 : decode cL_lay 99 = .ok (.iload_n 3, 1) := by decide +kernel
theorem dL_lay_100 : decode cL_lay 100 = .ok (.iadd, 1) := by decide +kernel
theorem dL_lay_101 : decode cL_lay 101 = .ok (.iconst 3, 1) := by decide +kernel
theorem dL_lay_102 : decode cL_lay 102 = .ok (.invokestatic 133, 3) := by decide +kernel
theorem dL_lay_105 : decode cL_lay 105 = .ok (.ifCond .ne 7, 3) := by decide +kernel
theorem dL_lay_108 : decode cL_lay 108 = .ok (.iconst 0, 1) := by decide +kernel
theorem dL_lay_109 : decode cL_lay 109 = .ok (.goto 28, 3) := by decide +kernel
theorem dL_lay_112 : decode cL_lay 112 = .ok (.aload_n 0, 1) := by decide +kernel
theorem dL_lay_113 : decode cL_lay 113 = .ok (.bipush 6, 2) := by decide +kernel
theorem dL_lay_115 : decode cL_lay 115 = .ok (.aload_n 1, 1) := by decide +kernel
theorem dL_lay_116 : decode cL_lay 116 = .ok (.bipush 41, 2) := by decide +kernel
theorem dL_lay_118 : decode cL_lay 118 = .ok (.iload_n 3, 1) := by decide +kernel
theorem dL_lay_119 : decode cL_lay 119 = .ok (.iadd, 1) := by decide +kernel
theorem dL_lay_120 : decode cL_lay 120 = .ok (.iconst 5, 1) := by decide +kernel
theorem dL_lay_121 : decode cL_lay 121 = .ok (.invokestatic 133, 3) := by decide +kernel
theorem dL_lay_124 : decode cL_lay 124 = .ok (.aload_n 1, 1) := by decide +kernel
theorem dL_lay_125 : decode cL_lay 125 = .ok (.bipush 51, 2) := by decide +kernel
theorem dL_lay_127 : decode cL_lay 127 = .ok (.iload_n 3, 1) := by decide +kernel
theorem dL_lay_128 : decode cL_lay 128 = .ok (.iadd, 1) := by decide +kernel
theorem dL_lay_129 : decode cL_lay 129 = .ok (.iconst 5, 1) := by decide +kernel
theorem dL_lay_130 : decode cL_lay 130 = .ok (.invokestatic 133, 3) := by decide +kernel
theorem dL_lay_133 : decode cL_lay 133 = .ok (.iload_n 3, 1) := by decide +kernel
theorem dL_lay_134 : decode cL_lay 134 = .ok (.invokestatic 140, 3) := by decide +kernel
theorem dL_lay_137 : decode cL_lay 137 = .ok (.iadd, 1) := by decide +kernel
theorem dL_lay_138 : decode cL_lay 138 = .ok (.istore_n 2, 1) := by decide +kernel
theorem dL_lay_139 : decode cL_lay 139 = .ok (.iload_n 2, 1) := by decide +kernel
theorem dL_lay_140 : decode cL_lay 140 = .ok (.aload_n 1, 1) := by decide +kernel
theorem dL_lay_141 : decode cL_lay 141 = .ok (.bipush 61, 2) := by decide +kernel
theorem dL_lay_143 : decode cL_lay 143 = .ok (.iload_n 3, 1) := by decide +kernel
theorem dL_lay_144 : decode cL_lay 144 = .ok (.iadd, 1) := by decide +kernel
theorem dL_lay_145 : decode cL_lay 145 = .ok (.iconst 2, 1) := by decide +kernel
theorem dL_lay_146 : decode cL_lay 146 = .ok (.invokestatic 133, 3) := by decide +kernel
theorem dL_lay_149 : decode cL_lay 149 = .ok (.aload_n 0, 1) := by decide +kernel
theorem dL_lay_150 : decode cL_lay 150 = .ok (.bipush 7, 2) := by decide +kernel
theorem dL_lay_152 : decode cL_lay 152 = .ok (.aload_n 1, 1) := by decide +kernel
theorem dL_lay_153 : decode cL_lay 153 = .ok (.bipush 71, 2) := by decide +kernel
theorem dL_lay_155 : decode cL_lay 155 = .ok (.iload_n 3, 1) := by decide +kernel
theorem dL_lay_156 : decode cL_lay 156 = .ok (.iadd, 1) := by decide +kernel
theorem dL_lay_157 : decode cL_lay 157 = .ok (.iconst 5, 1) := by decide +kernel
theorem dL_lay_158 : decode cL_lay 158 = .ok (.invokestatic 133, 3) := by decide +kernel
theorem dL_lay_161 : decode cL_lay 161 = .ok (.aload_n 1, 1) := by decide +kernel
theorem dL_lay_162 : decode cL_lay 162 = .ok (.bipush 81, 2) := by decide +kernel
theorem dL_lay_164 : decode cL_lay 164 = .ok (.iload_n 3, 1) := by decide +kernel
theorem dL_lay_165 : decode cL_lay 165 = .ok (.iadd, 1) := by decide +kernel
theorem dL_lay_166 : decode cL_lay 166 = .ok (.iconst 5, 1) := by decide +kernel
theorem dL_lay_167 : decode cL_lay 167 = .ok (.invokestatic 133, 3) := by decide +kernel
theorem dL_lay_170 : decode cL_lay 170 = .ok (.aload_n 1, 1) := by decide +kernel
theorem dL_lay_171 : decode cL_lay 171 = .ok (.bipush 91, 2) := by decide +kernel
theorem dL_lay_173 : decode cL_lay 173 = .ok (.iload_n 3, 1) := by decide +kernel
theorem dL_lay_174 : decode cL_lay 174 = .ok (.iadd, 1) := by decide +kernel
theorem dL_lay_175 : decode cL_lay 175 = .ok (.bipush 6, 2) := by decide +kernel
theorem dL_lay_177 : decode cL_lay 177 = .ok (.invokestatic 133, 3) := by decide +kernel
theorem dL_lay_180 : decode cL_lay 180 = .ok (.invokestatic 140, 3) := by decide +kernel
theorem dL_lay_183 : decode cL_lay 183 = .ok (.imul, 1) := by decide +kernel
theorem dL_lay_184 : decode cL_lay 184 = .ok (.iadd, 1) := by decide +kernel
theorem dL_lay_185 : decode cL_lay 185 = .ok (.istore_n 2, 1) := by decide +kernel
theorem dL_lay_186 : decode cL_lay 186 = .ok (.iinc 3 1, 3) := by decide +kernel
theorem dL_lay_189 : decode cL_lay 189 = .ok (.goto (-100), 3) := by decide +kernel
theorem dL_lay_192 : decode cL_lay 192 = .ok (.iconst 0, 1) := by decide +kernel
theorem dL_lay_193 : decode cL_lay 193 = .ok (.istore_n 3, 1) := by decide +kernel
theorem dL_lay_194 : decode cL_lay 194 = .ok (.iload_n 3, 1) := by decide +kernel
theorem dL_lay_195 : decode cL_lay 195 = .ok (.aload_n 1, 1) := by decide +kernel
theorem dL_lay_196 : decode cL_lay 196 = .ok (.iconst 1, 1) := by decide +kernel
theorem dL_lay_197 : decode cL_lay 197 = .ok (.iconst 3, 1) := by decide +kernel
theorem dL_lay_198 : decode cL_lay 198 = .ok (.invokestatic 133, 3) := by decide +kernel
theorem dL_lay_201 : decode cL_lay 201 = .ok (.if_icmp .ge 36, 3) := by decide +kernel
theorem dL_lay_204 : decode cL_lay 204 = .ok (.iload_n 2, 1) := by decide +kernel
theorem dL_lay_205 : decode cL_lay 205 = .ok (.aload_n 0, 1) := by decide +kernel
theorem dL_lay_206 : decode cL_lay 206 = .ok (.iconst 2, 1) := by decide +kernel
theorem dL_lay_207 : decode cL_lay 207 = .ok (.aload_n 1, 1) := by decide +kernel
theorem dL_lay_208 : decode cL_lay 208 = .ok (.bipush 101, 2) := by decide +kernel
theorem dL_lay_210 : decode cL_lay 210 = .ok (.iload_n 3, 1) := by decide +kernel
theorem dL_lay_211 : decode cL_lay 211 = .ok (.iadd, 1) := by decide +kernel
theorem dL_lay_212 : decode cL_lay 212 = .ok (.iconst 5, 1) := by decide +kernel
theorem dL_lay_213 : decode cL_lay 213 = .ok (.invokestatic 133, 3) := by decide +kernel
theorem dL_lay_216 : decode cL_lay 216 = .ok (.aload_n 1, 1) := by decide +kernel
theorem dL_lay_217 : decode cL_lay 217 = .ok (.bipush 111, 2) := by decide +kernel
theorem dL_lay_219 : decode cL_lay 219 = .ok (.iload_n 3, 1) := by decide +kernel
theorem dL_lay_220 : decode cL_lay 220 = .ok (.iadd, 1) := by decide +kernel
theorem dL_lay_221 : decode cL_lay 221 = .ok (.iconst 5, 1) := by decide +kernel
theorem dL_lay_222 : decode cL_lay 222 = .ok (.invokestatic 133, 3) := by decide +kernel
theorem dL_lay_225 : decode cL_lay 225 = .ok (.iconst 0, 1) := by decide +kernel
theorem dL_lay_226 : decode cL_lay 226 = .ok (.invokestatic 140, 3) := by decide +kernel
theorem dL_lay_229 : decode cL_lay 229 = .ok (.iadd, 1) := by decide +kernel
theorem dL_lay_230 : decode cL_lay 230 = .ok (.istore_n 2, 1) := by decide +kernel
theorem dL_lay_231 : decode cL_lay 231 = .ok (.iinc 3 1, 3) := by decide +kernel
theorem dL_lay_234 : decode cL_lay 234 = .ok (.goto (-40), 3) := by decide +kernel
theorem dL_lay_237 : decode cL_lay 237 = .ok (.return_, 1) := by decide +kernel
theorem dL_any_0 : decode cL_any 0 = .ok (.aload_n 1, 1) := by decide +kernel
theorem dL_any_1 : decode cL_any 1 = .ok (.iload_n 2, 1) := by decide +kernel
theorem dL_any_2 : decode cL_any 2 = .ok (.iconst 1, 1) := by decide +kernel
theorem dL_any_3 : decode cL_any 3 = .ok (.iadd, 1) := by decide +kernel
theorem dL_any_4 : decode cL_any 4 = .ok (.iconst 5, 1) := by decide +kernel
theorem dL_any_5 : decode cL_any 5 = .ok (.invokestatic 133, 3) := by decide +kernel
theorem dL_any_8 : decode cL_any 8 = .ok (.istore_n 3, 1) := by decide +kernel
theorem dL_any_9 : decode cL_any 9 = .ok (.aload_n 1, 1) := by decide +kernel
theorem dL_any_10 : decode cL_any 10 = .ok (.iload_n 2, 1) := by decide +kernel
theorem dL_any_11 : decode cL_any 11 = .ok (.iconst 2, 1) := by decide +kernel
theorem dL_any_12 : decode cL_any 12 = .ok (.iadd, 1) := by decide +kernel
theorem dL_any_13 : decode cL_any 13 = .ok (.iconst 5, 1) := by decide +kernel
theorem dL_any_14 : decode cL_any 14 = .ok (.invokestatic 133, 3) := by decide +kernel
theorem dL_any_17 : decode cL_any 17 = .ok (.istore 4, 2) := by decide +kernel
theorem dL_any_19 : decode cL_any 19 = .ok (.aload_n 1, 1) := by decide +kernel
theorem dL_any_20 : decode cL_any 20 = .ok (.iload_n 2, 1) := by decide +kernel
theorem dL_any_21 : decode cL_any 21 = .ok (.iconst 3, 1) := by decide +kernel
theorem dL_any_22 : decode cL_any 22 = .ok (.iadd, 1) := by decide +kernel
theorem dL_any_23 : decode cL_any 23 = .ok (.iconst 1, 1) := by decide +kernel
theorem dL_any_24 : decode cL_any 24 = .ok (.aload_n 0, 1) := by decide +kernel
theorem dL_any_25 : decode cL_any 25 = .ok (.invokevirtual 143, 3) := by decide +kernel
theorem dL_any_28 : decode cL_any 28 = .ok (.invokestatic 146, 3) := by decide +kernel
theorem dL_any_31 : decode cL_any 31 = .ok (.invokestatic 133, 3) := by decide +kernel
theorem dL_any_34 : decode cL_any 34 = .ok (.istore 5, 2) := by decide +kernel
theorem dL_any_36 : decode cL_any 36 = .ok (.iconst 1, 1) := by decide +kernel
theorem dL_any_37 : decode cL_any 37 = .ok (.aload_n 1, 1) := by decide +kernel
theorem dL_any_38 : decode cL_any 38 = .ok (.iload_n 2, 1) := by decide +kernel
theorem dL_any_39 : decode cL_any 39 = .ok (.iconst 4, 1) := by decide +kernel
theorem dL_any_40 : decode cL_any 40 = .ok (.iadd, 1) := by decide +kernel
theorem dL_any_41 : decode cL_any 41 = .ok (.iconst 4, 1) := by decide +kernel
theorem dL_any_42 : decode cL_any 42 = .ok (.invokestatic 133, 3) := by decide +kernel
theorem dL_any_45 : decode cL_any 45 = .ok (.iadd, 1) := by decide +kernel
theorem dL_any_46 : decode cL_any 46 = .ok (.istore 6, 2) := by decide +kernel
theorem dL_any_48 : decode cL_any 48 = .ok (.aload_n 1, 1) := by decide +kernel
theorem dL_any_49 : decode cL_any 49 = .ok (.iload_n 2, 1) := by decide +kernel
theorem dL_any_50 : decode cL_any 50 = .ok (.bipush 24, 2) := by decide +kernel
theorem dL_any_52 : decode cL_any 52 = .ok (.invokestatic 133, 3) := by decide +kernel
theorem dL_any_55 : decode cL_any 55 = .ok (.tableswitch 254 0 17 #[85, 101, 101, 101, 120, 130, 130, 140, 140, 140, 167, 167, 167, 194, 194, 213, 232, 243], 85) := by decide +kernel
theorem dL_any_140 : decode cL_any 140 = .ok (.aload_n 0, 1) := by decide +kernel
theorem dL_any_141 : decode cL_any 141 = .ok (.iconst 0, 1) := by decide +kernel
theorem dL_any_142 : decode cL_any 142 = .ok (.iload_n 3, 1) := by decide +kernel
theorem dL_any_143 : decode cL_any 143 = .ok (.iload 4, 2) := by decide +kernel
theorem dL_any_145 : decode cL_any 145 = .ok (.aload_n 1, 1) := by decide +kernel
theorem dL_any_146 : decode cL_any 146 = .ok (.iload_n 2, 1) := by decide +kernel
theorem dL_any_147 : decode cL_any 147 = .ok (.iconst 4, 1) := by decide +kernel
theorem dL_any_148 : decode cL_any 148 = .ok (.iadd, 1) := by decide +kernel
theorem dL_any_149 : decode cL_any 149 = .ok (.invokestatic 137, 3) := by decide +kernel
theorem dL_any_152 : decode cL_any 152 = .ok (.invokestatic 140, 3) := by decide +kernel
theorem dL_any_155 : decode cL_any 155 = .ok (.ireturn, 1) := by decide +kernel
theorem dL_any_156 : decode cL_any 156 = .ok (.aload_n 0, 1) := by decide +kernel
theorem dL_any_157 : decode cL_any 157 = .ok (.iconst 1, 1) := by decide +kernel
theorem dL_any_158 : decode cL_any 158 = .ok (.iload_n 3, 1) := by decide +kernel
theorem dL_any_159 : decode cL_any 159 = .ok (.iload 4, 2) := by decide +kernel
theorem dL_any_161 : decode cL_any 161 = .ok (.iconst 1, 1) := by decide +kernel
theorem dL_any_162 : decode cL_any 162 = .ok (.aload_n 1, 1) := by decide +kernel
theorem dL_any_163 : decode cL_any 163 = .ok (.iload_n 2, 1) := by decide +kernel
theorem dL_any_164 : decode cL_any 164 = .ok (.iconst 4, 1) := by decide +kernel
theorem dL_any_165 : decode cL_any 165 = .ok (.iadd, 1) := by decide +kernel
theorem dL_any_166 : decode cL_any 166 = .ok (.iconst 3, 1) := by decide +kernel
theorem dL_any_167 : decode cL_any 167 = .ok (.invokestatic 133, 3) := by decide +kernel
theorem dL_any_170 : decode cL_any 170 = .ok (.iadd, 1) := by decide +kernel
theorem dL_any_171 : decode cL_any 171 = .ok (.invokestatic 140, 3) := by decide +kernel
theorem dL_any_174 : decode cL_any 174 = .ok (.ireturn, 1) := by decide +kernel
theorem dL_any_175 : decode cL_any 175 = .ok (.aload_n 0, 1) := by decide +kernel
theorem dL_any_176 : decode cL_any 176 = .ok (.iconst 2, 1) := by decide +kernel
theorem dL_any_177 : decode cL_any 177 = .ok (.iload_n 3, 1) := by decide +kernel
theorem dL_any_178 : decode cL_any 178 = .ok (.iload 4, 2) := by decide +kernel
theorem dL_any_180 : decode cL_any 180 = .ok (.iconst 0, 1) := by decide +kernel
theorem dL_any_181 : decode cL_any 181 = .ok (.invokestatic 140, 3) := by decide +kernel
theorem dL_any_184 : decode cL_any 184 = .ok (.ireturn, 1) := by decide +kernel
theorem dL_any_185 : decode cL_any 185 = .ok (.aload_n 0, 1) := by decide +kernel
theorem dL_any_186 : decode cL_any 186 = .ok (.iconst 3, 1) := by decide +kernel
theorem dL_any_187 : decode cL_any 187 = .ok (.iload_n 3, 1) := by decide +kernel
theorem dL_any_188 : decode cL_any 188 = .ok (.iload 4, 2) := by decide +kernel
theorem dL_any_190 : decode cL_any 190 = .ok (.iconst 0, 1) := by decide +kernel
theorem dL_any_191 : decode cL_any 191 = .ok (.invokestatic 140, 3) := by decide +kernel
theorem dL_any_194 : decode cL_any 194 = .ok (.ireturn, 1) := by decide +kernel
theorem dL_any_195 : decode cL_any 195 = .ok (.aload_n 0, 1) := by decide +kernel
theorem dL_any_196 : decode cL_any 196 = .ok (.iconst 4, 1) := by decide +kernel
theorem dL_any_197 : decode cL_any 197 = .ok (.iload_n 3, 1) := by decide +kernel
theorem dL_any_198 : decode cL_any 198 = .ok (.aload_n 1, 1) := by decide +kernel
theorem dL_any_199 : decode cL_any 199 = .ok (.iload_n 2, 1) := by decide +kernel
theorem dL_any_200 : decode cL_any 200 = .ok (.iconst 5, 1) := by decide +kernel
theorem dL_any_201 : decode cL_any 201 = .ok (.iadd, 1) := by decide +kernel
theorem dL_any_202 : decode cL_any 202 = .ok (.iconst 2, 1) := by decide +kernel
theorem dL_any_203 : decode cL_any 203 = .ok (.invokestatic 133, 3) := by decide +kernel
theorem dL_any_206 : decode cL_any 206 = .ok (.ifCond .ne 8, 3) := by decide +kernel
theorem dL_any_209 : decode cL_any 209 = .ok (.iload 6, 2) := by decide +kernel
theorem dL_any_211 : decode cL_any 211 = .ok (.goto 6, 3) := by decide +kernel
theorem dL_any_214 : decode cL_any 214 = .ok (.iload 6, 2) := by decide +kernel
theorem dL_any_216 : decode cL_any 216 = .ok (.ineg, 1) := by decide +kernel
theorem dL_any_217 : decode cL_any 217 = .ok (.iconst 0, 1) := by decide +kernel
theorem dL_any_218 : decode cL_any 218 = .ok (.invokestatic 140, 3) := by decide +kernel
theorem dL_any_221 : decode cL_any 221 = .ok (.ireturn, 1) := by decide +kernel
theorem dL_any_222 : decode cL_any 222 = .ok (.aload_n 0, 1) := by decide +kernel
theorem dL_any_223 : decode cL_any 223 = .ok (.iconst 5, 1) := by decide +kernel
theorem dL_any_224 : decode cL_any 224 = .ok (.iload_n 3, 1) := by decide +kernel
theorem dL_any_225 : decode cL_any 225 = .ok (.aload_n 1, 1) := by decide +kernel
theorem dL_any_226 : decode cL_any 226 = .ok (.iload_n 2, 1) := by decide +kernel
theorem dL_any_227 : decode cL_any 227 = .ok (.iconst 5, 1) := by decide +kernel
theorem dL_any_228 : decode cL_any 228 = .ok (.iadd, 1) := by decide +kernel
theorem dL_any_229 : decode cL_any 229 = .ok (.iconst 2, 1) := by decide +kernel
theorem dL_any_230 : decode cL_any 230 = .ok (.invokestatic 133, 3) := by decide +kernel
theorem dL_any_233 : decode cL_any 233 = .ok (.ifCond .ne 8, 3) := by decide +kernel
theorem dL_any_236 : decode cL_any 236 = .ok (.iload 6, 2) := by decide +kernel
theorem dL_any_238 : decode cL_any 238 = .ok (.goto 6, 3) := by decide +kernel
theorem dL_any_241 : decode cL_any 241 = .ok (.iload 6, 2) := by decide +kernel
theorem dL_any_243 : decode cL_any 243 = .ok (.ineg, 1) := by decide +kernel
theorem dL_any_244 : decode cL_any 244 = .ok (.iconst 0, 1) := by decide +kernel
theorem dL_any_245 : decode cL_any 245 = .ok (.invokestatic 140, 3) := by decide +kernel
theorem dL_any_248 : decode cL_any 248 = .ok (.ireturn, 1) := by decide +kernel
theorem dL_any_249 : decode cL_any 249 = .ok (.aload_n 0, 1) := by decide +kernel
theorem dL_any_250 : decode cL_any 250 = .ok (.bipush 6, 2) := by decide +kernel
theorem dL_any_252 : decode cL_any 252 = .ok (.iload_n 3, 1) := by decide +kernel
theorem dL_any_253 : decode cL_any 253 = .ok (.iload 4, 2) := by decide +kernel
theorem dL_any_255 : decode cL_any 255 = .ok (.aload_n 1, 1) := by decide +kernel
theorem dL_any_256 : decode cL_any 256 = .ok (.iload_n 2, 1) := by decide +kernel
theorem dL_any_257 : decode cL_any 257 = .ok (.iconst 5, 1) := by decide +kernel
theorem dL_any_258 : decode cL_any 258 = .ok (.iadd, 1) := by decide +kernel
theorem dL_any_259 : decode cL_any 259 = .ok (.bipush 6, 2) := by decide +kernel
theorem dL_any_261 : decode cL_any 261 = .ok (.invokestatic 133, 3) := by decide +kernel
theorem dL_any_264 : decode cL_any 264 = .ok (.invokestatic 140, 3) := by decide +kernel
theorem dL_any_267 : decode cL_any 267 = .ok (.ireturn, 1) := by decide +kernel
theorem dL_any_268 : decode cL_any 268 = .ok (.aload_n 0, 1) := by decide +kernel
theorem dL_any_269 : decode cL_any 269 = .ok (.bipush 7, 2) := by decide +kernel
theorem dL_any_271 : decode cL_any 271 = .ok (.iload_n 3, 1) := by decide +kernel
theorem dL_any_272 : decode cL_any 272 = .ok (.iload 4, 2) := by decide +kernel
theorem dL_any_274 : decode cL_any 274 = .ok (.aload_n 1, 1) := by decide +kernel
theorem dL_any_275 : decode cL_any 275 = .ok (.iload_n 2, 1) := by decide +kernel
theorem dL_any_276 : decode cL_any 276 = .ok (.iconst 5, 1) := by decide +kernel
theorem dL_any_277 : decode cL_any 277 = .ok (.iadd, 1) := by decide +kernel
theorem dL_any_278 : decode cL_any 278 = .ok (.bipush 6, 2) := by decide +kernel
theorem dL_any_280 : decode cL_any 280 = .ok (.invokestatic 133, 3) := by decide +kernel
theorem dL_any_283 : decode cL_any 283 = .ok (.invokestatic 140, 3) := by decide +kernel
theorem dL_any_286 : decode cL_any 286 = .ok (.ireturn, 1) := by decide +kernel
theorem dL_any_287 : decode cL_any 287 = .ok (.aload_n 0, 1) := by decide +kernel
theorem dL_any_288 : decode cL_any 288 = .ok (.bipush 8, 2) := by decide +kernel
theorem dL_any_290 : decode cL_any 290 = .ok (.iload_n 3, 1) := by decide +kernel
theorem dL_any_291 : decode cL_any 291 = .ok (.iload 4, 2) := by decide +kernel
theorem dL_any_293 : decode cL_any 293 = .ok (.iconst 0, 1) := by decide +kernel
theorem dL_any_294 : decode cL_any 294 = .ok (.invokestatic 140, 3) := by decide +kernel
theorem dL_any_297 : decode cL_any 297 = .ok (.ireturn, 1) := by decide +kernel
theorem dL_any_298 : decode cL_any 298 = .ok (.aload_n 0, 1) := by decide +kernel
theorem dL_any_299 : decode cL_any 299 = .ok (.bipush 9, 2) := by decide +kernel
theorem dL_any_301 : decode cL_any 301 = .ok (.iload_n 3, 1) := by decide +kernel
theorem dL_any_302 : decode cL_any 302 = .ok (.iload 4, 2) := by decide +kernel
theorem dL_any_304 : decode cL_any 304 = .ok (.iconst 0, 1) := by decide +kernel
theorem dL_any_305 : decode cL_any 305 = .ok (.invokestatic 140, 3) := by decide +kernel
theorem dL_any_308 : decode cL_any 308 = .ok (.ireturn, 1) := by decide +kernel
theorem dL_any_309 : decode cL_any 309 = .ok (.aload_n 0, 1) := by decide +kernel
theorem dL_any_310 : decode cL_any 310 = .ok (.bipush 10, 2) := by decide +kernel
theorem dL_any_312 : decode cL_any 312 = .ok (.iload_n 3, 1) := by decide +kernel
theorem dL_any_313 : decode cL_any 313 = .ok (.iload 4, 2) := by decide +kernel
theorem dL_any_315 : decode cL_any 315 = .ok (.iload 5, 2) := by decide +kernel
theorem dL_any_317 : decode cL_any 317 = .ok (.invokestatic 140, 3) := by decide +kernel
theorem dL_any_320 : decode cL_any 320 = .ok (.ireturn, 1) := by decide +kernel
theorem dL_looks_0 : decode cL_looks 0 = .ok (.bipush 31, 2) := by decide +kernel
theorem dL_looks_2 : decode cL_looks 2 = .ok (.bipush 31, 2) := by decide +kernel
theorem dL_looks_4 : decode cL_looks 4 = .ok (.aload_n 0, 1) := by decide +kernel
theorem dL_looks_5 : decode cL_looks 5 = .ok (.invokevirtual 143, 3) := by decide +kernel
theorem dL_looks_8 : decode cL_looks 8 = .ok (.imul, 1) := by decide +kernel
theorem dL_looks_9 : decode cL_looks 9 = .ok (.aload_n 0, 1) := by decide +kernel
theorem dL_looks_10 : decode cL_looks 10 = .ok (.invokevirtual 151, 3) := by decide +kernel
theorem dL_looks_13 : decode cL_looks 13 = .ok (.iadd, 1) := by decide +kernel
theorem dL_looks_14 : decode cL_looks 14 = .ok (.imul, 1) := by decide +kernel
theorem dL_looks_15 : decode cL_looks 15 = .ok (.aload_n 0, 1) := by decide +kernel
theorem dL_looks_16 : decode cL_looks 16 = .ok (.invokevirtual 154, 3) := by decide +kernel
theorem dL_looks_19 : decode cL_looks 19 = .ok (.l2i, 1) := by decide +kernel
theorem dL_looks_20 : decode cL_looks 20 = .ok (.iadd, 1) := by decide +kernel
theorem dL_looks_21 : decode cL_looks 21 = .ok (.istore_n 1, 1) := by decide +kernel
theorem dL_looks_22 : decode cL_looks 22 = .ok (.iconst 0, 1) := by decide +kernel
theorem dL_looks_23 : decode cL_looks 23 = .ok (.istore_n 2, 1) := by decide +kernel
theorem dL_looks_24 : decode cL_looks 24 = .ok (.iload_n 2, 1) := by decide +kernel
theorem dL_looks_25 : decode cL_looks 25 = .ok (.bipush 25, 2) := by decide +kernel
theorem dL_looks_27 : decode cL_looks 27 = .ok (.if_icmp .ge 58, 3) := by decide +kernel
theorem dL_looks_30 : decode cL_looks 30 = .ok (.bipush 31, 2) := by decide +kernel
theorem dL_looks_32 : decode cL_looks 32 = .ok (.bipush 31, 2) := by decide +kernel
theorem dL_looks_34 : decode cL_looks 34 = .ok (.bipush 31, 2) := by decide +kernel
theorem dL_looks_36 : decode cL_looks 36 = .ok (.iload_n 1, 1) := by decide +kernel
theorem dL_looks_37 : decode cL_looks 37 = .ok (.imul, 1) := by decide +kernel
theorem dL_looks_38 : decode cL_looks 38 = .ok (.aload_n 0, 1) := by decide +kernel
theorem dL_looks_39 : decode cL_looks 39 = .ok (.iload_n 2, 1) := by decide +kernel
theorem dL_looks_40 : decode cL_looks 40 = .ok (.iconst 5, 1) := by decide +kernel
theorem dL_looks_41 : decode cL_looks 41 = .ok (.idiv, 1) := by decide +kernel
theorem dL_looks_42 : decode cL_looks 42 = .ok (.iload_n 2, 1) := by decide +kernel
theorem dL_looks_43 : decode cL_looks 43 = .ok (.iconst 5, 1) := by decide +kernel
theorem dL_looks_44 : decode cL_looks 44 = .ok (.irem, 1) := by decide +kernel
theorem dL_looks_45 : decode cL_looks 45 = .ok (.invokevirtual 73, 3) := by decide +kernel
theorem dL_looks_48 : decode cL_looks 48 = .ok (.iadd, 1) := by decide +kernel
theorem dL_looks_49 : decode cL_looks 49 = .ok (.imul, 1) := by decide +kernel
theorem dL_looks_50 : decode cL_looks 50 = .ok (.aload_n 0, 1) := by decide +kernel
theorem dL_looks_51 : decode cL_looks 51 = .ok (.iload_n 2, 1) := by decide +kernel
theorem dL_looks_52 : decode cL_looks 52 = .ok (.iconst 5, 1) := by decide +kernel
theorem dL_looks_53 : decode cL_looks 53 = .ok (.idiv, 1) := by decide +kernel
theorem dL_looks_54 : decode cL_looks 54 = .ok (.iload_n 2, 1) := by decide +kernel
theorem dL_looks_55 : decode cL_looks 55 = .ok (.iconst 5, 1) := by decide +kernel
theorem dL_looks_56 : decode cL_looks 56 = .ok (.irem, 1) := by decide +kernel
theorem dL_looks_57 : decode cL_looks 57 = .ok (.invokevirtual 158, 3) := by decide +kernel
theorem dL_looks_60 : decode cL_looks 60 = .ok (.invokestatic 83, 3) := by decide +kernel
theorem dL_looks_63 : decode cL_looks 63 = .ok (.iadd, 1) := by decide +kernel
theorem dL_looks_64 : decode cL_looks 64 = .ok (.imul, 1) := by decide +kernel
theorem dL_looks_65 : decode cL_looks 65 = .ok (.aload_n 0, 1) := by decide +kernel
theorem dL_looks_66 : decode cL_looks 66 = .ok (.iconst 1, 1) := by decide +kernel
theorem dL_looks_67 : decode cL_looks 67 = .ok (.iload_n 2, 1) := by decide +kernel
theorem dL_looks_68 : decode cL_looks 68 = .ok (.iconst 5, 1) := by decide +kernel
theorem dL_looks_69 : decode cL_looks 69 = .ok (.idiv, 1) := by decide +kernel
theorem dL_looks_70 : decode cL_looks 70 = .ok (.iload_n 2, 1) := by decide +kernel
theorem dL_looks_71 : decode cL_looks 71 = .ok (.iconst 5, 1) := by decide +kernel
theorem dL_looks_72 : decode cL_looks 72 = .ok (.irem, 1) := by decide +kernel
theorem dL_looks_73 : decode cL_looks 73 = .ok (.iconst 0, 1) := by decide +kernel
theorem dL_looks_74 : decode cL_looks 74 = .ok (.invokestatic 162, 3) := by decide +kernel
theorem dL_looks_77 : decode cL_looks 77 = .ok (.iadd, 1) := by decide +kernel
theorem dL_looks_78 : decode cL_looks 78 = .ok (.istore_n 1, 1) := by decide +kernel
theorem dL_looks_79 : decode cL_looks 79 = .ok (.iinc 2 1, 3) := by decide +kernel
theorem dL_looks_82 : decode cL_looks 82 = .ok (.goto (-58), 3) := by decide +kernel
theorem dL_looks_85 : decode cL_looks 85 = .ok (.iconst 0, 1) := by decide +kernel
theorem dL_looks_86 : decode cL_looks 86 = .ok (.istore_n 2, 1) := by decide +kernel
theorem dL_looks_87 : decode cL_looks 87 = .ok (.iload_n 2, 1) := by decide +kernel
theorem dL_looks_88 : decode cL_looks 88 = .ok (.bipush 6, 2) := by decide +kernel
theorem dL_looks_90 : decode cL_looks 90 = .ok (.if_icmp .ge 35, 3) := by decide +kernel
theorem dL_looks_93 : decode cL_looks 93 = .ok (.bipush 31, 2) := by decide +kernel
theorem dL_looks_95 : decode cL_looks 95 = .ok (.bipush 31, 2) := by decide +kernel
theorem dL_looks_97 : decode cL_looks 97 = .ok (.iload_n 1, 1) := by decide +kernel
theorem dL_looks_98 : decode cL_looks 98 = .ok (.imul, 1) := by decide +kernel
theorem dL_looks_99 : decode cL_looks 99 = .ok (.aload_n 0, 1) := by decide +kernel
theorem dL_looks_100 : decode cL_looks 100 = .ok (.iconst 3, 1) := by decide +kernel
theorem dL_looks_101 : decode cL_looks 101 = .ok (.iload_n 2, 1) := by decide +kernel
theorem dL_looks_102 : decode cL_looks 102 = .ok (.iconst 0, 1) := by decide +kernel
theorem dL_looks_103 : decode cL_looks 103 = .ok (.iconst 0, 1) := by decide +kernel
theorem dL_looks_104 : decode cL_looks 104 = .ok (.invokestatic 162, 3) := by decide +kernel
theorem dL_looks_107 : decode cL_looks 107 = .ok (.iadd, 1) := by decide +kernel
theorem dL_looks_108 : decode cL_looks 108 = .ok (.imul, 1) := by decide +kernel
theorem dL_looks_109 : decode cL_looks 109 = .ok (.aload_n 0, 1) := by decide +kernel
theorem dL_looks_110 : decode cL_looks 110 = .ok (.iconst 4, 1) := by decide +kernel
theorem dL_looks_111 : decode cL_looks 111 = .ok (.iload_n 2, 1) := by decide +kernel
theorem dL_looks_112 : decode cL_looks 112 = .ok (.iconst 0, 1) := by decide +kernel
theorem dL_looks_113 : decode cL_looks 113 = .ok (.iconst 0, 1) := by decide +kernel
theorem dL_looks_114 : decode cL_looks 114 = .ok (.invokestatic 162, 3) := by decide +kernel
theorem dL_looks_117 : decode cL_looks 117 = .ok (.iadd, 1) := by decide +kernel
theorem dL_looks_118 : decode cL_looks 118 = .ok (.istore_n 1, 1) := by decide +kernel
theorem dL_looks_119 : decode cL_looks 119 = .ok (.iinc 2 1, 3) := by decide +kernel
theorem dL_looks_122 : decode cL_looks 122 = .ok (.goto (-35), 3) := by decide +kernel
theorem dL_looks_125 : decode cL_looks 125 = .ok (.iconst 0, 1) := by decide +kernel
theorem dL_looks_126 : decode cL_looks 126 = .ok (.istore_n 2, 1) := by decide +kernel
theorem dL_looks_127 : decode cL_looks 127 = .ok (.iload_n 2, 1) := by decide +kernel
theorem dL_looks_128 : decode cL_looks 128 = .ok (.aload_n 0, 1) := by decide +kernel
theorem dL_looks_129 : decode cL_looks 129 = .ok (.invokevirtual 143, 3) := by decide +kernel
theorem dL_looks_132 : decode cL_looks 132 = .ok (.if_icmp .ge 29, 3) := by decide +kernel
theorem dL_looks_135 : decode cL_looks 135 = .ok (.bipush 31, 2) := by decide +kernel
theorem dL_looks_137 : decode cL_looks 137 = .ok (.bipush 31, 2) := by decide +kernel
theorem dL_looks_139 : decode cL_looks 139 = .ok (.iload_n 1, 1) := by decide +kernel
theorem dL_looks_140 : decode cL_looks 140 = .ok (.imul, 1) := by decide +kernel
theorem dL_looks_141 : decode cL_looks 141 = .ok (.aload_n 0, 1) := by decide +kernel
theorem dL_looks_142 : decode cL_looks 142 = .ok (.iload_n 2, 1) := by decide +kernel
theorem dL_looks_143 : decode cL_looks 143 = .ok (.invokevirtual 165, 3) := by decide +kernel
theorem dL_looks_146 : decode cL_looks 146 = .ok (.iadd, 1) := by decide +kernel
theorem dL_looks_147 : decode cL_looks 147 = .ok (.imul, 1) := by decide +kernel
theorem dL_looks_148 : decode cL_looks 148 = .ok (.aload_n 0, 1) := by decide +kernel
theorem dL_looks_149 : decode cL_looks 149 = .ok (.iload_n 2, 1) := by decide +kernel
theorem dL_looks_150 : decode cL_looks 150 = .ok (.invokevirtual 168, 3) := by decide +kernel
theorem dL_looks_153 : decode cL_looks 153 = .ok (.iadd, 1) := by decide +kernel
theorem dL_looks_154 : decode cL_looks 154 = .ok (.istore_n 1, 1) := by decide +kernel
theorem dL_looks_155 : decode cL_looks 155 = .ok (.iinc 2 1, 3) := by decide +kernel
theorem dL_looks_158 : decode cL_looks 158 = .ok (.goto (-31), 3) := by decide +kernel
theorem dL_looks_161 : decode cL_looks 161 = .ok (.iload_n 1, 1) := by decide +kernel
theorem dL_looks_162 : decode cL_looks 162 = .ok (.ireturn, 1) := by decide +kernel
theorem dL_joined_0 : decode cL_joined 0 = .ok (.iload_n 1, 1) := by decide +kernel
theorem dL_joined_1 : decode cL_joined 1 = .ok (.iconst 5, 1) := by decide +kernel
theorem dL_joined_2 : decode cL_joined 2 = .ok (.idiv, 1) := by decide +kernel
theorem dL_joined_3 : decode cL_joined 3 = .ok (.iload_n 2, 1) := by decide +kernel
theorem dL_joined_4 : decode cL_joined 4 = .ok (.ifCond .ne 7, 3) := by decide +kernel
theorem dL_joined_7 : decode cL_joined 7 = .ok (.iconst 1, 1) := by decide +kernel
theorem dL_joined_8 : decode cL_joined 8 = .ok (.goto 4, 3) := by decide +kernel
theorem dL_joined_11 : decode cL_joined 11 = .ok (.iconst 0, 1) := by decide +kernel
theorem dL_joined_12 : decode cL_joined 12 = .ok (.isub, 1) := by decide +kernel
theorem dL_joined_13 : decode cL_joined 13 = .ok (.iload_n 2, 1) := by decide +kernel
theorem dL_joined_14 : decode cL_joined 14 = .ok (.iconst 2, 1) := by decide +kernel
theorem dL_joined_15 : decode cL_joined 15 = .ok (.if_icmp .ne 7, 3) := by decide +kernel
theorem dL_joined_18 : decode cL_joined 18 = .ok (.iconst 1, 1) := by decide +kernel
theorem dL_joined_19 : decode cL_joined 19 = .ok (.goto 4, 3) := by decide +kernel
theorem dL_joined_22 : decode cL_joined 22 = .ok (.iconst 0, 1) := by decide +kernel
theorem dL_joined_23 : decode cL_joined 23 = .ok (.iadd, 1) := by decide +kernel
theorem dL_joined_24 : decode cL_joined 24 = .ok (.istore_n 3, 1) := by decide +kernel
theorem dL_joined_25 : decode cL_joined 25 = .ok (.iload_n 1, 1) := by decide +kernel
theorem dL_joined_26 : decode cL_joined 26 = .ok (.iconst 5, 1) := by decide +kernel
theorem dL_joined_27 : decode cL_joined 27 = .ok (.irem, 1) := by decide +kernel
theorem dL_joined_28 : decode cL_joined 28 = .ok (.iload_n 2, 1) := by decide +kernel
theorem dL_joined_29 : decode cL_joined 29 = .ok (.iconst 1, 1) := by decide +kernel
theorem dL_joined_30 : decode cL_joined 30 = .ok (.if_icmp .ne 7, 3) := by decide +kernel
theorem dL_joined_33 : decode cL_joined 33 = .ok (.iconst 1, 1) := by decide +kernel
theorem dL_joined_34 : decode cL_joined 34 = .ok (.goto 4, 3) := by decide +kernel
theorem dL_joined_37 : decode cL_joined 37 = .ok (.iconst 0, 1) := by decide +kernel
theorem dL_joined_38 : decode cL_joined 38 = .ok (.iadd, 1) := by decide +kernel
theorem dL_joined_39 : decode cL_joined 39 = .ok (.iload_n 2, 1) := by decide +kernel
theorem dL_joined_40 : decode cL_joined 40 = .ok (.iconst 3, 1) := by decide +kernel
theorem dL_joined_41 : decode cL_joined 41 = .ok (.if_icmp .ne 7, 3) := by decide +kernel
theorem dL_joined_44 : decode cL_joined 44 = .ok (.iconst 1, 1) := by decide +kernel
theorem dL_joined_45 : decode cL_joined 45 = .ok (.goto 4, 3) := by decide +kernel
theorem dL_joined_48 : decode cL_joined 48 = .ok (.iconst 0, 1) := by decide +kernel
theorem dL_joined_49 : decode cL_joined 49 = .ok (.isub, 1) := by decide +kernel
theorem dL_joined_50 : decode cL_joined 50 = .ok (.istore 4, 2) := by decide +kernel
theorem dL_joined_52 : decode cL_joined 52 = .ok (.iload_n 3, 1) := by decide +kernel
theorem dL_joined_53 : decode cL_joined 53 = .ok (.ifCond .lt 19, 3) := by decide +kernel
theorem dL_joined_56 : decode cL_joined 56 = .ok (.iload_n 3, 1) := by decide +kernel
theorem dL_joined_57 : decode cL_joined 57 = .ok (.iconst 4, 1) := by decide +kernel
theorem dL_joined_58 : decode cL_joined 58 = .ok (.if_icmp .gt 14, 3) := by decide +kernel
theorem dL_joined_61 : decode cL_joined 61 = .ok (.iload 4, 2) := by decide +kernel
theorem dL_joined_63 : decode cL_joined 63 = .ok (.ifCond .lt 9, 3) := by decide +kernel
theorem dL_joined_66 : decode cL_joined 66 = .ok (.iload 4, 2) := by decide +kernel
theorem dL_joined_68 : decode cL_joined 68 = .ok (.iconst 4, 1) := by decide +kernel
theorem dL_joined_69 : decode cL_joined 69 = .ok (.if_icmp .le 5, 3) := by decide +kernel
theorem dL_joined_72 : decode cL_joined 72 = .ok (.iconst (-1), 1) := by decide +kernel
theorem dL_joined_73 : decode cL_joined 73 = .ok (.ireturn, 1) := by decide +kernel
theorem dL_joined_74 : decode cL_joined 74 = .ok (.aload_n 0, 1) := by decide +kernel
theorem dL_joined_75 : decode cL_joined 75 = .ok (.iload_n 1, 1) := by decide +kernel
theorem dL_joined_76 : decode cL_joined 76 = .ok (.iconst 5, 1) := by decide +kernel
theorem dL_joined_77 : decode cL_joined 77 = .ok (.idiv, 1) := by decide +kernel
theorem dL_joined_78 : decode cL_joined 78 = .ok (.iload_n 1, 1) := by decide +kernel
theorem dL_joined_79 : decode cL_joined 79 = .ok (.iconst 5, 1) := by decide +kernel
theorem dL_joined_80 : decode cL_joined 80 = .ok (.irem, 1) := by decide +kernel
theorem dL_joined_81 : decode cL_joined 81 = .ok (.invokevirtual 73, 3) := by decide +kernel
theorem dL_joined_84 : decode cL_joined 84 = .ok (.iload_n 2, 1) := by decide +kernel
theorem dL_joined_85 : decode cL_joined 85 = .ok (.ishr, 1) := by decide +kernel
theorem dL_joined_86 : decode cL_joined 86 = .ok (.iconst 2, 1) := by decide +kernel
theorem dL_joined_87 : decode cL_joined 87 = .ok (.irem, 1) := by decide +kernel
theorem dL_joined_88 : decode cL_joined 88 = .ok (.iconst 1, 1) := by decide +kernel
theorem dL_joined_89 : decode cL_joined 89 = .ok (.if_icmp .ne 7, 3) := by decide +kernel
theorem dL_joined_92 : decode cL_joined 92 = .ok (.iconst 1, 1) := by decide +kernel
theorem dL_joined_93 : decode cL_joined 93 = .ok (.goto 4, 3) := by decide +kernel
theorem dL_joined_96 : decode cL_joined 96 = .ok (.iconst 0, 1) := by decide +kernel
theorem dL_joined_97 : decode cL_joined 97 = .ok (.istore 5, 2) := by decide +kernel
theorem dL_joined_99 : decode cL_joined 99 = .ok (.aload_n 0, 1) := by decide +kernel
theorem dL_joined_100 : decode cL_joined 100 = .ok (.iload_n 3, 1) := by decide +kernel
theorem dL_joined_101 : decode cL_joined 101 = .ok (.iload 4, 2) := by decide +kernel
theorem dL_joined_103 : decode cL_joined 103 = .ok (.invokevirtual 73, 3) := by decide +kernel
theorem dL_joined_106 : decode cL_joined 106 = .ok (.iload_n 2, 1) := by decide +kernel
theorem dL_joined_107 : decode cL_joined 107 = .ok (.iconst 2, 1) := by decide +kernel
theorem dL_joined_108 : decode cL_joined 108 = .ok (.iadd, 1) := by decide +kernel
theorem dL_joined_109 : decode cL_joined 109 = .ok (.iconst 4, 1) := by decide +kernel
theorem dL_joined_110 : decode cL_joined 110 = .ok (.irem, 1) := by decide +kernel
theorem dL_joined_111 : decode cL_joined 111 = .ok (.ishr, 1) := by decide +kernel
theorem dL_joined_112 : decode cL_joined 112 = .ok (.iconst 2, 1) := by decide +kernel
theorem dL_joined_113 : decode cL_joined 113 = .ok (.irem, 1) := by decide +kernel
theorem dL_joined_114 : decode cL_joined 114 = .ok (.iconst 1, 1) := by decide +kernel
theorem dL_joined_115 : decode cL_joined 115 = .ok (.if_icmp .ne 7, 3) := by decide +kernel
theorem dL_joined_118 : decode cL_joined 118 = .ok (.iconst 1, 1) := by decide +kernel
theorem dL_joined_119 : decode cL_joined 119 = .ok (.goto 4, 3) := by decide +kernel
theorem dL_joined_122 : decode cL_joined 122 = .ok (.iconst 0, 1) := by decide +kernel
theorem dL_joined_123 : decode cL_joined 123 = .ok (.istore 6, 2) := by decide +kernel
theorem dL_joined_125 : decode cL_joined 125 = .ok (.iload 5, 2) := by decide +kernel
theorem dL_joined_127 : decode cL_joined 127 = .ok (.ifCond .eq 17, 3) := by decide +kernel
theorem dL_joined_130 : decode cL_joined 130 = .ok (.iload 6, 2) := by decide +kernel
theorem dL_joined_132 : decode cL_joined 132 = .ok (.ifCond .eq 12, 3) := by decide +kernel
theorem dL_joined_135 : decode cL_joined 135 = .ok (.iconst 5, 1) := by decide +kernel
theorem dL_joined_136 : decode cL_joined 136 = .ok (.iload_n 3, 1) := by decide +kernel
theorem dL_joined_137 : decode cL_joined 137 = .ok (.imul, 1) := by decide +kernel
theorem dL_joined_138 : decode cL_joined 138 = .ok (.iload 4, 2) := by decide +kernel
theorem dL_joined_140 : decode cL_joined 140 = .ok (.iadd, 1) := by decide +kernel
theorem dL_joined_141 : decode cL_joined 141 = .ok (.goto 4, 3) := by decide +kernel
theorem dL_joined_144 : decode cL_joined 144 = .ok (.iconst (-1), 1) := by decide +kernel
theorem dL_joined_145 : decode cL_joined 145 = .ok (.ireturn, 1) := by decide +kernel
theorem dL_mayEnter_0 : decode cL_mayEnter 0 = .ok (.aload_n 0, 1) := by decide +kernel
theorem dL_mayEnter_1 : decode cL_mayEnter 1 = .ok (.iconst 1, 1) := by decide +kernel
theorem dL_mayEnter_2 : decode cL_mayEnter 2 = .ok (.iload_n 2, 1) := by decide +kernel
theorem dL_mayEnter_3 : decode cL_mayEnter 3 = .ok (.iconst 5, 1) := by decide +kernel
theorem dL_mayEnter_4 : decode cL_mayEnter 4 = .ok (.idiv, 1) := by decide +kernel
theorem dL_mayEnter_5 : decode cL_mayEnter 5 = .ok (.iload_n 2, 1) := by decide +kernel
theorem dL_mayEnter_6 : decode cL_mayEnter 6 = .ok (.iconst 5, 1) := by decide +kernel
theorem dL_mayEnter_7 : decode cL_mayEnter 7 = .ok (.irem, 1) := by decide +kernel
theorem dL_mayEnter_8 : decode cL_mayEnter 8 = .ok (.iconst 0, 1) := by decide +kernel
theorem dL_mayEnter_9 : decode cL_mayEnter 9 = .ok (.invokestatic 162, 3) := by decide +kernel
theorem dL_mayEnter_12 : decode cL_mayEnter 12 = .ok (.istore_n 3, 1) := by decide +kernel
theorem dL_mayEnter_13 : decode cL_mayEnter 13 = .ok (.iload_n 3, 1) := by decide +kernel
theorem dL_mayEnter_14 : decode cL_mayEnter 14 = .ok (.ifCond .lt 18, 3) := by decide +kernel
theorem dL_mayEnter_17 : decode cL_mayEnter 17 = .ok (.aload_n 0, 1) := by decide +kernel
theorem dL_mayEnter_18 : decode cL_mayEnter 18 = .ok (.iconst 4, 1) := by decide +kernel
theorem dL_mayEnter_19 : decode cL_mayEnter 19 = .ok (.iload_n 3, 1) := by decide +kernel
theorem dL_mayEnter_20 : decode cL_mayEnter 20 = .ok (.bipush 97, 2) := by decide +kernel
theorem dL_mayEnter_22 : decode cL_mayEnter 22 = .ok (.isub, 1) := by decide +kernel
theorem dL_mayEnter_23 : decode cL_mayEnter 23 = .ok (.iconst 0, 1) := by decide +kernel
theorem dL_mayEnter_24 : decode cL_mayEnter 24 = .ok (.iconst 0, 1) := by decide +kernel
theorem dL_mayEnter_25 : decode cL_mayEnter 25 = .ok (.invokestatic 162, 3) := by decide +kernel
theorem dL_mayEnter_28 : decode cL_mayEnter 28 = .ok (.iload_n 1, 1) := by decide +kernel
theorem dL_mayEnter_29 : decode cL_mayEnter 29 = .ok (.if_icmp .ne 7, 3) := by decide +kernel
theorem dL_mayEnter_32 : decode cL_mayEnter 32 = .ok (.iconst 1, 1) := by decide +kernel
theorem dL_mayEnter_33 : decode cL_mayEnter 33 = .ok (.goto 4, 3) := by decide +kernel
theorem dL_mayEnter_36 : decode cL_mayEnter 36 = .ok (.iconst 0, 1) := by decide +kernel
theorem dL_mayEnter_37 : decode cL_mayEnter 37 = .ok (.ireturn, 1) := by decide +kernel
theorem dL_lengths_0 : decode cL_lengths 0 = .ok (.bipush 25, 2) := by decide +kernel
theorem dL_lengths_2 : decode cL_lengths 2 = .ok (.newarray .int, 2) := by decide +kernel
theorem dL_lengths_4 : decode cL_lengths 4 = .ok (.astore_n 3, 1) := by decide +kernel
theorem dL_lengths_5 : decode cL_lengths 5 = .ok (.iconst 0, 1) := by decide +kernel
theorem dL_lengths_6 : decode cL_lengths 6 = .ok (.istore 4, 2) := by decide +kernel
theorem dL_lengths_8 : decode cL_lengths 8 = .ok (.iload 4, 2) := by decide +kernel
theorem dL_lengths_10 : decode cL_lengths 10 = .ok (.bipush 25, 2) := by decide +kernel
theorem dL_lengths_12 : decode cL_lengths 12 = .ok (.if_icmp .ge 25, 3) := by decide +kernel
theorem dL_lengths_15 : decode cL_lengths 15 = .ok (.aload_n 3, 1) := by decide +kernel
theorem dL_lengths_16 : decode cL_lengths 16 = .ok (.iload 4, 2) := by decide +kernel
theorem dL_lengths_18 : decode cL_lengths 18 = .ok (.iload 4, 2) := by decide +kernel
theorem dL_lengths_20 : decode cL_lengths 20 = .ok (.iload_n 2, 1) := by decide +kernel
theorem dL_lengths_21 : decode cL_lengths 21 = .ok (.if_icmp .ne 7, 3) := by decide +kernel
theorem dL_lengths_24 : decode cL_lengths 24 = .ok (.iconst 0, 1) := by decide +kernel
theorem dL_lengths_25 : decode cL_lengths 25 = .ok (.goto 5, 3) := by decide +kernel
theorem dL_lengths_28 : decode cL_lengths 28 = .ok (.bipush 99, 2) := by decide +kernel
theorem dL_lengths_30 : decode cL_lengths 30 = .ok (.iastore, 1) := by decide +kernel
theorem dL_lengths_31 : decode cL_lengths 31 = .ok (.iinc 4 1, 3) := by decide +kernel
theorem dL_lengths_34 : decode cL_lengths 34 = .ok (.goto (-26), 3) := by decide +kernel
theorem dL_lengths_37 : decode cL_lengths 37 = .ok (.iconst 1, 1) := by decide +kernel
theorem dL_lengths_38 : decode cL_lengths 38 = .ok (.istore 4, 2) := by decide +kernel
theorem dL_lengths_40 : decode cL_lengths 40 = .ok (.iload 4, 2) := by decide +kernel
theorem dL_lengths_42 : decode cL_lengths 42 = .ok (.ifCond .eq 99, 3) := by decide +kernel
theorem dL_lengths_45 : decode cL_lengths 45 = .ok (.iconst 0, 1) := by decide +kernel
theorem dL_lengths_46 : decode cL_lengths 46 = .ok (.istore 4, 2) := by decide +kernel
theorem dL_lengths_48 : decode cL_lengths 48 = .ok (.iconst 0, 1) := by decide +kernel
theorem dL_lengths_49 : decode cL_lengths 49 = .ok (.istore 5, 2) := by decide +kernel
theorem dL_lengths_51 : decode cL_lengths 51 = .ok (.iload 5, 2) := by decide +kernel
theorem dL_lengths_53 : decode cL_lengths 53 = .ok (.bipush 100, 2) := by decide +kernel
theorem dL_lengths_55 : decode cL_lengths 55 = .ok (.if_icmp .ge 83, 3) := by decide +kernel
theorem dL_lengths_58 : decode cL_lengths 58 = .ok (.aload_n 3, 1) := by decide +kernel
theorem dL_lengths_59 : decode cL_lengths 59 = .ok (.iload 5, 2) := by decide +kernel
theorem dL_lengths_61 : decode cL_lengths 61 = .ok (.iconst 4, 1) := by decide +kernel
theorem dL_lengths_62 : decode cL_lengths 62 = .ok (.idiv, 1) := by decide +kernel
theorem dL_lengths_63 : decode cL_lengths 63 = .ok (.iaload, 1) := by decide +kernel
theorem dL_lengths_64 : decode cL_lengths 64 = .ok (.bipush 99, 2) := by decide +kernel
theorem dL_lengths_66 : decode cL_lengths 66 = .ok (.if_icmp .ne 7, 3) := by decide +kernel
theorem dL_lengths_69 : decode cL_lengths 69 = .ok (.iconst (-1), 1) := by decide +kernel
theorem dL_lengths_70 : decode cL_lengths 70 = .ok (.goto 15, 3) := by decide +kernel
theorem dL_lengths_73 : decode cL_lengths 73 = .ok (.aload_n 0, 1) := by decide +kernel
theorem dL_lengths_74 : decode cL_lengths 74 = .ok (.iload 5, 2) := by decide +kernel
theorem dL_lengths_76 : decode cL_lengths 76 = .ok (.iconst 4, 1) := by decide +kernel
theorem dL_lengths_77 : decode cL_lengths 77 = .ok (.idiv, 1) := by decide +kernel
theorem dL_lengths_78 : decode cL_lengths 78 = .ok (.iload 5, 2) := by decide +kernel
theorem dL_lengths_80 : decode cL_lengths 80 = .ok (.iconst 4, 1) := by decide +kernel
theorem dL_lengths_81 : decode cL_lengths 81 = .ok (.irem, 1) := by decide +kernel
theorem dL_lengths_82 : decode cL_lengths 82 = .ok (.invokestatic 171, 3) := by decide +kernel
theorem dL_lengths_85 : decode cL_lengths 85 = .ok (.istore 6, 2) := by decide +kernel
theorem dL_lengths_87 : decode cL_lengths 87 = .ok (.iload 6, 2) := by decide +kernel
theorem dL_lengths_89 : decode cL_lengths 89 = .ok (.ifCond .lt 43, 3) := by decide +kernel
theorem dL_lengths_92 : decode cL_lengths 92 = .ok (.aload_n 3, 1) := by decide +kernel
theorem dL_lengths_93 : decode cL_lengths 93 = .ok (.iload 6, 2) := by decide +kernel
theorem dL_lengths_95 : decode cL_lengths 95 = .ok (.iaload, 1) := by decide +kernel
theorem dL_lengths_96 : decode cL_lengths 96 = .ok (.aload_n 3, 1) := by decide +kernel
theorem dL_lengths_97 : decode cL_lengths 97 = .ok (.iload 5, 2) := by decide +kernel
theorem dL_lengths_99 : decode cL_lengths 99 = .ok (.iconst 4, 1) := by decide +kernel
theorem dL_lengths_100 : decode cL_lengths 100 = .ok (.idiv, 1) := by decide +kernel
theorem dL_lengths_101 : decode cL_lengths 101 = .ok (.iaload, 1) := by decide +kernel
theorem dL_lengths_102 : decode cL_lengths 102 = .ok (.iconst 1, 1) := by decide +kernel
theorem dL_lengths_103 : decode cL_lengths 103 = .ok (.iadd, 1) := by decide +kernel
theorem dL_lengths_104 : decode cL_lengths 104 = .ok (.if_icmp .le 28, 3) := by decide +kernel
theorem dL_lengths_107 : decode cL_lengths 107 = .ok (.aload_n 0, 1) := by decide +kernel
theorem dL_lengths_108 : decode cL_lengths 108 = .ok (.iload_n 1, 1) := by decide +kernel
theorem dL_lengths_109 : decode cL_lengths 109 = .ok (.iload 6, 2) := by decide +kernel
theorem dL_lengths_111 : decode cL_lengths 111 = .ok (.invokestatic 175, 3) := by decide +kernel
theorem dL_lengths_114 : decode cL_lengths 114 = .ok (.ifCond .eq 18, 3) := by decide +kernel
theorem dL_lengths_117 : decode cL_lengths 117 = .ok (.aload_n 3, 1) := by decide +kernel
theorem dL_lengths_118 : decode cL_lengths 118 = .ok (.iload 6, 2) := by decide +kernel
theorem dL_lengths_120 : decode cL_lengths 120 = .ok (.aload_n 3, 1) := by decide +kernel
theorem dL_lengths_121 : decode cL_lengths 121 = .ok (.iload 5, 2) := by decide +kernel
theorem dL_lengths_123 : decode cL_lengths 123 = .ok (.iconst 4, 1) := by decide +kernel
theorem dL_lengths_124 : decode cL_lengths 124 = .ok (.idiv, 1) := by decide +kernel
theorem dL_lengths_125 : decode cL_lengths 125 = .ok (.iaload, 1) := by decide +kernel
theorem dL_lengths_126 : decode cL_lengths 126 = .ok (.iconst 1, 1) := by decide +kernel
theorem dL_lengths_127 : decode cL_lengths 127 = .ok (.iadd, 1) := by decide +kernel
theorem dL_lengths_128 : decode cL_lengths 128 = .ok (.iastore, 1) := by decide +kernel
theorem dL_lengths_129 : decode cL_lengths 129 = .ok (.iconst 1, 1) := by decide +kernel
theorem dL_lengths_130 : decode cL_lengths 130 = .ok (.istore 4, 2) := by decide +kernel
theorem dL_lengths_132 : decode cL_lengths 132 = .ok (.iinc 5 1, 3) := by decide +kernel
theorem dL_lengths_135 : decode cL_lengths 135 = .ok (.goto (-84), 3) := by decide +kernel
theorem dL_lengths_138 : decode cL_lengths 138 = .ok (.goto (-98), 3) := by decide +kernel
theorem dL_lengths_141 : decode cL_lengths 141 = .ok (.aload_n 3, 1) := by decide +kernel
theorem dL_lengths_142 : decode cL_lengths 142 = .ok (.areturn, 1) := by decide +kernel
theorem dL_areTilesRight_0 : decode cL_areTilesRight 0 = .ok (.bipush 25, 2) := by decide +kernel
theorem dL_areTilesRight_2 : decode cL_areTilesRight 2 = .ok (.newarray .int, 2) := by decide +kernel
theorem dL_areTilesRight_4 : decode cL_areTilesRight 4 = .ok (.astore_n 1, 1) := by decide +kernel
theorem dL_areTilesRight_5 : decode cL_areTilesRight 5 = .ok (.iconst 0, 1) := by decide +kernel
theorem dL_areTilesRight_6 : decode cL_areTilesRight 6 = .ok (.istore_n 2, 1) := by decide +kernel
theorem dL_areTilesRight_7 : decode cL_areTilesRight 7 = .ok (.aload_n 0, 1) := by decide +kernel
theorem dL_areTilesRight_8 : decode cL_areTilesRight 8 = .ok (.iconst 0, 1) := by decide +kernel
theorem dL_areTilesRight_9 : decode cL_areTilesRight 9 = .ok (.iconst 5, 1) := by decide +kernel
theorem dL_areTilesRight_10 : decode cL_areTilesRight 10 = .ok (.iconst 0, 1) := by decide +kernel
theorem dL_areTilesRight_11 : decode cL_areTilesRight 11 = .ok (.iconst 0, 1) := by decide +kernel
theorem dL_areTilesRight_12 : decode cL_areTilesRight 12 = .ok (.invokestatic 162, 3) := by decide +kernel
theorem dL_areTilesRight_15 : decode cL_areTilesRight 15 = .ok (.sipush (-2002), 3) := by decide +kernel
theorem dL_areTilesRight_18 : decode cL_areTilesRight 18 = .ok (.if_icmp .ne 79, 3) := by decide +kernel
theorem dL_areTilesRight_21 : decode cL_areTilesRight 21 = .ok (.aload_n 0, 1) := by decide +kernel
theorem dL_areTilesRight_22 : decode cL_areTilesRight 22 = .ok (.iconst 0, 1) := by decide +kernel
theorem dL_areTilesRight_23 : decode cL_areTilesRight 23 = .ok (.iconst 0, 1) := by decide +kernel
theorem dL_areTilesRight_24 : decode cL_areTilesRight 24 = .ok (.iconst (-1), 1) := by decide +kernel
theorem dL_areTilesRight_25 : decode cL_areTilesRight 25 = .ok (.iconst 0, 1) := by decide +kernel
theorem dL_areTilesRight_26 : decode cL_areTilesRight 26 = .ok (.invokestatic 162, 3) := by decide +kernel
theorem dL_areTilesRight_29 : decode cL_areTilesRight 29 = .ok (.sipush (-2002), 3) := by decide +kernel
theorem dL_areTilesRight_32 : decode cL_areTilesRight 32 = .ok (.if_icmp .ne 65, 3) := by decide +kernel
theorem dL_areTilesRight_35 : decode cL_areTilesRight 35 = .ok (.aload_n 0, 1) := by decide +kernel
theorem dL_areTilesRight_36 : decode cL_areTilesRight 36 = .ok (.iconst 2, 1) := by decide +kernel
theorem dL_areTilesRight_37 : decode cL_areTilesRight 37 = .ok (.iconst 0, 1) := by decide +kernel
theorem dL_areTilesRight_38 : decode cL_areTilesRight 38 = .ok (.iconst 0, 1) := by decide +kernel
theorem dL_areTilesRight_39 : decode cL_areTilesRight 39 = .ok (.iconst 4, 1) := by decide +kernel
theorem dL_areTilesRight_40 : decode cL_areTilesRight 40 = .ok (.invokestatic 162, 3) := by decide +kernel
theorem dL_areTilesRight_43 : decode cL_areTilesRight 43 = .ok (.sipush (-2003), 3) := by decide +kernel
theorem dL_areTilesRight_46 : decode cL_areTilesRight 46 = .ok (.if_icmp .ne 51, 3) := by decide +kernel
theorem dL_areTilesRight_49 : decode cL_areTilesRight 49 = .ok (.aload_n 0, 1) := by decide +kernel
theorem dL_areTilesRight_50 : decode cL_areTilesRight 50 = .ok (.bipush 13, 2) := by decide +kernel
theorem dL_areTilesRight_52 : decode cL_areTilesRight 52 = .ok (.iconst 5, 1) := by decide +kernel
theorem dL_areTilesRight_53 : decode cL_areTilesRight 53 = .ok (.iconst 0, 1) := by decide +kernel
theorem dL_areTilesRight_54 : decode cL_areTilesRight 54 = .ok (.iconst 0, 1) := by decide +kernel
theorem dL_areTilesRight_55 : decode cL_areTilesRight 55 = .ok (.invokestatic 162, 3) := by decide +kernel
theorem dL_areTilesRight_58 : decode cL_areTilesRight 58 = .ok (.sipush (-2002), 3) := by decide +kernel
theorem dL_areTilesRight_61 : decode cL_areTilesRight 61 = .ok (.if_icmp .ne 36, 3) := by decide +kernel
theorem dL_areTilesRight_64 : decode cL_areTilesRight 64 = .ok (.aload_n 0, 1) := by decide +kernel
theorem dL_areTilesRight_65 : decode cL_areTilesRight 65 = .ok (.iconst 3, 1) := by decide +kernel
theorem dL_areTilesRight_66 : decode cL_areTilesRight 66 = .ok (.bipush 6, 2) := by decide +kernel
theorem dL_areTilesRight_68 : decode cL_areTilesRight 68 = .ok (.iconst 0, 1) := by decide +kernel
theorem dL_areTilesRight_69 : decode cL_areTilesRight 69 = .ok (.iconst 0, 1) := by decide +kernel
theorem dL_areTilesRight_70 : decode cL_areTilesRight 70 = .ok (.invokestatic 162, 3) := by decide +kernel
theorem dL_areTilesRight_73 : decode cL_areTilesRight 73 = .ok (.sipush (-2003), 3) := by decide +kernel
theorem dL_areTilesRight_76 : decode cL_areTilesRight 76 = .ok (.if_icmp .ne 21, 3) := by decide +kernel
theorem dL_areTilesRight_79 : decode cL_areTilesRight 79 = .ok (.aload_n 0, 1) := by decide +kernel
theorem dL_areTilesRight_80 : decode cL_areTilesRight 80 = .ok (.iconst 4, 1) := by decide +kernel
theorem dL_areTilesRight_81 : decode cL_areTilesRight 81 = .ok (.iconst (-1), 1) := by decide +kernel
theorem dL_areTilesRight_82 : decode cL_areTilesRight 82 = .ok (.iconst 0, 1) := by decide +kernel
theorem dL_areTilesRight_83 : decode cL_areTilesRight 83 = .ok (.iconst 0, 1) := by decide +kernel
theorem dL_areTilesRight_84 : decode cL_areTilesRight 84 = .ok (.invokestatic 162, 3) := by decide +kernel
theorem dL_areTilesRight_87 : decode cL_areTilesRight 87 = .ok (.sipush (-2003), 3) := by decide +kernel
theorem dL_areTilesRight_90 : decode cL_areTilesRight 90 = .ok (.if_icmp .ne 7, 3) := by decide +kernel
theorem dL_areTilesRight_93 : decode cL_areTilesRight 93 = .ok (.iconst 1, 1) := by decide +kernel
theorem dL_areTilesRight_94 : decode cL_areTilesRight 94 = .ok (.goto 4, 3) := by decide +kernel
theorem dL_areTilesRight_97 : decode cL_areTilesRight 97 = .ok (.iconst 0, 1) := by decide +kernel
theorem dL_areTilesRight_98 : decode cL_areTilesRight 98 = .ok (.istore_n 3, 1) := by decide +kernel
theorem dL_areTilesRight_99 : decode cL_areTilesRight 99 = .ok (.iconst 0, 1) := by decide +kernel
theorem dL_areTilesRight_100 : decode cL_areTilesRight 100 = .ok (.istore 4, 2) := by decide +kernel
theorem dL_areTilesRight_102 : decode cL_areTilesRight 102 = .ok (.iload 4, 2) := by decide +kernel
theorem dL_areTilesRight_104 : decode cL_areTilesRight 104 = .ok (.bipush 25, 2) := by decide +kernel
theorem dL_areTilesRight_106 : decode cL_areTilesRight 106 = .ok (.if_icmp .ge 198, 3) := by decide +kernel
theorem dL_areTilesRight_109 : decode cL_areTilesRight 109 = .ok (.aload_n 1, 1) := by decide +kernel
theorem dL_areTilesRight_110 : decode cL_areTilesRight 110 = .ok (.iload 4, 2) := by decide +kernel
theorem dL_areTilesRight_112 : decode cL_areTilesRight 112 = .ok (.iload 4, 2) := by decide +kernel
theorem dL_areTilesRight_114 : decode cL_areTilesRight 114 = .ok (.iastore, 1) := by decide +kernel
theorem dL_areTilesRight_115 : decode cL_areTilesRight 115 = .ok (.iload_n 2, 1) := by decide +kernel
theorem dL_areTilesRight_116 : decode cL_areTilesRight 116 = .ok (.aload_n 0, 1) := by decide +kernel
theorem dL_areTilesRight_117 : decode cL_areTilesRight 117 = .ok (.iload 4, 2) := by decide +kernel
theorem dL_areTilesRight_119 : decode cL_areTilesRight 119 = .ok (.iconst 5, 1) := by decide +kernel
theorem dL_areTilesRight_120 : decode cL_areTilesRight 120 = .ok (.idiv, 1) := by decide +kernel
theorem dL_areTilesRight_121 : decode cL_areTilesRight 121 = .ok (.iload 4, 2) := by decide +kernel
theorem dL_areTilesRight_123 : decode cL_areTilesRight 123 = .ok (.iconst 5, 1) := by decide +kernel
theorem dL_areTilesRight_124 : decode cL_areTilesRight 124 = .ok (.irem, 1) := by decide +kernel
theorem dL_areTilesRight_125 : decode cL_areTilesRight 125 = .ok (.invokevirtual 73, 3) := by decide +kernel
theorem dL_areTilesRight_128 : decode cL_areTilesRight 128 = .ok (.invokestatic 179, 3) := by decide +kernel
theorem dL_areTilesRight_131 : decode cL_areTilesRight 131 = .ok (.iadd, 1) := by decide +kernel
theorem dL_areTilesRight_132 : decode cL_areTilesRight 132 = .ok (.istore_n 2, 1) := by decide +kernel
theorem dL_areTilesRight_133 : decode cL_areTilesRight 133 = .ok (.iconst 0, 1) := by decide +kernel
theorem dL_areTilesRight_134 : decode cL_areTilesRight 134 = .ok (.istore 5, 2) := by decide +kernel
theorem dL_areTilesRight_136 : decode cL_areTilesRight 136 = .ok (.iconst 0, 1) := by decide +kernel
theorem dL_areTilesRight_137 : decode cL_areTilesRight 137 = .ok (.istore 6, 2) := by decide +kernel
theorem dL_areTilesRight_139 : decode cL_areTilesRight 139 = .ok (.iload 6, 2) := by decide +kernel
theorem dL_areTilesRight_141 : decode cL_areTilesRight 141 = .ok (.bipush 6, 2) := by decide +kernel
theorem dL_areTilesRight_143 : decode cL_areTilesRight 143 = .ok (.if_icmp .ge 33, 3) := by decide +kernel
theorem dL_areTilesRight_146 : decode cL_areTilesRight 146 = .ok (.iload 5, 2) := by decide +kernel
theorem dL_areTilesRight_148 : decode cL_areTilesRight 148 = .ok (.aload_n 0, 1) := by decide +kernel
theorem dL_areTilesRight_149 : decode cL_areTilesRight 149 = .ok (.iconst 3, 1) := by decide +kernel
theorem dL_areTilesRight_150 : decode cL_areTilesRight 150 = .ok (.iload 6, 2) := by decide +kernel
theorem dL_areTilesRight_152 : decode cL_areTilesRight 152 = .ok (.iconst 0, 1) := by decide +kernel
theorem dL_areTilesRight_153 : decode cL_areTilesRight 153 = .ok (.iconst 0, 1) := by decide +kernel
theorem dL_areTilesRight_154 : decode cL_areTilesRight 154 = .ok (.invokestatic 162, 3) := by decide +kernel
theorem dL_areTilesRight_157 : decode cL_areTilesRight 157 = .ok (.iload 4, 2) := by decide +kernel
theorem dL_areTilesRight_159 : decode cL_areTilesRight 159 = .ok (.if_icmp .ne 7, 3) := by decide +kernel
theorem dL_areTilesRight_162 : decode cL_areTilesRight 162 = .ok (.iconst 1, 1) := by decide +kernel
theorem dL_areTilesRight_163 : decode cL_areTilesRight 163 = .ok (.goto 4, 3) := by decide +kernel
theorem dL_areTilesRight_166 : decode cL_areTilesRight 166 = .ok (.iconst 0, 1) := by decide +kernel
theorem dL_areTilesRight_167 : decode cL_areTilesRight 167 = .ok (.iadd, 1) := by decide +kernel
theorem dL_areTilesRight_168 : decode cL_areTilesRight 168 = .ok (.istore 5, 2) := by decide +kernel
theorem dL_areTilesRight_170 : decode cL_areTilesRight 170 = .ok (.iinc 6 1, 3) := by decide +kernel
theorem dL_areTilesRight_173 : decode cL_areTilesRight 173 = .ok (.goto (-34), 3) := by decide +kernel
theorem dL_areTilesRight_176 : decode cL_areTilesRight 176 = .ok (.iload_n 3, 1) := by decide +kernel
theorem dL_areTilesRight_177 : decode cL_areTilesRight 177 = .ok (.ifCond .eq 61, 3) := by decide +kernel
theorem dL_areTilesRight_180 : decode cL_areTilesRight 180 = .ok (.aload_n 0, 1) := by decide +kernel
theorem dL_areTilesRight_181 : decode cL_areTilesRight 181 = .ok (.iload 4, 2) := by decide +kernel
theorem dL_areTilesRight_183 : decode cL_areTilesRight 183 = .ok (.iconst 5, 1) := by decide +kernel
theorem dL_areTilesRight_184 : decode cL_areTilesRight 184 = .ok (.idiv, 1) := by decide +kernel
theorem dL_areTilesRight_185 : decode cL_areTilesRight 185 = .ok (.iload 4, 2) := by decide +kernel
theorem dL_areTilesRight_187 : decode cL_areTilesRight 187 = .ok (.iconst 5, 1) := by decide +kernel
theorem dL_areTilesRight_188 : decode cL_areTilesRight 188 = .ok (.irem, 1) := by decide +kernel
theorem dL_areTilesRight_189 : decode cL_areTilesRight 189 = .ok (.invokevirtual 184, 3) := by decide +kernel
theorem dL_areTilesRight_192 : decode cL_areTilesRight 192 = .ok (.iload 5, 2) := by decide +kernel
theorem dL_areTilesRight_194 : decode cL_areTilesRight 194 = .ok (.if_icmp .ne 44, 3) := by decide +kernel
theorem dL_areTilesRight_197 : decode cL_areTilesRight 197 = .ok (.aload_n 0, 1) := by decide +kernel
theorem dL_areTilesRight_198 : decode cL_areTilesRight 198 = .ok (.iload 4, 2) := by decide +kernel
theorem dL_areTilesRight_200 : decode cL_areTilesRight 200 = .ok (.iconst 5, 1) := by decide +kernel
theorem dL_areTilesRight_201 : decode cL_areTilesRight 201 = .ok (.idiv, 1) := by decide +kernel
theorem dL_areTilesRight_202 : decode cL_areTilesRight 202 = .ok (.iload 4, 2) := by decide +kernel
theorem dL_areTilesRight_204 : decode cL_areTilesRight 204 = .ok (.iconst 5, 1) := by decide +kernel
theorem dL_areTilesRight_205 : decode cL_areTilesRight 205 = .ok (.irem, 1) := by decide +kernel
theorem dL_areTilesRight_206 : decode cL_areTilesRight 206 = .ok (.invokevirtual 187, 3) := by decide +kernel
theorem dL_areTilesRight_209 : decode cL_areTilesRight 209 = .ok (.aload_n 0, 1) := by decide +kernel
theorem dL_areTilesRight_210 : decode cL_areTilesRight 210 = .ok (.iconst 1, 1) := by decide +kernel
theorem dL_areTilesRight_211 : decode cL_areTilesRight 211 = .ok (.iload 4, 2) := by decide +kernel
theorem dL_areTilesRight_213 : decode cL_areTilesRight 213 = .ok (.iconst 5, 1) := by decide +kernel
theorem dL_areTilesRight_214 : decode cL_areTilesRight 214 = .ok (.idiv, 1) := by decide +kernel
theorem dL_areTilesRight_215 : decode cL_areTilesRight 215 = .ok (.iload 4, 2) := by decide +kernel
theorem dL_areTilesRight_217 : decode cL_areTilesRight 217 = .ok (.iconst 5, 1) := by decide +kernel
theorem dL_areTilesRight_218 : decode cL_areTilesRight 218 = .ok (.irem, 1) := by decide +kernel
theorem dL_areTilesRight_219 : decode cL_areTilesRight 219 = .ok (.iconst 0, 1) := by decide +kernel
theorem dL_areTilesRight_220 : decode cL_areTilesRight 220 = .ok (.invokestatic 162, 3) := by decide +kernel
theorem dL_areTilesRight_223 : decode cL_areTilesRight 223 = .ok (.ifCond .lt 7, 3) := by decide +kernel
theorem dL_areTilesRight_226 : decode cL_areTilesRight 226 = .ok (.iconst 1, 1) := by decide +kernel
theorem dL_areTilesRight_227 : decode cL_areTilesRight 227 = .ok (.goto 4, 3) := by decide +kernel
theorem dL_areTilesRight_230 : decode cL_areTilesRight 230 = .ok (.iconst 0, 1) := by decide +kernel
theorem dL_areTilesRight_231 : decode cL_areTilesRight 231 = .ok (.if_icmp .ne 7, 3) := by decide +kernel
theorem dL_areTilesRight_234 : decode cL_areTilesRight 234 = .ok (.iconst 1, 1) := by decide +kernel
theorem dL_areTilesRight_235 : decode cL_areTilesRight 235 = .ok (.goto 4, 3) := by decide +kernel
theorem dL_areTilesRight_238 : decode cL_areTilesRight 238 = .ok (.iconst 0, 1) := by decide +kernel
theorem dL_areTilesRight_239 : decode cL_areTilesRight 239 = .ok (.istore_n 3, 1) := by decide +kernel
theorem dL_areTilesRight_240 : decode cL_areTilesRight 240 = .ok (.iconst 0, 1) := by decide +kernel
theorem dL_areTilesRight_241 : decode cL_areTilesRight 241 = .ok (.istore 6, 2) := by decide +kernel
theorem dL_areTilesRight_243 : decode cL_areTilesRight 243 = .ok (.iload 6, 2) := by decide +kernel
theorem dL_areTilesRight_245 : decode cL_areTilesRight 245 = .ok (.iconst 4, 1) := by decide +kernel
theorem dL_areTilesRight_246 : decode cL_areTilesRight 246 = .ok (.if_icmp .ge 52, 3) := by decide +kernel
theorem dL_areTilesRight_249 : decode cL_areTilesRight 249 = .ok (.iload_n 3, 1) := by decide +kernel
theorem dL_areTilesRight_250 : decode cL_areTilesRight 250 = .ok (.ifCond .eq 40, 3) := by decide +kernel
theorem dL_areTilesRight_253 : decode cL_areTilesRight 253 = .ok (.aload_n 0, 1) := by decide +kernel
theorem dL_areTilesRight_254 : decode cL_areTilesRight 254 = .ok (.iload 4, 2) := by decide +kernel
theorem dL_areTilesRight_256 : decode cL_areTilesRight 256 = .ok (.iconst 5, 1) := by decide +kernel
theorem dL_areTilesRight_257 : decode cL_areTilesRight 257 = .ok (.idiv, 1) := by decide +kernel
theorem dL_areTilesRight_258 : decode cL_areTilesRight 258 = .ok (.iload 4, 2) := by decide +kernel
theorem dL_areTilesRight_260 : decode cL_areTilesRight 260 = .ok (.iconst 5, 1) := by decide +kernel
theorem dL_areTilesRight_261 : decode cL_areTilesRight 261 = .ok (.irem, 1) := by decide +kernel
theorem dL_areTilesRight_262 : decode cL_areTilesRight 262 = .ok (.iload 6, 2) := by decide +kernel
theorem dL_areTilesRight_264 : decode cL_areTilesRight 264 = .ok (.invokevirtual 79, 3) := by decide +kernel
theorem dL_areTilesRight_267 : decode cL_areTilesRight 267 = .ok (.aload_n 0, 1) := by decide +kernel
theorem dL_areTilesRight_268 : decode cL_areTilesRight 268 = .ok (.iload 4, 2) := by decide +kernel
theorem dL_areTilesRight_270 : decode cL_areTilesRight 270 = .ok (.iload 6, 2) := by decide +kernel
theorem dL_areTilesRight_272 : decode cL_areTilesRight 272 = .ok (.invokestatic 171, 3) := by decide +kernel
theorem dL_areTilesRight_275 : decode cL_areTilesRight 275 = .ok (.ifCond .lt 7, 3) := by decide +kernel
theorem dL_areTilesRight_278 : decode cL_areTilesRight 278 = .ok (.iconst 1, 1) := by decide +kernel
theorem dL_areTilesRight_279 : decode cL_areTilesRight 279 = .ok (.goto 4, 3) := by decide +kernel
theorem dL_areTilesRight_282 : decode cL_areTilesRight 282 = .ok (.iconst 0, 1) := by decide +kernel
theorem dL_areTilesRight_283 : decode cL_areTilesRight 283 = .ok (.if_icmp .ne 7, 3) := by decide +kernel
theorem dL_areTilesRight_286 : decode cL_areTilesRight 286 = .ok (.iconst 1, 1) := by decide +kernel
theorem dL_areTilesRight_287 : decode cL_areTilesRight 287 = .ok (.goto 4, 3) := by decide +kernel
theorem dL_areTilesRight_290 : decode cL_areTilesRight 290 = .ok (.iconst 0, 1) := by decide +kernel
theorem dL_areTilesRight_291 : decode cL_areTilesRight 291 = .ok (.istore_n 3, 1) := by decide +kernel
theorem dL_areTilesRight_292 : decode cL_areTilesRight 292 = .ok (.iinc 6 1, 3) := by decide +kernel
theorem dL_areTilesRight_295 : decode cL_areTilesRight 295 = .ok (.goto (-52), 3) := by decide +kernel
theorem dL_areTilesRight_298 : decode cL_areTilesRight 298 = .ok (.iinc 4 1, 3) := by decide +kernel
theorem dL_areTilesRight_301 : decode cL_areTilesRight 301 = .ok (.goto (-199), 3) := by decide +kernel
theorem dL_areTilesRight_304 : decode cL_areTilesRight 304 = .ok (.iconst 0, 1) := by decide +kernel
theorem dL_areTilesRight_305 : decode cL_areTilesRight 305 = .ok (.istore 4, 2) := by decide +kernel
theorem dL_areTilesRight_307 : decode cL_areTilesRight 307 = .ok (.iload 4, 2) := by decide +kernel
theorem dL_areTilesRight_309 : decode cL_areTilesRight 309 = .ok (.bipush 25, 2) := by decide +kernel
theorem dL_areTilesRight_311 : decode cL_areTilesRight 311 = .ok (.if_icmp .ge 72, 3) := by decide +kernel
theorem dL_areTilesRight_314 : decode cL_areTilesRight 314 = .ok (.iconst 0, 1) := by decide +kernel
theorem dL_areTilesRight_315 : decode cL_areTilesRight 315 = .ok (.istore 5, 2) := by decide +kernel
theorem dL_areTilesRight_317 : decode cL_areTilesRight 317 = .ok (.iload 5, 2) := by decide +kernel
theorem dL_areTilesRight_319 : decode cL_areTilesRight 319 = .ok (.bipush 100, 2) := by decide +kernel
theorem dL_areTilesRight_321 : decode cL_areTilesRight 321 = .ok (.if_icmp .ge 56, 3) := by decide +kernel
theorem dL_areTilesRight_324 : decode cL_areTilesRight 324 = .ok (.aload_n 0, 1) := by decide +kernel
theorem dL_areTilesRight_325 : decode cL_areTilesRight 325 = .ok (.iload 5, 2) := by decide +kernel
theorem dL_areTilesRight_327 : decode cL_areTilesRight 327 = .ok (.iconst 4, 1) := by decide +kernel
theorem dL_areTilesRight_328 : decode cL_areTilesRight 328 = .ok (.idiv, 1) := by decide +kernel
theorem dL_areTilesRight_329 : decode cL_areTilesRight 329 = .ok (.iload 5, 2) := by decide +kernel
theorem dL_areTilesRight_331 : decode cL_areTilesRight 331 = .ok (.iconst 4, 1) := by decide +kernel
theorem dL_areTilesRight_332 : decode cL_areTilesRight 332 = .ok (.irem, 1) := by decide +kernel
theorem dL_areTilesRight_333 : decode cL_areTilesRight 333 = .ok (.invokestatic 171, 3) := by decide +kernel
theorem dL_areTilesRight_336 : decode cL_areTilesRight 336 = .ok (.istore 6, 2) := by decide +kernel
theorem dL_areTilesRight_338 : decode cL_areTilesRight 338 = .ok (.aload_n 1, 1) := by decide +kernel
theorem dL_areTilesRight_339 : decode cL_areTilesRight 339 = .ok (.iload 5, 2) := by decide +kernel
theorem dL_areTilesRight_341 : decode cL_areTilesRight 341 = .ok (.iconst 4, 1) := by decide +kernel
theorem dL_areTilesRight_342 : decode cL_areTilesRight 342 = .ok (.idiv, 1) := by decide +kernel
theorem dL_areTilesRight_343 : decode cL_areTilesRight 343 = .ok (.iload 6, 2) := by decide +kernel
theorem dL_areTilesRight_345 : decode cL_areTilesRight 345 = .ok (.ifCond .ge 12, 3) := by decide +kernel
theorem dL_areTilesRight_348 : decode cL_areTilesRight 348 = .ok (.aload_n 1, 1) := by decide +kernel
theorem dL_areTilesRight_349 : decode cL_areTilesRight 349 = .ok (.iload 5, 2) := by decide +kernel
theorem dL_areTilesRight_351 : decode cL_areTilesRight 351 = .ok (.iconst 4, 1) := by decide +kernel
theorem dL_areTilesRight_352 : decode cL_areTilesRight 352 = .ok (.idiv, 1) := by decide +kernel
theorem dL_areTilesRight_353 : decode cL_areTilesRight 353 = .ok (.iaload, 1) := by decide +kernel
theorem dL_areTilesRight_354 : decode cL_areTilesRight 354 = .ok (.goto 16, 3) := by decide +kernel
theorem dL_areTilesRight_357 : decode cL_areTilesRight 357 = .ok (.aload_n 1, 1) := by decide +kernel
theorem dL_areTilesRight_358 : decode cL_areTilesRight 358 = .ok (.iload 5, 2) := by decide +kernel
theorem dL_areTilesRight_360 : decode cL_areTilesRight 360 = .ok (.iconst 4, 1) := by decide +kernel
theorem dL_areTilesRight_361 : decode cL_areTilesRight 361 = .ok (.idiv, 1) := by decide +kernel
theorem dL_areTilesRight_362 : decode cL_areTilesRight 362 = .ok (.iaload, 1) := by decide +kernel
theorem dL_areTilesRight_363 : decode cL_areTilesRight 363 = .ok (.aload_n 1, 1) := by decide +kernel
theorem dL_areTilesRight_364 : decode cL_areTilesRight 364 = .ok (.iload 6, 2) := by decide +kernel
theorem dL_areTilesRight_366 : decode cL_areTilesRight 366 = .ok (.iaload, 1) := by decide +kernel
theorem dL_areTilesRight_367 : decode cL_areTilesRight 367 = .ok (.invokestatic 190, 3) := by decide +kernel
theorem dL_areTilesRight_370 : decode cL_areTilesRight 370 = .ok (.iastore, 1) := by decide +kernel
theorem dL_areTilesRight_371 : decode cL_areTilesRight 371 = .ok (.iinc 5 1, 3) := by decide +kernel
theorem dL_areTilesRight_374 : decode cL_areTilesRight 374 = .ok (.goto (-57), 3) := by decide +kernel
theorem dL_areTilesRight_377 : decode cL_areTilesRight 377 = .ok (.iinc 4 1, 3) := by decide +kernel
theorem dL_areTilesRight_380 : decode cL_areTilesRight 380 = .ok (.goto (-73), 3) := by decide +kernel
theorem dL_areTilesRight_383 : decode cL_areTilesRight 383 = .ok (.iconst 0, 1) := by decide +kernel
theorem dL_areTilesRight_384 : decode cL_areTilesRight 384 = .ok (.istore 4, 2) := by decide +kernel
theorem dL_areTilesRight_386 : decode cL_areTilesRight 386 = .ok (.iconst 0, 1) := by decide +kernel
theorem dL_areTilesRight_387 : decode cL_areTilesRight 387 = .ok (.istore 5, 2) := by decide +kernel
theorem dL_areTilesRight_389 : decode cL_areTilesRight 389 = .ok (.iload 5, 2) := by decide +kernel
theorem dL_areTilesRight_391 : decode cL_areTilesRight 391 = .ok (.bipush 25, 2) := by decide +kernel
theorem dL_areTilesRight_393 : decode cL_areTilesRight 393 = .ok (.if_icmp .ge 28, 3) := by decide +kernel
theorem dL_areTilesRight_396 : decode cL_areTilesRight 396 = .ok (.iload 4, 2) := by decide +kernel
theorem dL_areTilesRight_398 : decode cL_areTilesRight 398 = .ok (.aload_n 1, 1) := by decide +kernel
theorem dL_areTilesRight_399 : decode cL_areTilesRight 399 = .ok (.iload 5, 2) := by decide +kernel
theorem dL_areTilesRight_401 : decode cL_areTilesRight 401 = .ok (.iaload, 1) := by decide +kernel
theorem dL_areTilesRight_402 : decode cL_areTilesRight 402 = .ok (.iload 5, 2) := by decide +kernel
theorem dL_areTilesRight_404 : decode cL_areTilesRight 404 = .ok (.if_icmp .ne 7, 3) := by decide +kernel
theorem dL_areTilesRight_407 : decode cL_areTilesRight 407 = .ok (.iconst 1, 1) := by decide +kernel
theorem dL_areTilesRight_408 : decode cL_areTilesRight 408 = .ok (.goto 4, 3) := by decide +kernel
theorem dL_areTilesRight_411 : decode cL_areTilesRight 411 = .ok (.iconst 0, 1) := by decide +kernel
theorem dL_areTilesRight_412 : decode cL_areTilesRight 412 = .ok (.iadd, 1) := by decide +kernel
theorem dL_areTilesRight_413 : decode cL_areTilesRight 413 = .ok (.istore 4, 2) := by decide +kernel
theorem dL_areTilesRight_415 : decode cL_areTilesRight 415 = .ok (.iinc 5 1, 3) := by decide +kernel
theorem dL_areTilesRight_418 : decode cL_areTilesRight 418 = .ok (.goto (-29), 3) := by decide +kernel
theorem dL_areTilesRight_421 : decode cL_areTilesRight 421 = .ok (.iload_n 3, 1) := by decide +kernel
theorem dL_areTilesRight_422 : decode cL_areTilesRight 422 = .ok (.ifCond .eq 46, 3) := by decide +kernel
theorem dL_areTilesRight_425 : decode cL_areTilesRight 425 = .ok (.aload_n 0, 1) := by decide +kernel
theorem dL_areTilesRight_426 : decode cL_areTilesRight 426 = .ok (.invokevirtual 193, 3) := by decide +kernel
theorem dL_areTilesRight_429 : decode cL_areTilesRight 429 = .ok (.iload 4, 2) := by decide +kernel
theorem dL_areTilesRight_431 : decode cL_areTilesRight 431 = .ok (.if_icmp .ne 37, 3) := by decide +kernel
theorem dL_areTilesRight_434 : decode cL_areTilesRight 434 = .ok (.aload_n 0, 1) := by decide +kernel
theorem dL_areTilesRight_435 : decode cL_areTilesRight 435 = .ok (.invokevirtual 196, 3) := by decide +kernel
theorem dL_areTilesRight_438 : decode cL_areTilesRight 438 = .ok (.iload 4, 2) := by decide +kernel
theorem dL_areTilesRight_440 : decode cL_areTilesRight 440 = .ok (.if_icmp .ne 28, 3) := by decide +kernel
theorem dL_areTilesRight_443 : decode cL_areTilesRight 443 = .ok (.aload_n 0, 1) := by decide +kernel
theorem dL_areTilesRight_444 : decode cL_areTilesRight 444 = .ok (.invokevirtual 199, 3) := by decide +kernel
theorem dL_areTilesRight_447 : decode cL_areTilesRight 447 = .ok (.iload_n 2, 1) := by decide +kernel
theorem dL_areTilesRight_448 : decode cL_areTilesRight 448 = .ok (.i2d, 1) := by decide +kernel
theorem dL_areTilesRight_449 : decode cL_areTilesRight 449 = .ok (.ldc2_w 203, 3) := by decide +kernel
theorem dL_areTilesRight_452 : decode cL_areTilesRight 452 = .ok (.ddiv, 1) := by decide +kernel
theorem dL_areTilesRight_453 : decode cL_areTilesRight 453 = .ok (.dcmp .l, 1) := by decide +kernel
theorem dL_areTilesRight_454 : decode cL_areTilesRight 454 = .ok (.ifCond .ne 14, 3) := by decide +kernel
theorem dL_areTilesRight_457 : decode cL_areTilesRight 457 = .ok (.aload_n 0, 1) := by decide +kernel
theorem dL_areTilesRight_458 : decode cL_areTilesRight 458 = .ok (.invokevirtual 205, 3) := by decide +kernel
theorem dL_areTilesRight_461 : decode cL_areTilesRight 461 = .ok (.ifCond .eq 7, 3) := by decide +kernel
theorem dL_areTilesRight_464 : decode cL_areTilesRight 464 = .ok (.iconst 1, 1) := by decide +kernel
theorem dL_areTilesRight_465 : decode cL_areTilesRight 465 = .ok (.goto 4, 3) := by decide +kernel
theorem dL_areTilesRight_468 : decode cL_areTilesRight 468 = .ok (.iconst 0, 1) := by decide +kernel
theorem dL_areTilesRight_469 : decode cL_areTilesRight 469 = .ok (.ireturn, 1) := by decide +kernel
theorem dL_areLinesRight_0 : decode cL_areLinesRight 0 = .ok (.iconst 1, 1) := by decide +kernel
theorem dL_areLinesRight_1 : decode cL_areLinesRight 1 = .ok (.istore_n 1, 1) := by decide +kernel
theorem dL_areLinesRight_2 : decode cL_areLinesRight 2 = .ok (.iconst 0, 1) := by decide +kernel
theorem dL_areLinesRight_3 : decode cL_areLinesRight 3 = .ok (.istore_n 2, 1) := by decide +kernel
theorem dL_areLinesRight_4 : decode cL_areLinesRight 4 = .ok (.iload_n 2, 1) := by decide +kernel
theorem dL_areLinesRight_5 : decode cL_areLinesRight 5 = .ok (.iconst 5, 1) := by decide +kernel
theorem dL_areLinesRight_6 : decode cL_areLinesRight 6 = .ok (.if_icmp .ge 353, 3) := by decide +kernel
theorem dL_areLinesRight_9 : decode cL_areLinesRight 9 = .ok (.iconst 3, 1) := by decide +kernel
theorem dL_areLinesRight_10 : decode cL_areLinesRight 10 = .ok (.istore_n 3, 1) := by decide +kernel
theorem dL_areLinesRight_11 : decode cL_areLinesRight 11 = .ok (.ldc 209, 2) := by decide +kernel
theorem dL_areLinesRight_13 : decode cL_areLinesRight 13 = .ok (.astore 4, 2) := by decide +kernel
theorem dL_areLinesRight_15 : decode cL_areLinesRight 15 = .ok (.iconst 0, 1) := by decide +kernel
theorem dL_areLinesRight_16 : decode cL_areLinesRight 16 = .ok (.istore 5, 2) := by decide +kernel
theorem dL_areLinesRight_18 : decode cL_areLinesRight 18 = .ok (.iload 5, 2) := by decide +kernel
theorem dL_areLinesRight_20 : decode cL_areLinesRight 20 = .ok (.iconst 5, 1) := by decide +kernel
theorem dL_areLinesRight_21 : decode cL_areLinesRight 21 = .ok (.if_icmp .ge 251, 3) := by decide +kernel
theorem dL_areLinesRight_24 : decode cL_areLinesRight 24 = .ok (.iload_n 3, 1) := by decide +kernel
theorem dL_areLinesRight_25 : decode cL_areLinesRight 25 = .ok (.aload_n 0, 1) := by decide +kernel
theorem dL_areLinesRight_26 : decode cL_areLinesRight 26 = .ok (.iload_n 2, 1) := by decide +kernel
theorem dL_areLinesRight_27 : decode cL_areLinesRight 27 = .ok (.iload 5, 2) := by decide +kernel
theorem dL_areLinesRight_29 : decode cL_areLinesRight 29 = .ok (.invokevirtual 158, 3) := by decide +kernel
theorem dL_areLinesRight_32 : decode cL_areLinesRight 32 = .ok (.ifCond .eq 7, 3) := by decide +kernel
theorem dL_areLinesRight_35 : decode cL_areLinesRight 35 = .ok (.iconst 2, 1) := by decide +kernel
theorem dL_areLinesRight_36 : decode cL_areLinesRight 36 = .ok (.goto 4, 3) := by decide +kernel
theorem dL_areLinesRight_39 : decode cL_areLinesRight 39 = .ok (.iconst 3, 1) := by decide +kernel
theorem dL_areLinesRight_40 : decode cL_areLinesRight 40 = .ok (.iand, 1) := by decide +kernel
theorem dL_areLinesRight_41 : decode cL_areLinesRight 41 = .ok (.istore_n 3, 1) := by decide +kernel
theorem dL_areLinesRight_42 : decode cL_areLinesRight 42 = .ok (.iload_n 3, 1) := by decide +kernel
theorem dL_areLinesRight_43 : decode cL_areLinesRight 43 = .ok (.aload_n 0, 1) := by decide +kernel
theorem dL_areLinesRight_44 : decode cL_areLinesRight 44 = .ok (.iload 5, 2) := by decide +kernel
theorem dL_areLinesRight_46 : decode cL_areLinesRight 46 = .ok (.iload_n 2, 1) := by decide +kernel
theorem dL_areLinesRight_47 : decode cL_areLinesRight 47 = .ok (.invokevirtual 158, 3) := by decide +kernel
theorem dL_areLinesRight_50 : decode cL_areLinesRight 50 = .ok (.ifCond .eq 7, 3) := by decide +kernel
theorem dL_areLinesRight_53 : decode cL_areLinesRight 53 = .ok (.iconst 1, 1) := by decide +kernel
theorem dL_areLinesRight_54 : decode cL_areLinesRight 54 = .ok (.goto 4, 3) := by decide +kernel
theorem dL_areLinesRight_57 : decode cL_areLinesRight 57 = .ok (.iconst 3, 1) := by decide +kernel
theorem dL_areLinesRight_58 : decode cL_areLinesRight 58 = .ok (.iand, 1) := by decide +kernel
theorem dL_areLinesRight_59 : decode cL_areLinesRight 59 = .ok (.istore_n 3, 1) := by decide +kernel
theorem dL_areLinesRight_60 : decode cL_areLinesRight 60 = .ok (.new 211, 3) := by decide +kernel
theorem dL_areLinesRight_63 : decode cL_areLinesRight 63 = .ok (.dup, 1) := by decide +kernel
theorem dL_areLinesRight_64 : decode cL_areLinesRight 64 = .ok (.invokespecial 213, 3) := by decide +kernel
theorem dL_areLinesRight_67 : decode cL_areLinesRight 67 = .ok (.aload 4, 2) := by decide +kernel
theorem dL_areLinesRight_69 : decode cL_areLinesRight 69 = .ok (.invokevirtual 214, 3) := by decide +kernel
theorem dL_areLinesRight_72 : decode cL_areLinesRight 72 = .ok (.iload 5, 2) := by decide +kernel
theorem dL_areLinesRight_74 : decode cL_areLinesRight 74 = .ok (.ifCond .ne 8, 3) := by decide +kernel
theorem dL_areLinesRight_77 : decode cL_areLinesRight 77 = .ok (.ldc 209, 2) := by decide +kernel
theorem dL_areLinesRight_79 : decode cL_areLinesRight 79 = .ok (.goto 5, 3) := by decide +kernel
theorem dL_areLinesRight_82 : decode cL_areLinesRight 82 = .ok (.ldc 218, 2) := by decide +kernel
theorem dL_areLinesRight_84 : decode cL_areLinesRight 84 = .ok (.invokevirtual 214, 3) := by decide +kernel
theorem dL_areLinesRight_87 : decode cL_areLinesRight 87 = .ok (.ldc 220, 2) := by decide +kernel
theorem dL_areLinesRight_89 : decode cL_areLinesRight 89 = .ok (.aload_n 0, 1) := by decide +kernel
theorem dL_areLinesRight_90 : decode cL_areLinesRight 90 = .ok (.iload_n 2, 1) := by decide +kernel
theorem dL_areLinesRight_91 : decode cL_areLinesRight 91 = .ok (.iload 5, 2) := by decide +kernel
theorem dL_areLinesRight_93 : decode cL_areLinesRight 93 = .ok (.invokevirtual 73, 3) := by decide +kernel
theorem dL_areLinesRight_96 : decode cL_areLinesRight 96 = .ok (.invokevirtual 222, 3) := by decide +kernel
theorem dL_areLinesRight_99 : decode cL_areLinesRight 99 = .ok (.invokevirtual 227, 3) := by decide +kernel
theorem dL_areLinesRight_102 : decode cL_areLinesRight 102 = .ok (.aload_n 0, 1) := by decide +kernel
theorem dL_areLinesRight_103 : decode cL_areLinesRight 103 = .ok (.iload_n 2, 1) := by decide +kernel
theorem dL_areLinesRight_104 : decode cL_areLinesRight 104 = .ok (.iload 5, 2) := by decide +kernel
theorem dL_areLinesRight_106 : decode cL_areLinesRight 106 = .ok (.invokevirtual 158, 3) := by decide +kernel
theorem dL_areLinesRight_109 : decode cL_areLinesRight 109 = .ok (.ifCond .eq 8, 3) := by decide +kernel
theorem dL_areLinesRight_112 : decode cL_areLinesRight 112 = .ok (.ldc 230, 2) := by decide +kernel
theorem dL_areLinesRight_114 : decode cL_areLinesRight 114 = .ok (.goto 5, 3) := by decide +kernel
theorem dL_areLinesRight_117 : decode cL_areLinesRight 117 = .ok (.ldc 209, 2) := by decide +kernel
theorem dL_areLinesRight_119 : decode cL_areLinesRight 119 = .ok (.invokevirtual 214, 3) := by decide +kernel
theorem dL_areLinesRight_122 : decode cL_areLinesRight 122 = .ok (.aload_n 0, 1) := by decide +kernel
theorem dL_areLinesRight_123 : decode cL_areLinesRight 123 = .ok (.iload_n 2, 1) := by decide +kernel
theorem dL_areLinesRight_124 : decode cL_areLinesRight 124 = .ok (.iload 5, 2) := by decide +kernel
theorem dL_areLinesRight_126 : decode cL_areLinesRight 126 = .ok (.invokevirtual 187, 3) := by decide +kernel
theorem dL_areLinesRight_129 : decode cL_areLinesRight 129 = .ok (.ifCond .eq 31, 3) := by decide +kernel
theorem dL_areLinesRight_132 : decode cL_areLinesRight 132 = .ok (.new 211, 3) := by decide +kernel
theorem dL_areLinesRight_135 : decode cL_areLinesRight 135 = .ok (.dup, 1) := by decide +kernel
theorem dL_areLinesRight_136 : decode cL_areLinesRight 136 = .ok (.invokespecial 213, 3) := by decide +kernel
theorem dL_areLinesRight_139 : decode cL_areLinesRight 139 = .ok (.ldc 232, 2) := by decide +kernel
theorem dL_areLinesRight_141 : decode cL_areLinesRight 141 = .ok (.invokevirtual 214, 3) := by decide +kernel
theorem dL_areLinesRight_144 : decode cL_areLinesRight 144 = .ok (.aload_n 0, 1) := by decide +kernel
theorem dL_areLinesRight_145 : decode cL_areLinesRight 145 = .ok (.iload_n 2, 1) := by decide +kernel
theorem dL_areLinesRight_146 : decode cL_areLinesRight 146 = .ok (.iload 5, 2) := by decide +kernel
theorem dL_areLinesRight_148 : decode cL_areLinesRight 148 = .ok (.invokevirtual 76, 3) := by decide +kernel
theorem dL_areLinesRight_151 : decode cL_areLinesRight 151 = .ok (.invokevirtual 227, 3) := by decide +kernel
theorem dL_areLinesRight_154 : decode cL_areLinesRight 154 = .ok (.invokevirtual 234, 3) := by decide +kernel
theorem dL_areLinesRight_157 : decode cL_areLinesRight 157 = .ok (.goto 5, 3) := by decide +kernel
theorem dL_areLinesRight_160 : decode cL_areLinesRight 160 = .ok (.ldc 209, 2) := by decide +kernel
theorem dL_areLinesRight_162 : decode cL_areLinesRight 162 = .ok (.invokevirtual 214, 3) := by decide +kernel
theorem dL_areLinesRight_165 : decode cL_areLinesRight 165 = .ok (.aload_n 0, 1) := by decide +kernel
theorem dL_areLinesRight_166 : decode cL_areLinesRight 166 = .ok (.iconst 5, 1) := by decide +kernel
theorem dL_areLinesRight_167 : decode cL_areLinesRight 167 = .ok (.iload_n 2, 1) := by decide +kernel
theorem dL_areLinesRight_168 : decode cL_areLinesRight 168 = .ok (.imul, 1) := by decide +kernel
theorem dL_areLinesRight_169 : decode cL_areLinesRight 169 = .ok (.iload 5, 2) := by decide +kernel
theorem dL_areLinesRight_171 : decode cL_areLinesRight 171 = .ok (.iadd, 1) := by decide +kernel
theorem dL_areLinesRight_172 : decode cL_areLinesRight 172 = .ok (.invokestatic 238, 3) := by decide +kernel
theorem dL_areLinesRight_175 : decode cL_areLinesRight 175 = .ok (.invokevirtual 214, 3) := by decide +kernel
theorem dL_areLinesRight_178 : decode cL_areLinesRight 178 = .ok (.invokevirtual 234, 3) := by decide +kernel
theorem dL_areLinesRight_181 : decode cL_areLinesRight 181 = .ok (.astore 4, 2) := by decide +kernel
theorem dL_areLinesRight_183 : decode cL_areLinesRight 183 = .ok (.iconst 0, 1) := by decide +kernel
theorem dL_areLinesRight_184 : decode cL_areLinesRight 184 = .ok (.istore 6, 2) := by decide +kernel
theorem dL_areLinesRight_186 : decode cL_areLinesRight 186 = .ok (.iload 6, 2) := by decide +kernel
theorem dL_areLinesRight_188 : decode cL_areLinesRight 188 = .ok (.bipush 6, 2) := by decide +kernel
theorem dL_areLinesRight_190 : decode cL_areLinesRight 190 = .ok (.if_icmp .ge 76, 3) := by decide +kernel
theorem dL_areLinesRight_193 : decode cL_areLinesRight 193 = .ok (.new 211, 3) := by decide +kernel
theorem dL_areLinesRight_196 : decode cL_areLinesRight 196 = .ok (.dup, 1) := by decide +kernel
theorem dL_areLinesRight_197 : decode cL_areLinesRight 197 = .ok (.invokespecial 213, 3) := by decide +kernel
theorem dL_areLinesRight_200 : decode cL_areLinesRight 200 = .ok (.aload 4, 2) := by decide +kernel
theorem dL_areLinesRight_202 : decode cL_areLinesRight 202 = .ok (.invokevirtual 214, 3) := by decide +kernel
theorem dL_areLinesRight_205 : decode cL_areLinesRight 205 = .ok (.aload_n 0, 1) := by decide +kernel
theorem dL_areLinesRight_206 : decode cL_areLinesRight 206 = .ok (.iconst 3, 1) := by decide +kernel
theorem dL_areLinesRight_207 : decode cL_areLinesRight 207 = .ok (.iload 6, 2) := by decide +kernel
theorem dL_areLinesRight_209 : decode cL_areLinesRight 209 = .ok (.iconst 0, 1) := by decide +kernel
theorem dL_areLinesRight_210 : decode cL_areLinesRight 210 = .ok (.iconst 0, 1) := by decide +kernel
theorem dL_areLinesRight_211 : decode cL_areLinesRight 211 = .ok (.invokestatic 162, 3) := by decide +kernel
theorem dL_areLinesRight_214 : decode cL_areLinesRight 214 = .ok (.iconst 5, 1) := by decide +kernel
theorem dL_areLinesRight_215 : decode cL_areLinesRight 215 = .ok (.iload_n 2, 1) := by decide +kernel
theorem dL_areLinesRight_216 : decode cL_areLinesRight 216 = .ok (.imul, 1) := by decide +kernel
theorem dL_areLinesRight_217 : decode cL_areLinesRight 217 = .ok (.iload 5, 2) := by decide +kernel
theorem dL_areLinesRight_219 : decode cL_areLinesRight 219 = .ok (.iadd, 1) := by decide +kernel
theorem dL_areLinesRight_220 : decode cL_areLinesRight 220 = .ok (.if_icmp .ne 30, 3) := by decide +kernel
theorem dL_areLinesRight_223 : decode cL_areLinesRight 223 = .ok (.new 211, 3) := by decide +kernel
theorem dL_areLinesRight_226 : decode cL_areLinesRight 226 = .ok (.dup, 1) := by decide +kernel
theorem dL_areLinesRight_227 : decode cL_areLinesRight 227 = .ok (.invokespecial 213, 3) := by decide +kernel
theorem dL_areLinesRight_230 : decode cL_areLinesRight 230 = .ok (.ldc 209, 2) := by decide +kernel
theorem dL_areLinesRight_232 : decode cL_areLinesRight 232 = .ok (.invokevirtual 214, 3) := by decide +kernel
theorem dL_areLinesRight_235 : decode cL_areLinesRight 235 = .ok (.bipush 97, 2) := by decide +kernel
theorem dL_areLinesRight_237 : decode cL_areLinesRight 237 = .ok (.iload 6, 2) := by decide +kernel
theorem dL_areLinesRight_239 : decode cL_areLinesRight 239 = .ok (.iadd, 1) := by decide +kernel
theorem dL_areLinesRight_240 : decode cL_areLinesRight 240 = .ok (.i2c, 1) := by decide +kernel
theorem dL_areLinesRight_241 : decode cL_areLinesRight 241 = .ok (.invokevirtual 227, 3) := by decide +kernel
theorem dL_areLinesRight_244 : decode cL_areLinesRight 244 = .ok (.invokevirtual 234, 3) := by decide +kernel
theorem dL_areLinesRight_247 : decode cL_areLinesRight 247 = .ok (.goto 5, 3) := by decide +kernel
theorem dL_areLinesRight_250 : decode cL_areLinesRight 250 = .ok (.ldc 209, 2) := by decide +kernel
theorem dL_areLinesRight_252 : decode cL_areLinesRight 252 = .ok (.invokevirtual 214, 3) := by decide +kernel
theorem dL_areLinesRight_255 : decode cL_areLinesRight 255 = .ok (.invokevirtual 234, 3) := by decide +kernel
theorem dL_areLinesRight_258 : decode cL_areLinesRight 258 = .ok (.astore 4, 2) := by decide +kernel
theorem dL_areLinesRight_260 : decode cL_areLinesRight 260 = .ok (.iinc 6 1, 3) := by decide +kernel
theorem dL_areLinesRight_263 : decode cL_areLinesRight 263 = .ok (.goto (-77), 3) := by decide +kernel
theorem dL_areLinesRight_266 : decode cL_areLinesRight 266 = .ok (.iinc 5 1, 3) := by decide +kernel
theorem dL_areLinesRight_269 : decode cL_areLinesRight 269 = .ok (.goto (-251), 3) := by decide +kernel
theorem dL_areLinesRight_272 : decode cL_areLinesRight 272 = .ok (.iload_n 1, 1) := by decide +kernel
theorem dL_areLinesRight_273 : decode cL_areLinesRight 273 = .ok (.ifCond .eq 33, 3) := by decide +kernel
theorem dL_areLinesRight_276 : decode cL_areLinesRight 276 = .ok (.aload_n 0, 1) := by decide +kernel
theorem dL_areLinesRight_277 : decode cL_areLinesRight 277 = .ok (.bipush 13, 2) := by decide +kernel
theorem dL_areLinesRight_279 : decode cL_areLinesRight 279 = .ok (.iload_n 2, 1) := by decide +kernel
theorem dL_areLinesRight_280 : decode cL_areLinesRight 280 = .ok (.iconst 0, 1) := by decide +kernel
theorem dL_areLinesRight_281 : decode cL_areLinesRight 281 = .ok (.iconst 0, 1) := by decide +kernel
theorem dL_areLinesRight_282 : decode cL_areLinesRight 282 = .ok (.invokestatic 162, 3) := by decide +kernel
theorem dL_areLinesRight_285 : decode cL_areLinesRight 285 = .ok (.iload_n 3, 1) := by decide +kernel
theorem dL_areLinesRight_286 : decode cL_areLinesRight 286 = .ok (.if_icmp .ne 20, 3) := by decide +kernel
theorem dL_areLinesRight_289 : decode cL_areLinesRight 289 = .ok (.aload_n 0, 1) := by decide +kernel
theorem dL_areLinesRight_290 : decode cL_areLinesRight 290 = .ok (.iload_n 2, 1) := by decide +kernel
theorem dL_areLinesRight_291 : decode cL_areLinesRight 291 = .ok (.invokevirtual 242, 3) := by decide +kernel
theorem dL_areLinesRight_294 : decode cL_areLinesRight 294 = .ok (.aload 4, 2) := by decide +kernel
theorem dL_areLinesRight_296 : decode cL_areLinesRight 296 = .ok (.invokevirtual 245, 3) := by decide +kernel
theorem dL_areLinesRight_299 : decode cL_areLinesRight 299 = .ok (.if_icmp .ne 7, 3) := by decide +kernel
theorem dL_areLinesRight_302 : decode cL_areLinesRight 302 = .ok (.iconst 1, 1) := by decide +kernel
theorem dL_areLinesRight_303 : decode cL_areLinesRight 303 = .ok (.goto 4, 3) := by decide +kernel
theorem dL_areLinesRight_306 : decode cL_areLinesRight 306 = .ok (.iconst 0, 1) := by decide +kernel
theorem dL_areLinesRight_307 : decode cL_areLinesRight 307 = .ok (.istore_n 1, 1) := by decide +kernel
theorem dL_areLinesRight_308 : decode cL_areLinesRight 308 = .ok (.iconst 0, 1) := by decide +kernel
theorem dL_areLinesRight_309 : decode cL_areLinesRight 309 = .ok (.istore 5, 2) := by decide +kernel
theorem dL_areLinesRight_311 : decode cL_areLinesRight 311 = .ok (.iload 5, 2) := by decide +kernel
theorem dL_areLinesRight_313 : decode cL_areLinesRight 313 = .ok (.aload 4, 2) := by decide +kernel
theorem dL_areLinesRight_315 : decode cL_areLinesRight 315 = .ok (.invokevirtual 245, 3) := by decide +kernel
theorem dL_areLinesRight_318 : decode cL_areLinesRight 318 = .ok (.if_icmp .ge 35, 3) := by decide +kernel
theorem dL_areLinesRight_321 : decode cL_areLinesRight 321 = .ok (.iload_n 1, 1) := by decide +kernel
theorem dL_areLinesRight_322 : decode cL_areLinesRight 322 = .ok (.ifCond .eq 31, 3) := by decide +kernel
theorem dL_areLinesRight_325 : decode cL_areLinesRight 325 = .ok (.aload_n 0, 1) := by decide +kernel
theorem dL_areLinesRight_326 : decode cL_areLinesRight 326 = .ok (.iload 5, 2) := by decide +kernel
theorem dL_areLinesRight_328 : decode cL_areLinesRight 328 = .ok (.invokevirtual 248, 3) := by decide +kernel
theorem dL_areLinesRight_331 : decode cL_areLinesRight 331 = .ok (.aload 4, 2) := by decide +kernel
theorem dL_areLinesRight_333 : decode cL_areLinesRight 333 = .ok (.iload 5, 2) := by decide +kernel
theorem dL_areLinesRight_335 : decode cL_areLinesRight 335 = .ok (.invokevirtual 222, 3) := by decide +kernel
theorem dL_areLinesRight_338 : decode cL_areLinesRight 338 = .ok (.if_icmp .ne 7, 3) := by decide +kernel
theorem dL_areLinesRight_341 : decode cL_areLinesRight 341 = .ok (.iconst 1, 1) := by decide +kernel
theorem dL_areLinesRight_342 : decode cL_areLinesRight 342 = .ok (.goto 4, 3) := by decide +kernel
theorem dL_areLinesRight_345 : decode cL_areLinesRight 345 = .ok (.iconst 0, 1) := by decide +kernel
theorem dL_areLinesRight_346 : decode cL_areLinesRight 346 = .ok (.istore_n 1, 1) := by decide +kernel
theorem dL_areLinesRight_347 : decode cL_areLinesRight 347 = .ok (.iinc 5 1, 3) := by decide +kernel
theorem dL_areLinesRight_350 : decode cL_areLinesRight 350 = .ok (.goto (-39), 3) := by decide +kernel
theorem dL_areLinesRight_353 : decode cL_areLinesRight 353 = .ok (.iinc 2 1, 3) := by decide +kernel
theorem dL_areLinesRight_356 : decode cL_areLinesRight 356 = .ok (.goto (-352), 3) := by decide +kernel
theorem dL_areLinesRight_359 : decode cL_areLinesRight 359 = .ok (.iload_n 1, 1) := by decide +kernel
theorem dL_areLinesRight_360 : decode cL_areLinesRight 360 = .ok (.ireturn, 1) := by decide +kernel
theorem dL_standing_0 : decode cL_standing 0 = .ok (.iconst 0, 1) := by decide +kernel
theorem dL_standing_1 : decode cL_standing 1 = .ok (.istore_n 2, 1) := by decide +kernel
theorem dL_standing_2 : decode cL_standing 2 = .ok (.iconst 0, 1) := by decide +kernel
theorem dL_standing_3 : decode cL_standing 3 = .ok (.istore_n 3, 1) := by decide +kernel
theorem dL_standing_4 : decode cL_standing 4 = .ok (.iload_n 3, 1) := by decide +kernel
theorem dL_standing_5 : decode cL_standing 5 = .ok (.aload_n 0, 1) := by decide +kernel
theorem dL_standing_6 : decode cL_standing 6 = .ok (.invokevirtual 143, 3) := by decide +kernel
theorem dL_standing_9 : decode cL_standing 9 = .ok (.if_icmp .ge 36, 3) := by decide +kernel
theorem dL_standing_12 : decode cL_standing 12 = .ok (.iload_n 2, 1) := by decide +kernel
theorem dL_standing_13 : decode cL_standing 13 = .ok (.ifCond .ne 20, 3) := by decide +kernel
theorem dL_standing_16 : decode cL_standing 16 = .ok (.iconst 5, 1) := by decide +kernel
theorem dL_standing_17 : decode cL_standing 17 = .ok (.aload_n 0, 1) := by decide +kernel
theorem dL_standing_18 : decode cL_standing 18 = .ok (.iload_n 3, 1) := by decide +kernel
theorem dL_standing_19 : decode cL_standing 19 = .ok (.invokevirtual 165, 3) := by decide +kernel
theorem dL_standing_22 : decode cL_standing 22 = .ok (.imul, 1) := by decide +kernel
theorem dL_standing_23 : decode cL_standing 23 = .ok (.aload_n 0, 1) := by decide +kernel
theorem dL_standing_24 : decode cL_standing 24 = .ok (.iload_n 3, 1) := by decide +kernel
theorem dL_standing_25 : decode cL_standing 25 = .ok (.invokevirtual 168, 3) := by decide +kernel
theorem dL_standing_28 : decode cL_standing 28 = .ok (.iadd, 1) := by decide +kernel
theorem dL_standing_29 : decode cL_standing 29 = .ok (.iload_n 1, 1) := by decide +kernel
theorem dL_standing_30 : decode cL_standing 30 = .ok (.if_icmp .ne 7, 3) := by decide +kernel
theorem dL_standing_33 : decode cL_standing 33 = .ok (.iconst 1, 1) := by decide +kernel
theorem dL_standing_34 : decode cL_standing 34 = .ok (.goto 4, 3) := by decide +kernel
theorem dL_standing_37 : decode cL_standing 37 = .ok (.iconst 0, 1) := by decide +kernel
theorem dL_standing_38 : decode cL_standing 38 = .ok (.istore_n 2, 1) := by decide +kernel
theorem dL_standing_39 : decode cL_standing 39 = .ok (.iinc 3 1, 3) := by decide +kernel
theorem dL_standing_42 : decode cL_standing 42 = .ok (.goto (-38), 3) := by decide +kernel
theorem dL_standing_45 : decode cL_standing 45 = .ok (.iload_n 2, 1) := by decide +kernel
theorem dL_standing_46 : decode cL_standing 46 = .ok (.ifCond .eq 8, 3) := by decide +kernel
theorem dL_standing_49 : decode cL_standing 49 = .ok (.ldc 251, 2) := by decide +kernel
theorem dL_standing_51 : decode cL_standing 51 = .ok (.goto 5, 3) := by decide +kernel
theorem dL_standing_54 : decode cL_standing 54 = .ok (.ldc 209, 2) := by decide +kernel
theorem dL_standing_56 : decode cL_standing 56 = .ok (.areturn, 1) := by decide +kernel
theorem dL_areWalkersRight_0 : decode cL_areWalkersRight 0 = .ok (.aload_n 0, 1) := by decide +kernel
theorem dL_areWalkersRight_1 : decode cL_areWalkersRight 1 = .ok (.invokevirtual 143, 3) := by decide +kernel
theorem dL_areWalkersRight_4 : decode cL_areWalkersRight 4 = .ok (.istore_n 2, 1) := by decide +kernel
theorem dL_areWalkersRight_5 : decode cL_areWalkersRight 5 = .ok (.aload_n 0, 1) := by decide +kernel
theorem dL_areWalkersRight_6 : decode cL_areWalkersRight 6 = .ok (.iconst 5, 1) := by decide +kernel
theorem dL_areWalkersRight_7 : decode cL_areWalkersRight 7 = .ok (.iconst 0, 1) := by decide +kernel
theorem dL_areWalkersRight_8 : decode cL_areWalkersRight 8 = .ok (.iconst 0, 1) := by decide +kernel
theorem dL_areWalkersRight_9 : decode cL_areWalkersRight 9 = .ok (.iload_n 2, 1) := by decide +kernel
theorem dL_areWalkersRight_10 : decode cL_areWalkersRight 10 = .ok (.invokestatic 162, 3) := by decide +kernel
theorem dL_areWalkersRight_13 : decode cL_areWalkersRight 13 = .ok (.sipush (-2002), 3) := by decide +kernel
theorem dL_areWalkersRight_16 : decode cL_areWalkersRight 16 = .ok (.if_icmp .ne 67, 3) := by decide +kernel
theorem dL_areWalkersRight_19 : decode cL_areWalkersRight 19 = .ok (.aload_n 0, 1) := by decide +kernel
theorem dL_areWalkersRight_20 : decode cL_areWalkersRight 20 = .ok (.bipush 7, 2) := by decide +kernel
theorem dL_areWalkersRight_22 : decode cL_areWalkersRight 22 = .ok (.iconst 0, 1) := by decide +kernel
theorem dL_areWalkersRight_23 : decode cL_areWalkersRight 23 = .ok (.iconst 0, 1) := by decide +kernel
theorem dL_areWalkersRight_24 : decode cL_areWalkersRight 24 = .ok (.iconst (-1), 1) := by decide +kernel
theorem dL_areWalkersRight_25 : decode cL_areWalkersRight 25 = .ok (.invokestatic 162, 3) := by decide +kernel
theorem dL_areWalkersRight_28 : decode cL_areWalkersRight 28 = .ok (.sipush (-2002), 3) := by decide +kernel
theorem dL_areWalkersRight_31 : decode cL_areWalkersRight 31 = .ok (.if_icmp .ne 52, 3) := by decide +kernel
theorem dL_areWalkersRight_34 : decode cL_areWalkersRight 34 = .ok (.aload_n 0, 1) := by decide +kernel
theorem dL_areWalkersRight_35 : decode cL_areWalkersRight 35 = .ok (.bipush 8, 2) := by decide +kernel
theorem dL_areWalkersRight_37 : decode cL_areWalkersRight 37 = .ok (.iload_n 2, 1) := by decide +kernel
theorem dL_areWalkersRight_38 : decode cL_areWalkersRight 38 = .ok (.iconst 0, 1) := by decide +kernel
theorem dL_areWalkersRight_39 : decode cL_areWalkersRight 39 = .ok (.iconst 0, 1) := by decide +kernel
theorem dL_areWalkersRight_40 : decode cL_areWalkersRight 40 = .ok (.invokestatic 162, 3) := by decide +kernel
theorem dL_areWalkersRight_43 : decode cL_areWalkersRight 43 = .ok (.sipush (-2002), 3) := by decide +kernel
theorem dL_areWalkersRight_46 : decode cL_areWalkersRight 46 = .ok (.if_icmp .ne 37, 3) := by decide +kernel
theorem dL_areWalkersRight_49 : decode cL_areWalkersRight 49 = .ok (.aload_n 0, 1) := by decide +kernel
theorem dL_areWalkersRight_50 : decode cL_areWalkersRight 50 = .ok (.bipush 12, 2) := by decide +kernel
theorem dL_areWalkersRight_52 : decode cL_areWalkersRight 52 = .ok (.iload_n 2, 1) := by decide +kernel
theorem dL_areWalkersRight_53 : decode cL_areWalkersRight 53 = .ok (.iconst 0, 1) := by decide +kernel
theorem dL_areWalkersRight_54 : decode cL_areWalkersRight 54 = .ok (.iconst 0, 1) := by decide +kernel
theorem dL_areWalkersRight_55 : decode cL_areWalkersRight 55 = .ok (.invokestatic 162, 3) := by decide +kernel
theorem dL_areWalkersRight_58 : decode cL_areWalkersRight 58 = .ok (.sipush (-2002), 3) := by decide +kernel
theorem dL_areWalkersRight_61 : decode cL_areWalkersRight 61 = .ok (.if_icmp .ne 22, 3) := by decide +kernel
theorem dL_areWalkersRight_64 : decode cL_areWalkersRight 64 = .ok (.aload_n 0, 1) := by decide +kernel
theorem dL_areWalkersRight_65 : decode cL_areWalkersRight 65 = .ok (.bipush 9, 2) := by decide +kernel
theorem dL_areWalkersRight_67 : decode cL_areWalkersRight 67 = .ok (.iconst 0, 1) := by decide +kernel
theorem dL_areWalkersRight_68 : decode cL_areWalkersRight 68 = .ok (.iconst 0, 1) := by decide +kernel
theorem dL_areWalkersRight_69 : decode cL_areWalkersRight 69 = .ok (.iload_n 2, 1) := by decide +kernel
theorem dL_areWalkersRight_70 : decode cL_areWalkersRight 70 = .ok (.invokestatic 162, 3) := by decide +kernel
theorem dL_areWalkersRight_73 : decode cL_areWalkersRight 73 = .ok (.sipush (-2002), 3) := by decide +kernel
theorem dL_areWalkersRight_76 : decode cL_areWalkersRight 76 = .ok (.if_icmp .ne 7, 3) := by decide +kernel
theorem dL_areWalkersRight_79 : decode cL_areWalkersRight 79 = .ok (.iconst 1, 1) := by decide +kernel
theorem dL_areWalkersRight_80 : decode cL_areWalkersRight 80 = .ok (.goto 4, 3) := by decide +kernel
theorem dL_areWalkersRight_83 : decode cL_areWalkersRight 83 = .ok (.iconst 0, 1) := by decide +kernel
theorem dL_areWalkersRight_84 : decode cL_areWalkersRight 84 = .ok (.istore_n 3, 1) := by decide +kernel
theorem dL_areWalkersRight_85 : decode cL_areWalkersRight 85 = .ok (.iconst 0, 1) := by decide +kernel
theorem dL_areWalkersRight_86 : decode cL_areWalkersRight 86 = .ok (.istore 4, 2) := by decide +kernel
theorem dL_areWalkersRight_88 : decode cL_areWalkersRight 88 = .ok (.iload 4, 2) := by decide +kernel
theorem dL_areWalkersRight_90 : decode cL_areWalkersRight 90 = .ok (.iload_n 2, 1) := by decide +kernel
theorem dL_areWalkersRight_91 : decode cL_areWalkersRight 91 = .ok (.if_icmp .ge 457, 3) := by decide +kernel
theorem dL_areWalkersRight_94 : decode cL_areWalkersRight 94 = .ok (.iconst 5, 1) := by decide +kernel
theorem dL_areWalkersRight_95 : decode cL_areWalkersRight 95 = .ok (.aload_n 0, 1) := by decide +kernel
theorem dL_areWalkersRight_96 : decode cL_areWalkersRight 96 = .ok (.iload 4, 2) := by decide +kernel
theorem dL_areWalkersRight_98 : decode cL_areWalkersRight 98 = .ok (.invokevirtual 165, 3) := by decide +kernel
theorem dL_areWalkersRight_101 : decode cL_areWalkersRight 101 = .ok (.imul, 1) := by decide +kernel
theorem dL_areWalkersRight_102 : decode cL_areWalkersRight 102 = .ok (.aload_n 0, 1) := by decide +kernel
theorem dL_areWalkersRight_103 : decode cL_areWalkersRight 103 = .ok (.iload 4, 2) := by decide +kernel
theorem dL_areWalkersRight_105 : decode cL_areWalkersRight 105 = .ok (.invokevirtual 168, 3) := by decide +kernel
theorem dL_areWalkersRight_108 : decode cL_areWalkersRight 108 = .ok (.iadd, 1) := by decide +kernel
theorem dL_areWalkersRight_109 : decode cL_areWalkersRight 109 = .ok (.istore 5, 2) := by decide +kernel
theorem dL_areWalkersRight_111 : decode cL_areWalkersRight 111 = .ok (.aload_n 0, 1) := by decide +kernel
theorem dL_areWalkersRight_112 : decode cL_areWalkersRight 112 = .ok (.iload 4, 2) := by decide +kernel
theorem dL_areWalkersRight_114 : decode cL_areWalkersRight 114 = .ok (.iload 5, 2) := by decide +kernel
theorem dL_areWalkersRight_116 : decode cL_areWalkersRight 116 = .ok (.invokestatic 253, 3) := by decide +kernel
theorem dL_areWalkersRight_119 : decode cL_areWalkersRight 119 = .ok (.astore 6, 2) := by decide +kernel
theorem dL_areWalkersRight_121 : decode cL_areWalkersRight 121 = .ok (.iconst 0, 1) := by decide +kernel
theorem dL_areWalkersRight_122 : decode cL_areWalkersRight 122 = .ok (.istore 7, 2) := by decide +kernel
theorem dL_areWalkersRight_124 : decode cL_areWalkersRight 124 = .ok (.iconst 0, 1) := by decide +kernel
theorem dL_areWalkersRight_125 : decode cL_areWalkersRight 125 = .ok (.istore 8, 2) := by decide +kernel
theorem dL_areWalkersRight_127 : decode cL_areWalkersRight 127 = .ok (.iconst 0, 1) := by decide +kernel
theorem dL_areWalkersRight_128 : decode cL_areWalkersRight 128 = .ok (.istore 9, 2) := by decide +kernel
theorem dL_areWalkersRight_130 : decode cL_areWalkersRight 130 = .ok (.iload 9, 2) := by decide +kernel
theorem dL_areWalkersRight_132 : decode cL_areWalkersRight 132 = .ok (.bipush 25, 2) := by decide +kernel
theorem dL_areWalkersRight_134 : decode cL_areWalkersRight 134 = .ok (.if_icmp .ge 103, 3) := by decide +kernel
theorem dL_areWalkersRight_137 : decode cL_areWalkersRight 137 = .ok (.aload 6, 2) := by decide +kernel
theorem dL_areWalkersRight_139 : decode cL_areWalkersRight 139 = .ok (.iload 9, 2) := by decide +kernel
theorem dL_areWalkersRight_141 : decode cL_areWalkersRight 141 = .ok (.iaload, 1) := by decide +kernel
theorem dL_areWalkersRight_142 : decode cL_areWalkersRight 142 = .ok (.bipush 99, 2) := by decide +kernel
theorem dL_areWalkersRight_144 : decode cL_areWalkersRight 144 = .ok (.if_icmp .ne 9, 3) := by decide +kernel
theorem dL_areWalkersRight_147 : decode cL_areWalkersRight 147 = .ok (.sipush (-2004), 3) := by decide +kernel
theorem dL_areWalkersRight_150 : decode cL_areWalkersRight 150 = .ok (.goto 8, 3) := by decide +kernel
theorem dL_areWalkersRight_153 : decode cL_areWalkersRight 153 = .ok (.aload 6, 2) := by decide +kernel
theorem dL_areWalkersRight_155 : decode cL_areWalkersRight 155 = .ok (.iload 9, 2) := by decide +kernel
theorem dL_areWalkersRight_157 : decode cL_areWalkersRight 157 = .ok (.iaload, 1) := by decide +kernel
theorem dL_areWalkersRight_158 : decode cL_areWalkersRight 158 = .ok (.istore 10, 2) := by decide +kernel
theorem dL_areWalkersRight_160 : decode cL_areWalkersRight 160 = .ok (.iload 7, 2) := by decide +kernel
theorem dL_areWalkersRight_162 : decode cL_areWalkersRight 162 = .ok (.aload 6, 2) := by decide +kernel
theorem dL_areWalkersRight_164 : decode cL_areWalkersRight 164 = .ok (.iload 9, 2) := by decide +kernel
theorem dL_areWalkersRight_166 : decode cL_areWalkersRight 166 = .ok (.iaload, 1) := by decide +kernel
theorem dL_areWalkersRight_167 : decode cL_areWalkersRight 167 = .ok (.bipush 99, 2) := by decide +kernel
theorem dL_areWalkersRight_169 : decode cL_areWalkersRight 169 = .ok (.if_icmp .ne 7, 3) := by decide +kernel
theorem dL_areWalkersRight_172 : decode cL_areWalkersRight 172 = .ok (.iconst 0, 1) := by decide +kernel
theorem dL_areWalkersRight_173 : decode cL_areWalkersRight 173 = .ok (.goto 4, 3) := by decide +kernel
theorem dL_areWalkersRight_176 : decode cL_areWalkersRight 176 = .ok (.iconst 1, 1) := by decide +kernel
theorem dL_areWalkersRight_177 : decode cL_areWalkersRight 177 = .ok (.iadd, 1) := by decide +kernel
theorem dL_areWalkersRight_178 : decode cL_areWalkersRight 178 = .ok (.istore 7, 2) := by decide +kernel
theorem dL_areWalkersRight_180 : decode cL_areWalkersRight 180 = .ok (.iload_n 3, 1) := by decide +kernel
theorem dL_areWalkersRight_181 : decode cL_areWalkersRight 181 = .ok (.ifCond .eq 48, 3) := by decide +kernel
theorem dL_areWalkersRight_184 : decode cL_areWalkersRight 184 = .ok (.aload_n 0, 1) := by decide +kernel
theorem dL_areWalkersRight_185 : decode cL_areWalkersRight 185 = .ok (.iconst 5, 1) := by decide +kernel
theorem dL_areWalkersRight_186 : decode cL_areWalkersRight 186 = .ok (.iload 9, 2) := by decide +kernel
theorem dL_areWalkersRight_188 : decode cL_areWalkersRight 188 = .ok (.iconst 5, 1) := by decide +kernel
theorem dL_areWalkersRight_189 : decode cL_areWalkersRight 189 = .ok (.idiv, 1) := by decide +kernel
theorem dL_areWalkersRight_190 : decode cL_areWalkersRight 190 = .ok (.iload 9, 2) := by decide +kernel
theorem dL_areWalkersRight_192 : decode cL_areWalkersRight 192 = .ok (.iconst 5, 1) := by decide +kernel
theorem dL_areWalkersRight_193 : decode cL_areWalkersRight 193 = .ok (.irem, 1) := by decide +kernel
theorem dL_areWalkersRight_194 : decode cL_areWalkersRight 194 = .ok (.iload 4, 2) := by decide +kernel
theorem dL_areWalkersRight_196 : decode cL_areWalkersRight 196 = .ok (.invokestatic 162, 3) := by decide +kernel
theorem dL_areWalkersRight_199 : decode cL_areWalkersRight 199 = .ok (.iload 10, 2) := by decide +kernel
theorem dL_areWalkersRight_201 : decode cL_areWalkersRight 201 = .ok (.if_icmp .ne 28, 3) := by decide +kernel
theorem dL_areWalkersRight_204 : decode cL_areWalkersRight 204 = .ok (.aload_n 0, 1) := by decide +kernel
theorem dL_areWalkersRight_205 : decode cL_areWalkersRight 205 = .ok (.bipush 6, 2) := by decide +kernel
theorem dL_areWalkersRight_207 : decode cL_areWalkersRight 207 = .ok (.iload 9, 2) := by decide +kernel
theorem dL_areWalkersRight_209 : decode cL_areWalkersRight 209 = .ok (.iconst 5, 1) := by decide +kernel
theorem dL_areWalkersRight_210 : decode cL_areWalkersRight 210 = .ok (.idiv, 1) := by decide +kernel
theorem dL_areWalkersRight_211 : decode cL_areWalkersRight 211 = .ok (.iload 9, 2) := by decide +kernel
theorem dL_areWalkersRight_213 : decode cL_areWalkersRight 213 = .ok (.iconst 5, 1) := by decide +kernel
theorem dL_areWalkersRight_214 : decode cL_areWalkersRight 214 = .ok (.irem, 1) := by decide +kernel
theorem dL_areWalkersRight_215 : decode cL_areWalkersRight 215 = .ok (.iload 4, 2) := by decide +kernel
theorem dL_areWalkersRight_217 : decode cL_areWalkersRight 217 = .ok (.invokestatic 162, 3) := by decide +kernel
theorem dL_areWalkersRight_220 : decode cL_areWalkersRight 220 = .ok (.iload 10, 2) := by decide +kernel
theorem dL_areWalkersRight_222 : decode cL_areWalkersRight 222 = .ok (.if_icmp .ne 7, 3) := by decide +kernel
theorem dL_areWalkersRight_225 : decode cL_areWalkersRight 225 = .ok (.iconst 1, 1) := by decide +kernel
theorem dL_areWalkersRight_226 : decode cL_areWalkersRight 226 = .ok (.goto 4, 3) := by decide +kernel
theorem dL_areWalkersRight_229 : decode cL_areWalkersRight 229 = .ok (.iconst 0, 1) := by decide +kernel
theorem dL_areWalkersRight_230 : decode cL_areWalkersRight 230 = .ok (.istore_n 3, 1) := by decide +kernel
theorem dL_areWalkersRight_231 : decode cL_areWalkersRight 231 = .ok (.iinc 9 1, 3) := by decide +kernel
theorem dL_areWalkersRight_234 : decode cL_areWalkersRight 234 = .ok (.goto (-104), 3) := by decide +kernel
theorem dL_areWalkersRight_237 : decode cL_areWalkersRight 237 = .ok (.sipush (-2004), 3) := by decide +kernel
theorem dL_areWalkersRight_240 : decode cL_areWalkersRight 240 = .ok (.istore 9, 2) := by decide +kernel
theorem dL_areWalkersRight_242 : decode cL_areWalkersRight 242 = .ok (.iconst 5, 1) := by decide +kernel
theorem dL_areWalkersRight_243 : decode cL_areWalkersRight 243 = .ok (.istore 10, 2) := by decide +kernel
theorem dL_areWalkersRight_245 : decode cL_areWalkersRight 245 = .ok (.iload 10, 2) := by decide +kernel
theorem dL_areWalkersRight_247 : decode cL_areWalkersRight 247 = .ok (.ifCond .lt 111, 3) := by decide +kernel
theorem dL_areWalkersRight_250 : decode cL_areWalkersRight 250 = .ok (.aload_n 0, 1) := by decide +kernel
theorem dL_areWalkersRight_251 : decode cL_areWalkersRight 251 = .ok (.iconst 3, 1) := by decide +kernel
theorem dL_areWalkersRight_252 : decode cL_areWalkersRight 252 = .ok (.iload 10, 2) := by decide +kernel
theorem dL_areWalkersRight_254 : decode cL_areWalkersRight 254 = .ok (.iconst 0, 1) := by decide +kernel
theorem dL_areWalkersRight_255 : decode cL_areWalkersRight 255 = .ok (.iconst 0, 1) := by decide +kernel
theorem dL_areWalkersRight_256 : decode cL_areWalkersRight 256 = .ok (.invokestatic 162, 3) := by decide +kernel
theorem dL_areWalkersRight_259 : decode cL_areWalkersRight 259 = .ok (.istore 11, 2) := by decide +kernel
theorem dL_areWalkersRight_261 : decode cL_areWalkersRight 261 = .ok (.iload 8, 2) := by decide +kernel
theorem dL_areWalkersRight_263 : decode cL_areWalkersRight 263 = .ok (.aload_n 0, 1) := by decide +kernel
theorem dL_areWalkersRight_264 : decode cL_areWalkersRight 264 = .ok (.iconst 4, 1) := by decide +kernel
theorem dL_areWalkersRight_265 : decode cL_areWalkersRight 265 = .ok (.iload 10, 2) := by decide +kernel
theorem dL_areWalkersRight_267 : decode cL_areWalkersRight 267 = .ok (.iconst 0, 1) := by decide +kernel
theorem dL_areWalkersRight_268 : decode cL_areWalkersRight 268 = .ok (.iconst 0, 1) := by decide +kernel
theorem dL_areWalkersRight_269 : decode cL_areWalkersRight 269 = .ok (.invokestatic 162, 3) := by decide +kernel
theorem dL_areWalkersRight_272 : decode cL_areWalkersRight 272 = .ok (.iload 4, 2) := by decide +kernel
theorem dL_areWalkersRight_274 : decode cL_areWalkersRight 274 = .ok (.if_icmp .ne 7, 3) := by decide +kernel
theorem dL_areWalkersRight_277 : decode cL_areWalkersRight 277 = .ok (.iconst 1, 1) := by decide +kernel
theorem dL_areWalkersRight_278 : decode cL_areWalkersRight 278 = .ok (.goto 4, 3) := by decide +kernel
theorem dL_areWalkersRight_281 : decode cL_areWalkersRight 281 = .ok (.iconst 0, 1) := by decide +kernel
theorem dL_areWalkersRight_282 : decode cL_areWalkersRight 282 = .ok (.iadd, 1) := by decide +kernel
theorem dL_areWalkersRight_283 : decode cL_areWalkersRight 283 = .ok (.istore 8, 2) := by decide +kernel
theorem dL_areWalkersRight_285 : decode cL_areWalkersRight 285 = .ok (.iload 11, 2) := by decide +kernel
theorem dL_areWalkersRight_287 : decode cL_areWalkersRight 287 = .ok (.ifCond .lt 45, 3) := by decide +kernel
theorem dL_areWalkersRight_290 : decode cL_areWalkersRight 290 = .ok (.aload 6, 2) := by decide +kernel
theorem dL_areWalkersRight_292 : decode cL_areWalkersRight 292 = .ok (.iload 11, 2) := by decide +kernel
theorem dL_areWalkersRight_294 : decode cL_areWalkersRight 294 = .ok (.iaload, 1) := by decide +kernel
theorem dL_areWalkersRight_295 : decode cL_areWalkersRight 295 = .ok (.bipush 99, 2) := by decide +kernel
theorem dL_areWalkersRight_297 : decode cL_areWalkersRight 297 = .ok (.if_icmp .ge 35, 3) := by decide +kernel
theorem dL_areWalkersRight_300 : decode cL_areWalkersRight 300 = .ok (.iload 9, 2) := by decide +kernel
theorem dL_areWalkersRight_302 : decode cL_areWalkersRight 302 = .ok (.ifCond .lt 26, 3) := by decide +kernel
theorem dL_areWalkersRight_305 : decode cL_areWalkersRight 305 = .ok (.aload 6, 2) := by decide +kernel
theorem dL_areWalkersRight_307 : decode cL_areWalkersRight 307 = .ok (.iload 11, 2) := by decide +kernel
theorem dL_areWalkersRight_309 : decode cL_areWalkersRight 309 = .ok (.iaload, 1) := by decide +kernel
theorem dL_areWalkersRight_310 : decode cL_areWalkersRight 310 = .ok (.aload 6, 2) := by decide +kernel
theorem dL_areWalkersRight_312 : decode cL_areWalkersRight 312 = .ok (.aload_n 0, 1) := by decide +kernel
theorem dL_areWalkersRight_313 : decode cL_areWalkersRight 313 = .ok (.iconst 3, 1) := by decide +kernel
theorem dL_areWalkersRight_314 : decode cL_areWalkersRight 314 = .ok (.iload 9, 2) := by decide +kernel
theorem dL_areWalkersRight_316 : decode cL_areWalkersRight 316 = .ok (.bipush 97, 2) := by decide +kernel
theorem dL_areWalkersRight_318 : decode cL_areWalkersRight 318 = .ok (.isub, 1) := by decide +kernel
theorem dL_areWalkersRight_319 : decode cL_areWalkersRight 319 = .ok (.iconst 0, 1) := by decide +kernel
theorem dL_areWalkersRight_320 : decode cL_areWalkersRight 320 = .ok (.iconst 0, 1) := by decide +kernel
theorem dL_areWalkersRight_321 : decode cL_areWalkersRight 321 = .ok (.invokestatic 162, 3) := by decide +kernel
theorem dL_areWalkersRight_324 : decode cL_areWalkersRight 324 = .ok (.iaload, 1) := by decide +kernel
theorem dL_areWalkersRight_325 : decode cL_areWalkersRight 325 = .ok (.if_icmp .gt 7, 3) := by decide +kernel
theorem dL_areWalkersRight_328 : decode cL_areWalkersRight 328 = .ok (.iconst 1, 1) := by decide +kernel
theorem dL_areWalkersRight_329 : decode cL_areWalkersRight 329 = .ok (.goto 4, 3) := by decide +kernel
theorem dL_areWalkersRight_332 : decode cL_areWalkersRight 332 = .ok (.iconst 0, 1) := by decide +kernel
theorem dL_areWalkersRight_333 : decode cL_areWalkersRight 333 = .ok (.istore 12, 2) := by decide +kernel
theorem dL_areWalkersRight_335 : decode cL_areWalkersRight 335 = .ok (.iload 12, 2) := by decide +kernel
theorem dL_areWalkersRight_337 : decode cL_areWalkersRight 337 = .ok (.ifCond .eq 11, 3) := by decide +kernel
theorem dL_areWalkersRight_340 : decode cL_areWalkersRight 340 = .ok (.bipush 97, 2) := by decide +kernel
theorem dL_areWalkersRight_342 : decode cL_areWalkersRight 342 = .ok (.iload 10, 2) := by decide +kernel
theorem dL_areWalkersRight_344 : decode cL_areWalkersRight 344 = .ok (.iadd, 1) := by decide +kernel
theorem dL_areWalkersRight_345 : decode cL_areWalkersRight 345 = .ok (.goto 5, 3) := by decide +kernel
theorem dL_areWalkersRight_348 : decode cL_areWalkersRight 348 = .ok (.iload 9, 2) := by decide +kernel
theorem dL_areWalkersRight_350 : decode cL_areWalkersRight 350 = .ok (.istore 9, 2) := by decide +kernel
theorem dL_areWalkersRight_352 : decode cL_areWalkersRight 352 = .ok (.iinc 10 (-1), 3) := by decide +kernel
theorem dL_areWalkersRight_355 : decode cL_areWalkersRight 355 = .ok (.goto (-110), 3) := by decide +kernel
theorem dL_areWalkersRight_358 : decode cL_areWalkersRight 358 = .ok (.sipush (-2004), 3) := by decide +kernel
theorem dL_areWalkersRight_361 : decode cL_areWalkersRight 361 = .ok (.istore 10, 2) := by decide +kernel
theorem dL_areWalkersRight_363 : decode cL_areWalkersRight 363 = .ok (.iconst 3, 1) := by decide +kernel
theorem dL_areWalkersRight_364 : decode cL_areWalkersRight 364 = .ok (.istore 11, 2) := by decide +kernel
theorem dL_areWalkersRight_366 : decode cL_areWalkersRight 366 = .ok (.iload 11, 2) := by decide +kernel
theorem dL_areWalkersRight_368 : decode cL_areWalkersRight 368 = .ok (.ifCond .lt 91, 3) := by decide +kernel
theorem dL_areWalkersRight_371 : decode cL_areWalkersRight 371 = .ok (.aload_n 0, 1) := by decide +kernel
theorem dL_areWalkersRight_372 : decode cL_areWalkersRight 372 = .ok (.iload 5, 2) := by decide +kernel
theorem dL_areWalkersRight_374 : decode cL_areWalkersRight 374 = .ok (.iload 11, 2) := by decide +kernel
theorem dL_areWalkersRight_376 : decode cL_areWalkersRight 376 = .ok (.invokestatic 171, 3) := by decide +kernel
theorem dL_areWalkersRight_379 : decode cL_areWalkersRight 379 = .ok (.istore 12, 2) := by decide +kernel
theorem dL_areWalkersRight_381 : decode cL_areWalkersRight 381 = .ok (.aload 6, 2) := by decide +kernel
theorem dL_areWalkersRight_383 : decode cL_areWalkersRight 383 = .ok (.iload_n 1, 1) := by decide +kernel
theorem dL_areWalkersRight_384 : decode cL_areWalkersRight 384 = .ok (.iaload, 1) := by decide +kernel
theorem dL_areWalkersRight_385 : decode cL_areWalkersRight 385 = .ok (.bipush 99, 2) := by decide +kernel
theorem dL_areWalkersRight_387 : decode cL_areWalkersRight 387 = .ok (.if_icmp .ge 30, 3) := by decide +kernel
theorem dL_areWalkersRight_390 : decode cL_areWalkersRight 390 = .ok (.aload 6, 2) := by decide +kernel
theorem dL_areWalkersRight_392 : decode cL_areWalkersRight 392 = .ok (.iload_n 1, 1) := by decide +kernel
theorem dL_areWalkersRight_393 : decode cL_areWalkersRight 393 = .ok (.iaload, 1) := by decide +kernel
theorem dL_areWalkersRight_394 : decode cL_areWalkersRight 394 = .ok (.ifCond .le 23, 3) := by decide +kernel
theorem dL_areWalkersRight_397 : decode cL_areWalkersRight 397 = .ok (.iload 12, 2) := by decide +kernel
theorem dL_areWalkersRight_399 : decode cL_areWalkersRight 399 = .ok (.ifCond .lt 18, 3) := by decide +kernel
theorem dL_areWalkersRight_402 : decode cL_areWalkersRight 402 = .ok (.aload_n 0, 1) := by decide +kernel
theorem dL_areWalkersRight_403 : decode cL_areWalkersRight 403 = .ok (.iload 4, 2) := by decide +kernel
theorem dL_areWalkersRight_405 : decode cL_areWalkersRight 405 = .ok (.iload 12, 2) := by decide +kernel
theorem dL_areWalkersRight_407 : decode cL_areWalkersRight 407 = .ok (.invokestatic 175, 3) := by decide +kernel
theorem dL_areWalkersRight_410 : decode cL_areWalkersRight 410 = .ok (.ifCond .eq 7, 3) := by decide +kernel
theorem dL_areWalkersRight_413 : decode cL_areWalkersRight 413 = .ok (.iconst 1, 1) := by decide +kernel
theorem dL_areWalkersRight_414 : decode cL_areWalkersRight 414 = .ok (.goto 4, 3) := by decide +kernel
theorem dL_areWalkersRight_417 : decode cL_areWalkersRight 417 = .ok (.iconst 0, 1) := by decide +kernel
theorem dL_areWalkersRight_418 : decode cL_areWalkersRight 418 = .ok (.istore 13, 2) := by decide +kernel
theorem dL_areWalkersRight_420 : decode cL_areWalkersRight 420 = .ok (.iload 13, 2) := by decide +kernel
theorem dL_areWalkersRight_422 : decode cL_areWalkersRight 422 = .ok (.ifCond .eq 27, 3) := by decide +kernel
theorem dL_areWalkersRight_425 : decode cL_areWalkersRight 425 = .ok (.aload_n 0, 1) := by decide +kernel
theorem dL_areWalkersRight_426 : decode cL_areWalkersRight 426 = .ok (.iload 4, 2) := by decide +kernel
theorem dL_areWalkersRight_428 : decode cL_areWalkersRight 428 = .ok (.iload 12, 2) := by decide +kernel
theorem dL_areWalkersRight_430 : decode cL_areWalkersRight 430 = .ok (.invokestatic 253, 3) := by decide +kernel
theorem dL_areWalkersRight_433 : decode cL_areWalkersRight 433 = .ok (.iload_n 1, 1) := by decide +kernel
theorem dL_areWalkersRight_434 : decode cL_areWalkersRight 434 = .ok (.iaload, 1) := by decide +kernel
theorem dL_areWalkersRight_435 : decode cL_areWalkersRight 435 = .ok (.aload 6, 2) := by decide +kernel
theorem dL_areWalkersRight_437 : decode cL_areWalkersRight 437 = .ok (.iload_n 1, 1) := by decide +kernel
theorem dL_areWalkersRight_438 : decode cL_areWalkersRight 438 = .ok (.iaload, 1) := by decide +kernel
theorem dL_areWalkersRight_439 : decode cL_areWalkersRight 439 = .ok (.iconst 1, 1) := by decide +kernel
theorem dL_areWalkersRight_440 : decode cL_areWalkersRight 440 = .ok (.isub, 1) := by decide +kernel
theorem dL_areWalkersRight_441 : decode cL_areWalkersRight 441 = .ok (.if_icmp .ne 8, 3) := by decide +kernel
theorem dL_areWalkersRight_444 : decode cL_areWalkersRight 444 = .ok (.iload 11, 2) := by decide +kernel
theorem dL_areWalkersRight_446 : decode cL_areWalkersRight 446 = .ok (.goto 5, 3) := by decide +kernel
theorem dL_areWalkersRight_449 : decode cL_areWalkersRight 449 = .ok (.iload 10, 2) := by decide +kernel
theorem dL_areWalkersRight_451 : decode cL_areWalkersRight 451 = .ok (.istore 10, 2) := by decide +kernel
theorem dL_areWalkersRight_453 : decode cL_areWalkersRight 453 = .ok (.iinc 11 (-1), 3) := by decide +kernel
theorem dL_areWalkersRight_456 : decode cL_areWalkersRight 456 = .ok (.goto (-90), 3) := by decide +kernel
theorem dL_areWalkersRight_459 : decode cL_areWalkersRight 459 = .ok (.iload_n 3, 1) := by decide +kernel
theorem dL_areWalkersRight_460 : decode cL_areWalkersRight 460 = .ok (.ifCond .eq 80, 3) := by decide +kernel
theorem dL_areWalkersRight_463 : decode cL_areWalkersRight 463 = .ok (.aload_n 0, 1) := by decide +kernel
theorem dL_areWalkersRight_464 : decode cL_areWalkersRight 464 = .ok (.iload 4, 2) := by decide +kernel
theorem dL_areWalkersRight_466 : decode cL_areWalkersRight 466 = .ok (.invokevirtual 119, 3) := by decide +kernel
theorem dL_areWalkersRight_469 : decode cL_areWalkersRight 469 = .ok (.iload 7, 2) := by decide +kernel
theorem dL_areWalkersRight_471 : decode cL_areWalkersRight 471 = .ok (.if_icmp .ne 69, 3) := by decide +kernel
theorem dL_areWalkersRight_474 : decode cL_areWalkersRight 474 = .ok (.aload_n 0, 1) := by decide +kernel
theorem dL_areWalkersRight_475 : decode cL_areWalkersRight 475 = .ok (.iload 4, 2) := by decide +kernel
theorem dL_areWalkersRight_477 : decode cL_areWalkersRight 477 = .ok (.invokevirtual 257, 3) := by decide +kernel
theorem dL_areWalkersRight_480 : decode cL_areWalkersRight 480 = .ok (.iload 7, 2) := by decide +kernel
theorem dL_areWalkersRight_482 : decode cL_areWalkersRight 482 = .ok (.i2f, 1) := by decide +kernel
theorem dL_areWalkersRight_483 : decode cL_areWalkersRight 483 = .ok (.ldc_w 261, 3) := by decide +kernel
theorem dL_areWalkersRight_486 : decode cL_areWalkersRight 486 = .ok (.fdiv, 1) := by decide +kernel
theorem dL_areWalkersRight_487 : decode cL_areWalkersRight 487 = .ok (.fcmp .l, 1) := by decide +kernel
theorem dL_areWalkersRight_488 : decode cL_areWalkersRight 488 = .ok (.ifCond .ne 52, 3) := by decide +kernel
theorem dL_areWalkersRight_491 : decode cL_areWalkersRight 491 = .ok (.aload_n 0, 1) := by decide +kernel
theorem dL_areWalkersRight_492 : decode cL_areWalkersRight 492 = .ok (.bipush 8, 2) := by decide +kernel
theorem dL_areWalkersRight_494 : decode cL_areWalkersRight 494 = .ok (.iload 4, 2) := by decide +kernel
theorem dL_areWalkersRight_496 : decode cL_areWalkersRight 496 = .ok (.iconst 0, 1) := by decide +kernel
theorem dL_areWalkersRight_497 : decode cL_areWalkersRight 497 = .ok (.iconst 0, 1) := by decide +kernel
theorem dL_areWalkersRight_498 : decode cL_areWalkersRight 498 = .ok (.invokestatic 162, 3) := by decide +kernel
theorem dL_areWalkersRight_501 : decode cL_areWalkersRight 501 = .ok (.iload 9, 2) := by decide +kernel
theorem dL_areWalkersRight_503 : decode cL_areWalkersRight 503 = .ok (.if_icmp .ne 37, 3) := by decide +kernel
theorem dL_areWalkersRight_506 : decode cL_areWalkersRight 506 = .ok (.aload_n 0, 1) := by decide +kernel
theorem dL_areWalkersRight_507 : decode cL_areWalkersRight 507 = .ok (.iload 4, 2) := by decide +kernel
theorem dL_areWalkersRight_509 : decode cL_areWalkersRight 509 = .ok (.invokevirtual 262, 3) := by decide +kernel
theorem dL_areWalkersRight_512 : decode cL_areWalkersRight 512 = .ok (.iload 8, 2) := by decide +kernel
theorem dL_areWalkersRight_514 : decode cL_areWalkersRight 514 = .ok (.if_icmp .ne 26, 3) := by decide +kernel
theorem dL_areWalkersRight_517 : decode cL_areWalkersRight 517 = .ok (.aload_n 0, 1) := by decide +kernel
theorem dL_areWalkersRight_518 : decode cL_areWalkersRight 518 = .ok (.bipush 7, 2) := by decide +kernel
theorem dL_areWalkersRight_520 : decode cL_areWalkersRight 520 = .ok (.iload_n 1, 1) := by decide +kernel
theorem dL_areWalkersRight_521 : decode cL_areWalkersRight 521 = .ok (.iconst 5, 1) := by decide +kernel
theorem dL_areWalkersRight_522 : decode cL_areWalkersRight 522 = .ok (.idiv, 1) := by decide +kernel
theorem dL_areWalkersRight_523 : decode cL_areWalkersRight 523 = .ok (.iload_n 1, 1) := by decide +kernel
theorem dL_areWalkersRight_524 : decode cL_areWalkersRight 524 = .ok (.iconst 5, 1) := by decide +kernel
theorem dL_areWalkersRight_525 : decode cL_areWalkersRight 525 = .ok (.irem, 1) := by decide +kernel
theorem dL_areWalkersRight_526 : decode cL_areWalkersRight 526 = .ok (.iload 4, 2) := by decide +kernel
theorem dL_areWalkersRight_528 : decode cL_areWalkersRight 528 = .ok (.invokestatic 162, 3) := by decide +kernel
theorem dL_areWalkersRight_531 : decode cL_areWalkersRight 531 = .ok (.iload 10, 2) := by decide +kernel
theorem dL_areWalkersRight_533 : decode cL_areWalkersRight 533 = .ok (.if_icmp .ne 7, 3) := by decide +kernel
theorem dL_areWalkersRight_536 : decode cL_areWalkersRight 536 = .ok (.iconst 1, 1) := by decide +kernel
theorem dL_areWalkersRight_537 : decode cL_areWalkersRight 537 = .ok (.goto 4, 3) := by decide +kernel
theorem dL_areWalkersRight_540 : decode cL_areWalkersRight 540 = .ok (.iconst 0, 1) := by decide +kernel
theorem dL_areWalkersRight_541 : decode cL_areWalkersRight 541 = .ok (.istore_n 3, 1) := by decide +kernel
theorem dL_areWalkersRight_542 : decode cL_areWalkersRight 542 = .ok (.iinc 4 1, 3) := by decide +kernel
theorem dL_areWalkersRight_545 : decode cL_areWalkersRight 545 = .ok (.goto (-457), 3) := by decide +kernel
theorem dL_areWalkersRight_548 : decode cL_areWalkersRight 548 = .ok (.iload_n 3, 1) := by decide +kernel
theorem dL_areWalkersRight_549 : decode cL_areWalkersRight 549 = .ok (.ireturn, 1) := by decide +kernel
theorem dL_areShiftsRight_0 : decode cL_areShiftsRight 0 = .ok (.iload_n 1, 1) := by decide +kernel
theorem dL_areShiftsRight_1 : decode cL_areShiftsRight 1 = .ok (.aload_n 0, 1) := by decide +kernel
theorem dL_areShiftsRight_2 : decode cL_areShiftsRight 2 = .ok (.invokevirtual 143, 3) := by decide +kernel
theorem dL_areShiftsRight_5 : decode cL_areShiftsRight 5 = .ok (.if_icmp .lt 5, 3) := by decide +kernel
theorem dL_areShiftsRight_8 : decode cL_areShiftsRight 8 = .ok (.iconst 1, 1) := by decide +kernel
theorem dL_areShiftsRight_9 : decode cL_areShiftsRight 9 = .ok (.ireturn, 1) := by decide +kernel
theorem dL_areShiftsRight_10 : decode cL_areShiftsRight 10 = .ok (.aload_n 0, 1) := by decide +kernel
theorem dL_areShiftsRight_11 : decode cL_areShiftsRight 11 = .ok (.iload_n 1, 1) := by decide +kernel
theorem dL_areShiftsRight_12 : decode cL_areShiftsRight 12 = .ok (.iload_n 2, 1) := by decide +kernel
theorem dL_areShiftsRight_13 : decode cL_areShiftsRight 13 = .ok (.iconst 5, 1) := by decide +kernel
theorem dL_areShiftsRight_14 : decode cL_areShiftsRight 14 = .ok (.idiv, 1) := by decide +kernel
theorem dL_areShiftsRight_15 : decode cL_areShiftsRight 15 = .ok (.iload_n 2, 1) := by decide +kernel
theorem dL_areShiftsRight_16 : decode cL_areShiftsRight 16 = .ok (.iconst 5, 1) := by decide +kernel
theorem dL_areShiftsRight_17 : decode cL_areShiftsRight 17 = .ok (.irem, 1) := by decide +kernel
theorem dL_areShiftsRight_18 : decode cL_areShiftsRight 18 = .ok (.invokevirtual 110, 3) := by decide +kernel
theorem dL_areShiftsRight_21 : decode cL_areShiftsRight 21 = .ok (.istore_n 3, 1) := by decide +kernel
theorem dL_areShiftsRight_22 : decode cL_areShiftsRight 22 = .ok (.aload_n 0, 1) := by decide +kernel
theorem dL_areShiftsRight_23 : decode cL_areShiftsRight 23 = .ok (.invokestatic 265, 3) := by decide +kernel
theorem dL_areShiftsRight_26 : decode cL_areShiftsRight 26 = .ok (.istore 4, 2) := by decide +kernel
theorem dL_areShiftsRight_28 : decode cL_areShiftsRight 28 = .ok (.aload_n 0, 1) := by decide +kernel
theorem dL_areShiftsRight_29 : decode cL_areShiftsRight 29 = .ok (.invokevirtual 269, 3) := by decide +kernel
theorem dL_areShiftsRight_32 : decode cL_areShiftsRight 32 = .ok (.iconst 0, 1) := by decide +kernel
theorem dL_areShiftsRight_33 : decode cL_areShiftsRight 33 = .ok (.istore 5, 2) := by decide +kernel
theorem dL_areShiftsRight_35 : decode cL_areShiftsRight 35 = .ok (.iconst 0, 1) := by decide +kernel
theorem dL_areShiftsRight_36 : decode cL_areShiftsRight 36 = .ok (.istore 6, 2) := by decide +kernel
theorem dL_areShiftsRight_38 : decode cL_areShiftsRight 38 = .ok (.iload 6, 2) := by decide +kernel
theorem dL_areShiftsRight_40 : decode cL_areShiftsRight 40 = .ok (.bipush 20, 2) := by decide +kernel
theorem dL_areShiftsRight_42 : decode cL_areShiftsRight 42 = .ok (.if_icmp .ge 75, 3) := by decide +kernel
theorem dL_areShiftsRight_45 : decode cL_areShiftsRight 45 = .ok (.aload_n 0, 1) := by decide +kernel
theorem dL_areShiftsRight_46 : decode cL_areShiftsRight 46 = .ok (.iconst 4, 1) := by decide +kernel
theorem dL_areShiftsRight_47 : decode cL_areShiftsRight 47 = .ok (.iload 6, 2) := by decide +kernel
theorem dL_areShiftsRight_49 : decode cL_areShiftsRight 49 = .ok (.bipush 10, 2) := by decide +kernel
theorem dL_areShiftsRight_51 : decode cL_areShiftsRight 51 = .ok (.idiv, 1) := by decide +kernel
theorem dL_areShiftsRight_52 : decode cL_areShiftsRight 52 = .ok (.iadd, 1) := by decide +kernel
theorem dL_areShiftsRight_53 : decode cL_areShiftsRight 53 = .ok (.iload 6, 2) := by decide +kernel
theorem dL_areShiftsRight_55 : decode cL_areShiftsRight 55 = .ok (.iconst 5, 1) := by decide +kernel
theorem dL_areShiftsRight_56 : decode cL_areShiftsRight 56 = .ok (.irem, 1) := by decide +kernel
theorem dL_areShiftsRight_57 : decode cL_areShiftsRight 57 = .ok (.iload 6, 2) := by decide +kernel
theorem dL_areShiftsRight_59 : decode cL_areShiftsRight 59 = .ok (.iconst 5, 1) := by decide +kernel
theorem dL_areShiftsRight_60 : decode cL_areShiftsRight 60 = .ok (.idiv, 1) := by decide +kernel
theorem dL_areShiftsRight_61 : decode cL_areShiftsRight 61 = .ok (.iconst 2, 1) := by decide +kernel
theorem dL_areShiftsRight_62 : decode cL_areShiftsRight 62 = .ok (.irem, 1) := by decide +kernel
theorem dL_areShiftsRight_63 : decode cL_areShiftsRight 63 = .ok (.ifCond .ne 7, 3) := by decide +kernel
theorem dL_areShiftsRight_66 : decode cL_areShiftsRight 66 = .ok (.iconst 1, 1) := by decide +kernel
theorem dL_areShiftsRight_67 : decode cL_areShiftsRight 67 = .ok (.goto 4, 3) := by decide +kernel
theorem dL_areShiftsRight_70 : decode cL_areShiftsRight 70 = .ok (.iconst (-1), 1) := by decide +kernel
theorem dL_areShiftsRight_71 : decode cL_areShiftsRight 71 = .ok (.iconst 0, 1) := by decide +kernel
theorem dL_areShiftsRight_72 : decode cL_areShiftsRight 72 = .ok (.invokestatic 140, 3) := by decide +kernel
theorem dL_areShiftsRight_75 : decode cL_areShiftsRight 75 = .ok (.istore 7, 2) := by decide +kernel
theorem dL_areShiftsRight_77 : decode cL_areShiftsRight 77 = .ok (.iload 5, 2) := by decide +kernel
theorem dL_areShiftsRight_79 : decode cL_areShiftsRight 79 = .ok (.iload 7, 2) := by decide +kernel
theorem dL_areShiftsRight_81 : decode cL_areShiftsRight 81 = .ok (.ifCond .lt 22, 3) := by decide +kernel
theorem dL_areShiftsRight_84 : decode cL_areShiftsRight 84 = .ok (.aload_n 0, 1) := by decide +kernel
theorem dL_areShiftsRight_85 : decode cL_areShiftsRight 85 = .ok (.iconst 5, 1) := by decide +kernel
theorem dL_areShiftsRight_86 : decode cL_areShiftsRight 86 = .ok (.iload_n 2, 1) := by decide +kernel
theorem dL_areShiftsRight_87 : decode cL_areShiftsRight 87 = .ok (.iconst 5, 1) := by decide +kernel
theorem dL_areShiftsRight_88 : decode cL_areShiftsRight 88 = .ok (.idiv, 1) := by decide +kernel
theorem dL_areShiftsRight_89 : decode cL_areShiftsRight 89 = .ok (.iload_n 2, 1) := by decide +kernel
theorem dL_areShiftsRight_90 : decode cL_areShiftsRight 90 = .ok (.iconst 5, 1) := by decide +kernel
theorem dL_areShiftsRight_91 : decode cL_areShiftsRight 91 = .ok (.irem, 1) := by decide +kernel
theorem dL_areShiftsRight_92 : decode cL_areShiftsRight 92 = .ok (.iload_n 1, 1) := by decide +kernel
theorem dL_areShiftsRight_93 : decode cL_areShiftsRight 93 = .ok (.invokestatic 162, 3) := by decide +kernel
theorem dL_areShiftsRight_96 : decode cL_areShiftsRight 96 = .ok (.ifCond .lt 7, 3) := by decide +kernel
theorem dL_areShiftsRight_99 : decode cL_areShiftsRight 99 = .ok (.iconst 1, 1) := by decide +kernel
theorem dL_areShiftsRight_100 : decode cL_areShiftsRight 100 = .ok (.goto 4, 3) := by decide +kernel
theorem dL_areShiftsRight_103 : decode cL_areShiftsRight 103 = .ok (.iconst 0, 1) := by decide +kernel
theorem dL_areShiftsRight_104 : decode cL_areShiftsRight 104 = .ok (.iadd, 1) := by decide +kernel
theorem dL_areShiftsRight_105 : decode cL_areShiftsRight 105 = .ok (.istore 5, 2) := by decide +kernel
theorem dL_areShiftsRight_107 : decode cL_areShiftsRight 107 = .ok (.aload_n 0, 1) := by decide +kernel
theorem dL_areShiftsRight_108 : decode cL_areShiftsRight 108 = .ok (.invokevirtual 272, 3) := by decide +kernel
theorem dL_areShiftsRight_111 : decode cL_areShiftsRight 111 = .ok (.iinc 6 1, 3) := by decide +kernel
theorem dL_areShiftsRight_114 : decode cL_areShiftsRight 114 = .ok (.goto (-76), 3) := by decide +kernel
theorem dL_areShiftsRight_117 : decode cL_areShiftsRight 117 = .ok (.iload_n 3, 1) := by decide +kernel
theorem dL_areShiftsRight_118 : decode cL_areShiftsRight 118 = .ok (.iload 5, 2) := by decide +kernel
theorem dL_areShiftsRight_120 : decode cL_areShiftsRight 120 = .ok (.if_icmp .ne 16, 3) := by decide +kernel
theorem dL_areShiftsRight_123 : decode cL_areShiftsRight 123 = .ok (.aload_n 0, 1) := by decide +kernel
theorem dL_areShiftsRight_124 : decode cL_areShiftsRight 124 = .ok (.invokestatic 265, 3) := by decide +kernel
theorem dL_areShiftsRight_127 : decode cL_areShiftsRight 127 = .ok (.iload 4, 2) := by decide +kernel
theorem dL_areShiftsRight_129 : decode cL_areShiftsRight 129 = .ok (.if_icmp .ne 7, 3) := by decide +kernel
theorem dL_areShiftsRight_132 : decode cL_areShiftsRight 132 = .ok (.iconst 1, 1) := by decide +kernel
theorem dL_areShiftsRight_133 : decode cL_areShiftsRight 133 = .ok (.goto 4, 3) := by decide +kernel
theorem dL_areShiftsRight_136 : decode cL_areShiftsRight 136 = .ok (.iconst 0, 1) := by decide +kernel
theorem dL_areShiftsRight_137 : decode cL_areShiftsRight 137 = .ok (.ireturn, 1) := by decide +kernel
