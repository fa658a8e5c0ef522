theorem dJ7_copyOf_9075b_14 : decode cJ7_copyOf_9075b 14 = .ok (.iload_n 1, 1) := by decide +kernel
theorem dJ7_copyOf_9075b_15 : decode cJ7_copyOf_9075b 15 = .ok (.newarray .byte, 2) := by decide +kernel
theorem dJ7_copyOf_9075b_17 : decode cJ7_copyOf_9075b 17 = .ok (.astore_n 2, 1) := by decide +kernel
theorem dJ7_copyOf_9075b_18 : decode cJ7_copyOf_9075b 18 = .ok (.aload_n 0, 1) := by decide +kernel
theorem dJ7_copyOf_9075b_19 : decode cJ7_copyOf_9075b 19 = .ok (.iconst 0, 1) := by decide +kernel
theorem dJ7_copyOf_9075b_20 : decode cJ7_copyOf_9075b 20 = .ok (.aload_n 2, 1) := by decide +kernel
theorem dJ7_copyOf_9075b_21 : decode cJ7_copyOf_9075b 21 = .ok (.iconst 0, 1) := by decide +kernel
theorem dJ7_copyOf_9075b_22 : decode cJ7_copyOf_9075b 22 = .ok (.aload_n 0, 1) := by decide +kernel
theorem dJ7_copyOf_9075b_23 : decode cJ7_copyOf_9075b 23 = .ok (.arraylength, 1) := by decide +kernel
theorem dJ7_copyOf_9075b_24 : decode cJ7_copyOf_9075b 24 = .ok (.iload_n 1, 1) := by decide +kernel
theorem dJ7_copyOf_9075b_25 : decode cJ7_copyOf_9075b 25 = .ok (.invokestatic 304, 3) := by decide +kernel
theorem dJ7_copyOf_9075b_28 : decode cJ7_copyOf_9075b 28 = .ok (.invokestatic 150, 3) := by decide +kernel
theorem dJ7_copyOf_9075b_31 : decode cJ7_copyOf_9075b 31 = .ok (.aload_n 2, 1) := by decide +kernel
theorem dJ7_copyOf_9075b_32 : decode cJ7_copyOf_9075b 32 = .ok (.areturn, 1) := by decide +kernel
theorem dJ7_checkLength_df160_0 : decode cJ7_checkLength_df160 0 = .ok (.iload_n 1, 1) := by decide +kernel
theorem dJ7_checkLength_df160_1 : decode cJ7_checkLength_df160 1 = .ok (.iload_n 0, 1) := by decide +kernel
theorem dJ7_checkLength_df160_2 : decode cJ7_checkLength_df160 2 = .ok (.if_icmp .ge 35, 3) := by decide +kernel
theorem dJ7_checkLength_df160_5 : decode cJ7_checkLength_df160 5 = .ok (.new 43, 3) := by decide +kernel
theorem dJ7_checkLength_df160_8 : decode cJ7_checkLength_df160 8 = .ok (.dup, 1) := by decide +kernel
theorem dJ7_checkLength_df160_9 : decode cJ7_checkLength_df160 9 = .ok (.new 45, 3) := by decide +kernel
theorem dJ7_checkLength_df160_12 : decode cJ7_checkLength_df160 12 = .ok (.dup, 1) := by decide +kernel
theorem dJ7_checkLength_df160_13 : decode cJ7_checkLength_df160 13 = .ok (.invokespecial 47, 3) := by decide +kernel
theorem dJ7_checkLength_df160_16 : decode cJ7_checkLength_df160 16 = .ok (.iload_n 0, 1) := by decide +kernel
theorem dJ7_checkLength_df160_17 : decode cJ7_checkLength_df160 17 = .ok (.invokevirtual 54, 3) := by decide +kernel
theorem dJ7_checkLength_df160_20 : decode cJ7_checkLength_df160 20 = .ok (.ldc_w 337, 3) := by decide +kernel
theorem dJ7_checkLength_df160_23 : decode cJ7_checkLength_df160 23 = .ok (.invokevirtual 50, 3) := by decide +kernel
theorem dJ7_checkLength_df160_26 : decode cJ7_checkLength_df160 26 = .ok (.iload_n 1, 1) := by decide +kernel
theorem dJ7_checkLength_df160_27 : decode cJ7_checkLength_df160 27 = .ok (.invokevirtual 54, 3) := by decide +kernel
theorem dJ7_checkLength_df160_30 : decode cJ7_checkLength_df160 30 = .ok (.invokevirtual 61, 3) := by decide +kernel
theorem dJ7_checkLength_df160_33 : decode cJ7_checkLength_df160 33 = .ok (.invokespecial 65, 3) := by decide +kernel
theorem dJ7_checkLength_df160_36 : decode cJ7_checkLength_df160 36 = .ok (.athrow, 1) := by decide +kernel
theorem dJ7_checkLength_df160_37 : decode cJ7_checkLength_df160 37 = .ok (.return_, 1) := by decide +kernel
theorem dJ7_copyOfRange_39247_0 : decode cJ7_copyOfRange_39247 0 = .ok (.iload_n 1, 1) := by decide +kernel
theorem dJ7_copyOfRange_39247_1 : decode cJ7_copyOfRange_39247 1 = .ok (.ifCond .ne 9, 3) := by decide +kernel
theorem dJ7_copyOfRange_39247_4 : decode cJ7_copyOfRange_39247 4 = .ok (.iload_n 2, 1) := by decide +kernel
theorem dJ7_copyOfRange_39247_5 : decode cJ7_copyOfRange_39247 5 = .ok (.aload_n 0, 1) := by decide +kernel
theorem dJ7_copyOfRange_39247_6 : decode cJ7_copyOfRange_39247 6 = .ok (.arraylength, 1) := by decide +kernel
theorem dJ7_copyOfRange_39247_7 : decode cJ7_copyOfRange_39247 7 = .ok (.if_icmp .eq 10, 3) := by decide +kernel
theorem dJ7_copyOfRange_39247_10 : decode cJ7_copyOfRange_39247 10 = .ok (.aload_n 0, 1) := by decide +kernel
theorem dJ7_copyOfRange_39247_11 : decode cJ7_copyOfRange_39247 11 = .ok (.iload_n 1, 1) := by decide +kernel
theorem dJ7_copyOfRange_39247_12 : decode cJ7_copyOfRange_39247 12 = .ok (.iload_n 2, 1) := by decide +kernel
theorem dJ7_copyOfRange_39247_13 : decode cJ7_copyOfRange_39247 13 = .ok (.invokestatic 339, 3) := by decide +kernel
theorem dJ7_copyOfRange_39247_16 : decode cJ7_copyOfRange_39247 16 = .ok (.areturn, 1) := by decide +kernel
theorem dJ7_copyOfRange_39247_17 : decode cJ7_copyOfRange_39247 17 = .ok (.aload_n 0, 1) := by decide +kernel
theorem dJ7_copyOfRange_39247_18 : decode cJ7_copyOfRange_39247 18 = .ok (.invokevirtual 310, 3) := by decide +kernel
theorem dJ7_copyOfRange_39247_21 : decode cJ7_copyOfRange_39247 21 = .ok (.checkcast 311, 3) := by decide +kernel
theorem dJ7_copyOfRange_39247_24 : decode cJ7_copyOfRange_39247 24 = .ok (.areturn, 1) := by decide +kernel
theorem dJ7_copyOfRangeByte_39247_0 : decode cJ7_copyOfRangeByte_39247 0 = .ok (.iload_n 1, 1) := by decide +kernel
theorem dJ7_copyOfRangeByte_39247_1 : decode cJ7_copyOfRangeByte_39247 1 = .ok (.iload_n 2, 1) := by decide +kernel
theorem dJ7_copyOfRangeByte_39247_2 : decode cJ7_copyOfRangeByte_39247 2 = .ok (.invokestatic 343, 3) := by decide +kernel
theorem dJ7_copyOfRangeByte_39247_5 : decode cJ7_copyOfRangeByte_39247 5 = .ok (.iload_n 2, 1) := by decide +kernel
theorem dJ7_copyOfRangeByte_39247_6 : decode cJ7_copyOfRangeByte_39247 6 = .ok (.iload_n 1, 1) := by decide +kernel
theorem dJ7_copyOfRangeByte_39247_7 : decode cJ7_copyOfRangeByte_39247 7 = .ok (.isub, 1) := by decide +kernel
theorem dJ7_copyOfRangeByte_39247_8 : decode cJ7_copyOfRangeByte_39247 8 = .ok (.istore_n 3, 1) := by decide +kernel
theorem dJ7_copyOfRangeByte_39247_9 : decode cJ7_copyOfRangeByte_39247 9 = .ok (.iload_n 3, 1) := by decide +kernel
theorem dJ7_copyOfRangeByte_39247_10 : decode cJ7_copyOfRangeByte_39247 10 = .ok (.newarray .byte, 2) := by decide +kernel
theorem dJ7_copyOfRangeByte_39247_12 : decode cJ7_copyOfRangeByte_39247 12 = .ok (.astore 4, 2) := by decide +kernel
theorem dJ7_copyOfRangeByte_39247_14 : decode cJ7_copyOfRangeByte_39247 14 = .ok (.aload_n 0, 1) := by decide +kernel
theorem dJ7_copyOfRangeByte_39247_15 : decode cJ7_copyOfRangeByte_39247 15 = .ok (.iload_n 1, 1) := by decide +kernel
theorem dJ7_copyOfRangeByte_39247_16 : decode cJ7_copyOfRangeByte_39247 16 = .ok (.aload 4, 2) := by decide +kernel
theorem dJ7_copyOfRangeByte_39247_18 : decode cJ7_copyOfRangeByte_39247 18 = .ok (.iconst 0, 1) := by decide +kernel
theorem dJ7_copyOfRangeByte_39247_19 : decode cJ7_copyOfRangeByte_39247 19 = .ok (.aload_n 0, 1) := by decide +kernel
theorem dJ7_copyOfRangeByte_39247_20 : decode cJ7_copyOfRangeByte_39247 20 = .ok (.arraylength, 1) := by decide +kernel
theorem dJ7_copyOfRangeByte_39247_21 : decode cJ7_copyOfRangeByte_39247 21 = .ok (.iload_n 1, 1) := by decide +kernel
theorem dJ7_copyOfRangeByte_39247_22 : decode cJ7_copyOfRangeByte_39247 22 = .ok (.isub, 1) := by decide +kernel
theorem dJ7_copyOfRangeByte_39247_23 : decode cJ7_copyOfRangeByte_39247 23 = .ok (.iload_n 3, 1) := by decide +kernel
theorem dJ7_copyOfRangeByte_39247_24 : decode cJ7_copyOfRangeByte_39247 24 = .ok (.invokestatic 304, 3) := by decide +kernel
theorem dJ7_copyOfRangeByte_39247_27 : decode cJ7_copyOfRangeByte_39247 27 = .ok (.invokestatic 150, 3) := by decide +kernel
theorem dJ7_copyOfRangeByte_39247_30 : decode cJ7_copyOfRangeByte_39247 30 = .ok (.aload 4, 2) := by decide +kernel
theorem dJ7_copyOfRangeByte_39247_32 : decode cJ7_copyOfRangeByte_39247 32 = .ok (.areturn, 1) := by decide +kernel
theorem dJ8_newLength_cabcc_0 : decode cJ8_newLength_cabcc 0 = .ok (.iload_n 0, 1) := by decide +kernel
theorem dJ8_newLength_cabcc_1 : decode cJ8_newLength_cabcc 1 = .ok (.iload_n 1, 1) := by decide +kernel
theorem dJ8_newLength_cabcc_2 : decode cJ8_newLength_cabcc 2 = .ok (.iload_n 2, 1) := by decide +kernel
theorem dJ8_newLength_cabcc_3 : decode cJ8_newLength_cabcc 3 = .ok (.invokestatic 194, 3) := by decide +kernel
theorem dJ8_newLength_cabcc_6 : decode cJ8_newLength_cabcc 6 = .ok (.iadd, 1) := by decide +kernel
theorem dJ8_newLength_cabcc_7 : decode cJ8_newLength_cabcc 7 = .ok (.istore_n 3, 1) := by decide +kernel
theorem dJ8_newLength_cabcc_8 : decode cJ8_newLength_cabcc 8 = .ok (.iconst 0, 1) := by decide +kernel
theorem dJ8_newLength_cabcc_9 : decode cJ8_newLength_cabcc 9 = .ok (.iload_n 3, 1) := by decide +kernel
theorem dJ8_newLength_cabcc_10 : decode cJ8_newLength_cabcc 10 = .ok (.if_icmp .ge 11, 3) := by decide +kernel
theorem dJ8_newLength_cabcc_13 : decode cJ8_newLength_cabcc 13 = .ok (.iload_n 3, 1) := by decide +kernel
theorem dJ8_newLength_cabcc_14 : decode cJ8_newLength_cabcc 14 = .ok (.ldc 200, 2) := by decide +kernel
theorem dJ8_newLength_cabcc_16 : decode cJ8_newLength_cabcc 16 = .ok (.if_icmp .gt 5, 3) := by decide +kernel
theorem dJ8_newLength_cabcc_19 : decode cJ8_newLength_cabcc 19 = .ok (.iload_n 3, 1) := by decide +kernel
theorem dJ8_newLength_cabcc_20 : decode cJ8_newLength_cabcc 20 = .ok (.ireturn, 1) := by decide +kernel
theorem dJ8_newLength_cabcc_21 : decode cJ8_newLength_cabcc 21 = .ok (.iload_n 0, 1) := by decide +kernel
theorem dJ8_newLength_cabcc_22 : decode cJ8_newLength_cabcc 22 = .ok (.iload_n 1, 1) := by decide +kernel
theorem dJ8_newLength_cabcc_23 : decode cJ8_newLength_cabcc 23 = .ok (.invokestatic 201, 3) := by decide +kernel
theorem dJ8_newLength_cabcc_26 : decode cJ8_newLength_cabcc 26 = .ok (.ireturn, 1) := by decide +kernel
theorem dJ8_hugeLength_7cf53_0 : decode cJ8_hugeLength_7cf53 0 = .ok (.iload_n 0, 1) := by decide +kernel
theorem dJ8_hugeLength_7cf53_1 : decode cJ8_hugeLength_7cf53 1 = .ok (.iload_n 1, 1) := by decide +kernel
theorem dJ8_hugeLength_7cf53_2 : decode cJ8_hugeLength_7cf53 2 = .ok (.iadd, 1) := by decide +kernel
theorem dJ8_hugeLength_7cf53_3 : decode cJ8_hugeLength_7cf53 3 = .ok (.istore_n 2, 1) := by decide +kernel
theorem dJ8_hugeLength_7cf53_4 : decode cJ8_hugeLength_7cf53 4 = .ok (.iload_n 2, 1) := by decide +kernel
theorem dJ8_hugeLength_7cf53_5 : decode cJ8_hugeLength_7cf53 5 = .ok (.ifCond .ge 44, 3) := by decide +kernel
theorem dJ8_hugeLength_7cf53_8 : decode cJ8_hugeLength_7cf53 8 = .ok (.new 204, 3) := by decide +kernel
theorem dJ8_hugeLength_7cf53_11 : decode cJ8_hugeLength_7cf53 11 = .ok (.dup, 1) := by decide +kernel
theorem dJ8_hugeLength_7cf53_12 : decode cJ8_hugeLength_7cf53 12 = .ok (.new 89, 3) := by decide +kernel
theorem dJ8_hugeLength_7cf53_15 : decode cJ8_hugeLength_7cf53 15 = .ok (.dup, 1) := by decide +kernel
theorem dJ8_hugeLength_7cf53_16 : decode cJ8_hugeLength_7cf53 16 = .ok (.invokespecial 91, 3) := by decide +kernel
theorem dJ8_hugeLength_7cf53_19 : decode cJ8_hugeLength_7cf53 19 = .ok (.ldc 206, 2) := by decide +kernel
theorem dJ8_hugeLength_7cf53_21 : decode cJ8_hugeLength_7cf53 21 = .ok (.invokevirtual 94, 3) := by decide +kernel
theorem dJ8_hugeLength_7cf53_24 : decode cJ8_hugeLength_7cf53 24 = .ok (.iload_n 0, 1) := by decide +kernel
theorem dJ8_hugeLength_7cf53_25 : decode cJ8_hugeLength_7cf53 25 = .ok (.invokevirtual 98, 3) := by decide +kernel
theorem dJ8_hugeLength_7cf53_28 : decode cJ8_hugeLength_7cf53 28 = .ok (.ldc 208, 2) := by decide +kernel
theorem dJ8_hugeLength_7cf53_30 : decode cJ8_hugeLength_7cf53 30 = .ok (.invokevirtual 94, 3) := by decide +kernel
theorem dJ8_hugeLength_7cf53_33 : decode cJ8_hugeLength_7cf53 33 = .ok (.iload_n 1, 1) := by decide +kernel
theorem dJ8_hugeLength_7cf53_34 : decode cJ8_hugeLength_7cf53 34 = .ok (.invokevirtual 98, 3) := by decide +kernel
theorem dJ8_hugeLength_7cf53_37 : decode cJ8_hugeLength_7cf53 37 = .ok (.ldc 210, 2) := by decide +kernel
theorem dJ8_hugeLength_7cf53_39 : decode cJ8_hugeLength_7cf53 39 = .ok (.invokevirtual 94, 3) := by decide +kernel
theorem dJ8_hugeLength_7cf53_42 : decode cJ8_hugeLength_7cf53 42 = .ok (.invokevirtual 101, 3) := by decide +kernel
theorem dJ8_hugeLength_7cf53_45 : decode cJ8_hugeLength_7cf53 45 = .ok (.invokespecial 212, 3) := by decide +kernel
theorem dJ8_hugeLength_7cf53_48 : decode cJ8_hugeLength_7cf53 48 = .ok (.athrow, 1) := by decide +kernel
theorem dJ8_hugeLength_7cf53_49 : decode cJ8_hugeLength_7cf53 49 = .ok (.iload_n 2, 1) := by decide +kernel
theorem dJ8_hugeLength_7cf53_50 : decode cJ8_hugeLength_7cf53 50 = .ok (.ldc 200, 2) := by decide +kernel
theorem dJ8_hugeLength_7cf53_52 : decode cJ8_hugeLength_7cf53 52 = .ok (.if_icmp .gt 6, 3) := by decide +kernel
theorem dJ8_hugeLength_7cf53_55 : decode cJ8_hugeLength_7cf53 55 = .ok (.ldc 200, 2) := by decide +kernel
theorem dJ8_hugeLength_7cf53_57 : decode cJ8_hugeLength_7cf53 57 = .ok (.ireturn, 1) := by decide +kernel
theorem dJ8_hugeLength_7cf53_58 : decode cJ8_hugeLength_7cf53 58 = .ok (.iload_n 2, 1) := by decide +kernel
theorem dJ8_hugeLength_7cf53_59 : decode cJ8_hugeLength_7cf53 59 = .ok (.ireturn, 1) := by decide +kernel
theorem dJ3_checkIndex_8e157_0 : decode cJ3_checkIndex_8e157 0 = .ok (.iload_n 0, 1) := by decide +kernel
theorem dJ3_checkIndex_8e157_1 : decode cJ3_checkIndex_8e157 1 = .ok (.ifCond .lt 8, 3) := by decide +kernel
theorem dJ3_checkIndex_8e157_4 : decode cJ3_checkIndex_8e157 4 = .ok (.iload_n 0, 1) := by decide +kernel
theorem dJ3_checkIndex_8e157_5 : decode cJ3_checkIndex_8e157 5 = .ok (.iload_n 1, 1) := by decide +kernel
theorem dJ3_checkIndex_8e157_6 : decode cJ3_checkIndex_8e157 6 = .ok (.if_icmp .lt 10, 3) := by decide +kernel
theorem dJ3_checkIndex_8e157_9 : decode cJ3_checkIndex_8e157 9 = .ok (.aload_n 2, 1) := by decide +kernel
theorem dJ3_checkIndex_8e157_10 : decode cJ3_checkIndex_8e157 10 = .ok (.iload_n 0, 1) := by decide +kernel
theorem dJ3_checkIndex_8e157_11 : decode cJ3_checkIndex_8e157 11 = .ok (.iload_n 1, 1) := by decide +kernel
theorem dJ3_checkIndex_8e157_12 : decode cJ3_checkIndex_8e157 12 = .ok (.invokestatic 95, 3) := by decide +kernel
theorem dJ3_checkIndex_8e157_15 : decode cJ3_checkIndex_8e157 15 = .ok (.athrow, 1) := by decide +kernel
theorem dJ3_checkIndex_8e157_16 : decode cJ3_checkIndex_8e157 16 = .ok (.iload_n 0, 1) := by decide +kernel
theorem dJ3_checkIndex_8e157_17 : decode cJ3_checkIndex_8e157 17 = .ok (.ireturn, 1) := by decide +kernel
theorem dJ3_checkFromToIndex_8c36e_0 : decode cJ3_checkFromToIndex_8c36e 0 = .ok (.iload_n 0, 1) := by decide +kernel
theorem dJ3_checkFromToIndex_8c36e_1 : decode cJ3_checkFromToIndex_8c36e 1 = .ok (.ifCond .lt 13, 3) := by decide +kernel
theorem dJ3_checkFromToIndex_8c36e_4 : decode cJ3_checkFromToIndex_8c36e 4 = .ok (.iload_n 0, 1) := by decide +kernel
theorem dJ3_checkFromToIndex_8c36e_5 : decode cJ3_checkFromToIndex_8c36e 5 = .ok (.iload_n 1, 1) := by decide +kernel
theorem dJ3_checkFromToIndex_8c36e_6 : decode cJ3_checkFromToIndex_8c36e 6 = .ok (.if_icmp .gt 8, 3) := by decide +kernel
theorem dJ3_checkFromToIndex_8c36e_9 : decode cJ3_checkFromToIndex_8c36e 9 = .ok (.iload_n 1, 1) := by decide +kernel
theorem dJ3_checkFromToIndex_8c36e_10 : decode cJ3_checkFromToIndex_8c36e 10 = .ok (.iload_n 2, 1) := by decide +kernel
theorem dJ3_checkFromToIndex_8c36e_11 : decode cJ3_checkFromToIndex_8c36e 11 = .ok (.if_icmp .le 11, 3) := by decide +kernel
theorem dJ3_checkFromToIndex_8c36e_14 : decode cJ3_checkFromToIndex_8c36e 14 = .ok (.aload_n 3, 1) := by decide +kernel
theorem dJ3_checkFromToIndex_8c36e_15 : decode cJ3_checkFromToIndex_8c36e 15 = .ok (.iload_n 0, 1) := by decide +kernel
theorem dJ3_checkFromToIndex_8c36e_16 : decode cJ3_checkFromToIndex_8c36e 16 = .ok (.iload_n 1, 1) := by decide +kernel
theorem dJ3_checkFromToIndex_8c36e_17 : decode cJ3_checkFromToIndex_8c36e 17 = .ok (.iload_n 2, 1) := by decide +kernel
theorem dJ3_checkFromToIndex_8c36e_18 : decode cJ3_checkFromToIndex_8c36e 18 = .ok (.invokestatic 99, 3) := by decide +kernel
theorem dJ3_checkFromToIndex_8c36e_21 : decode cJ3_checkFromToIndex_8c36e 21 = .ok (.athrow, 1) := by decide +kernel
theorem dJ3_checkFromToIndex_8c36e_22 : decode cJ3_checkFromToIndex_8c36e 22 = .ok (.iload_n 0, 1) := by decide +kernel
theorem dJ3_checkFromToIndex_8c36e_23 : decode cJ3_checkFromToIndex_8c36e 23 = .ok (.ireturn, 1) := by decide +kernel
theorem dJ3_checkFromIndexSize_8c36e_0 : decode cJ3_checkFromIndexSize_8c36e 0 = .ok (.iload_n 2, 1) := by decide +kernel
theorem dJ3_checkFromIndexSize_8c36e_1 : decode cJ3_checkFromIndexSize_8c36e 1 = .ok (.iload_n 0, 1) := by decide +kernel
theorem dJ3_checkFromIndexSize_8c36e_2 : decode cJ3_checkFromIndexSize_8c36e 2 = .ok (.ior, 1) := by decide +kernel
theorem dJ3_checkFromIndexSize_8c36e_3 : decode cJ3_checkFromIndexSize_8c36e 3 = .ok (.iload_n 1, 1) := by decide +kernel
theorem dJ3_checkFromIndexSize_8c36e_4 : decode cJ3_checkFromIndexSize_8c36e 4 = .ok (.ior, 1) := by decide +kernel
theorem dJ3_checkFromIndexSize_8c36e_5 : decode cJ3_checkFromIndexSize_8c36e 5 = .ok (.ifCond .lt 10, 3) := by decide +kernel
theorem dJ3_checkFromIndexSize_8c36e_8 : decode cJ3_checkFromIndexSize_8c36e 8 = .ok (.iload_n 1, 1) := by decide +kernel
theorem dJ3_checkFromIndexSize_8c36e_9 : decode cJ3_checkFromIndexSize_8c36e 9 = .ok (.iload_n 2, 1) := by decide +kernel
theorem dJ3_checkFromIndexSize_8c36e_10 : decode cJ3_checkFromIndexSize_8c36e 10 = .ok (.iload_n 0, 1) := by decide +kernel
theorem dJ3_checkFromIndexSize_8c36e_11 : decode cJ3_checkFromIndexSize_8c36e 11 = .ok (.isub, 1) := by decide +kernel
theorem dJ3_checkFromIndexSize_8c36e_12 : decode cJ3_checkFromIndexSize_8c36e 12 = .ok (.if_icmp .le 11, 3) := by decide +kernel
theorem dJ3_checkFromIndexSize_8c36e_15 : decode cJ3_checkFromIndexSize_8c36e 15 = .ok (.aload_n 3, 1) := by decide +kernel
theorem dJ3_checkFromIndexSize_8c36e_16 : decode cJ3_checkFromIndexSize_8c36e 16 = .ok (.iload_n 0, 1) := by decide +kernel
theorem dJ3_checkFromIndexSize_8c36e_17 : decode cJ3_checkFromIndexSize_8c36e 17 = .ok (.iload_n 1, 1) := by decide +kernel
theorem dJ3_checkFromIndexSize_8c36e_18 : decode cJ3_checkFromIndexSize_8c36e 18 = .ok (.iload_n 2, 1) := by decide +kernel
theorem dJ3_checkFromIndexSize_8c36e_19 : decode cJ3_checkFromIndexSize_8c36e 19 = .ok (.invokestatic 103, 3) := by decide +kernel
theorem dJ3_checkFromIndexSize_8c36e_22 : decode cJ3_checkFromIndexSize_8c36e 22 = .ok (.athrow, 1) := by decide +kernel
theorem dJ3_checkFromIndexSize_8c36e_23 : decode cJ3_checkFromIndexSize_8c36e 23 = .ok (.iload_n 0, 1) := by decide +kernel
theorem dJ3_checkFromIndexSize_8c36e_24 : decode cJ3_checkFromIndexSize_8c36e 24 = .ok (.ireturn, 1) := by decide +kernel
theorem dL_at_0 : decode cL_at 0 = .ok (.iload_n 1, 1) := by decide +kernel
theorem dL_at_1 : decode cL_at 1 = .ok (.aload_n 0, 1) := by decide +kernel
theorem dL_at_2 : decode cL_at 2 = .ok (.arraylength, 1) := by decide +kernel
theorem dL_at_3 : decode cL_at 3 = .ok (.if_icmp .ge 9, 3) := by decide +kernel
theorem dL_at_6 : decode cL_at 6 = .ok (.aload_n 0, 1) := by decide +kernel
theorem dL_at_7 : decode cL_at 7 = .ok (.iload_n 1, 1) := by decide +kernel
theorem dL_at_8 : decode cL_at 8 = .ok (.iaload, 1) := by decide +kernel
theorem dL_at_9 : decode cL_at 9 = .ok (.goto 4, 3) := by decide +kernel
theorem dL_at_12 : decode cL_at 12 = .ok (.iconst 0, 1) := by decide +kernel
theorem dL_at_13 : decode cL_at 13 = .ok (.ireturn, 1) := by decide +kernel
theorem dL_some_0 : decode cL_some 0 = .ok (.iload_n 0, 1) := by decide +kernel
theorem dL_some_1 : decode cL_some 1 = .ok (.iload_n 1, 1) := by decide +kernel
theorem dL_some_2 : decode cL_some 2 = .ok (.irem, 1) := by decide +kernel
theorem dL_some_3 : decode cL_some 3 = .ok (.istore_n 2, 1) := by decide +kernel
theorem dL_some_4 : decode cL_some 4 = .ok (.iload_n 2, 1) := by decide +kernel
theorem dL_some_5 : decode cL_some 5 = .ok (.ifCond .ge 9, 3) := by decide +kernel
theorem dL_some_8 : decode cL_some 8 = .ok (.iload_n 2, 1) := by decide +kernel
theorem dL_some_9 : decode cL_some 9 = .ok (.iload_n 1, 1) := by decide +kernel
theorem dL_some_10 : decode cL_some 10 = .ok (.iadd, 1) := by decide +kernel
theorem dL_some_11 : decode cL_some 11 = .ok (.goto 4, 3) := by decide +kernel
theorem dL_some_14 : decode cL_some 14 = .ok (.iload_n 2, 1) := by decide +kernel
theorem dL_some_15 : decode cL_some 15 = .ok (.ireturn, 1) := by decide +kernel
theorem dL_addBag_0 : decode cL_addBag 0 = .ok (.aload_n 0, 1) := by decide +kernel
theorem dL_addBag_1 : decode cL_addBag 1 = .ok (.iload_n 1, 1) := by decide +kernel
theorem dL_addBag_2 : decode cL_addBag 2 = .ok (.invokevirtual 7, 3) := by decide +kernel
theorem dL_addBag_5 : decode cL_addBag 5 = .ok (.ireturn, 1) := by decide +kernel
theorem dL_addBag_6 : decode cL_addBag 6 = .ok (.astore_n 2, 1) := by decide +kernel
theorem dL_addBag_7 : decode cL_addBag 7 = .ok (.sipush (-1001), 3) := by decide +kernel
theorem dL_addBag_10 : decode cL_addBag 10 = .ok (.ireturn, 1) := by decide +kernel
theorem dL_addBag_11 : decode cL_addBag 11 = .ok (.astore_n 2, 1) := by decide +kernel
theorem dL_addBag_12 : decode cL_addBag 12 = .ok (.sipush (-1002), 3) := by decide +kernel
theorem dL_addBag_15 : decode cL_addBag 15 = .ok (.ireturn, 1) := by decide +kernel
theorem dL_addItem_0 : decode cL_addItem 0 = .ok (.aload_n 0, 1) := by decide +kernel
theorem dL_addItem_1 : decode cL_addItem 1 = .ok (.iload_n 1, 1) := by decide +kernel
theorem dL_addItem_2 : decode cL_addItem 2 = .ok (.iload_n 2, 1) := by decide +kernel
theorem dL_addItem_3 : decode cL_addItem 3 = .ok (.iload_n 3, 1) := by decide +kernel
theorem dL_addItem_4 : decode cL_addItem 4 = .ok (.iload 4, 2) := by decide +kernel
theorem dL_addItem_6 : decode cL_addItem 6 = .ok (.invokevirtual 17, 3) := by decide +kernel
theorem dL_addItem_9 : decode cL_addItem 9 = .ok (.ireturn, 1) := by decide +kernel
theorem dL_addItem_10 : decode cL_addItem 10 = .ok (.astore 5, 2) := by decide +kernel
theorem dL_addItem_12 : decode cL_addItem 12 = .ok (.sipush (-1001), 3) := by decide +kernel
theorem dL_addItem_15 : decode cL_addItem 15 = .ok (.ireturn, 1) := by decide +kernel
theorem dL_addItem_16 : decode cL_addItem 16 = .ok (.astore 5, 2) := by decide +kernel
theorem dL_addItem_18 : decode cL_addItem 18 = .ok (.sipush (-1002), 3) := by decide +kernel
theorem dL_addItem_21 : decode cL_addItem 21 = .ok (.ireturn, 1) := by decide +kernel
theorem dL_removeItem_0 : decode cL_removeItem 0 = .ok (.aload_n 0, 1) := by decide +kernel
theorem dL_removeItem_1 : decode cL_removeItem 1 = .ok (.iload_n 1, 1) := by decide +kernel
theorem dL_removeItem_2 : decode cL_removeItem 2 = .ok (.invokevirtual 21, 3) := by decide +kernel
theorem dL_removeItem_5 : decode cL_removeItem 5 = .ok (.ireturn, 1) := by decide +kernel
theorem dL_removeItem_6 : decode cL_removeItem 6 = .ok (.astore_n 2, 1) := by decide +kernel
theorem dL_removeItem_7 : decode cL_removeItem 7 = .ok (.sipush (-1001), 3) := by decide +kernel
theorem dL_removeItem_10 : decode cL_removeItem 10 = .ok (.ireturn, 1) := by decide +kernel
theorem dL_removeItem_11 : decode cL_removeItem 11 = .ok (.astore_n 2, 1) := by decide +kernel
theorem dL_removeItem_12 : decode cL_removeItem 12 = .ok (.sipush (-1002), 3) := by decide +kernel
theorem dL_removeItem_15 : decode cL_removeItem 15 = .ok (.ireturn, 1) := by decide +kernel
theorem dL_pack_0 : decode cL_pack 0 = .ok (.aload_n 0, 1) := by decide +kernel
theorem dL_pack_1 : decode cL_pack 1 = .ok (.iload_n 1, 1) := by decide +kernel
theorem dL_pack_2 : decode cL_pack 2 = .ok (.iload_n 2, 1) := by decide +kernel
theorem dL_pack_3 : decode cL_pack 3 = .ok (.invokevirtual 26, 3) := by decide +kernel
theorem dL_pack_6 : decode cL_pack 6 = .ok (.ireturn, 1) := by decide +kernel
theorem dL_pack_7 : decode cL_pack 7 = .ok (.astore_n 3, 1) := by decide +kernel
theorem dL_pack_8 : decode cL_pack 8 = .ok (.sipush (-1001), 3) := by decide +kernel
theorem dL_pack_11 : decode cL_pack 11 = .ok (.ireturn, 1) := by decide +kernel
theorem dL_pack_12 : decode cL_pack 12 = .ok (.astore_n 3, 1) := by decide +kernel
theorem dL_pack_13 : decode cL_pack 13 = .ok (.sipush (-1002), 3) := by decide +kernel
theorem dL_pack_16 : decode cL_pack 16 = .ok (.ireturn, 1) := by decide +kernel
theorem dL_pack_17 : decode cL_pack 17 = .ok (.astore_n 3, 1) := by decide +kernel
theorem dL_pack_18 : decode cL_pack 18 = .ok (.sipush (-1003), 3) := by decide +kernel
theorem dL_pack_21 : decode cL_pack 21 = .ok (.ireturn, 1) := by decide +kernel
theorem dL_pack_22 : decode cL_pack 22 = .ok (.astore_n 3, 1) := by decide +kernel
theorem dL_pack_23 : decode cL_pack 23 = .ok (.sipush (-1004), 3) := by decide +kernel
theorem dL_pack_26 : decode cL_pack 26 = .ok (.ireturn, 1) := by decide +kernel
theorem dL_canPack_0 : decode cL_canPack 0 = .ok (.aload_n 0, 1) := by decide +kernel
theorem dL_canPack_1 : decode cL_canPack 1 = .ok (.iload_n 1, 1) := by decide +kernel
theorem dL_canPack_2 : decode cL_canPack 2 = .ok (.iload_n 2, 1) := by decide +kernel
theorem dL_canPack_3 : decode cL_canPack 3 = .ok (.invokevirtual 34, 3) := by decide +kernel
theorem dL_canPack_6 : decode cL_canPack 6 = .ok (.ifCond .eq 7, 3) := by decide +kernel
theorem dL_canPack_9 : decode cL_canPack 9 = .ok (.iconst 1, 1) := by decide +kernel
theorem dL_canPack_10 : decode cL_canPack 10 = .ok (.goto 4, 3) := by decide +kernel
theorem dL_canPack_13 : decode cL_canPack 13 = .ok (.iconst 0, 1) := by decide +kernel
theorem dL_canPack_14 : decode cL_canPack 14 = .ok (.ireturn, 1) := by decide +kernel
theorem dL_canPack_15 : decode cL_canPack 15 = .ok (.astore_n 3, 1) := by decide +kernel
theorem dL_canPack_16 : decode cL_canPack 16 = .ok (.sipush (-1001), 3) := by decide +kernel
theorem dL_canPack_19 : decode cL_canPack 19 = .ok (.ireturn, 1) := by decide +kernel
theorem dL_canPack_20 : decode cL_canPack 20 = .ok (.astore_n 3, 1) := by decide +kernel
theorem dL_canPack_21 : decode cL_canPack 21 = .ok (.sipush (-1002), 3) := by decide +kernel
theorem dL_canPack_24 : decode cL_canPack 24 = .ok (.ireturn, 1) := by decide +kernel
theorem dL_unpack_0 : decode cL_unpack 0 = .ok (.aload_n 0, 1) := by decide +kernel
theorem dL_unpack_1 : decode cL_unpack 1 = .ok (.iload_n 1, 1) := by decide +kernel
theorem dL_unpack_2 : decode cL_unpack 2 = .ok (.invokevirtual 38, 3) := by decide +kernel
theorem dL_unpack_5 : decode cL_unpack 5 = .ok (.ireturn, 1) := by decide +kernel
theorem dL_unpack_6 : decode cL_unpack 6 = .ok (.astore_n 2, 1) := by decide +kernel
theorem dL_unpack_7 : decode cL_unpack 7 = .ok (.sipush (-1001), 3) := by decide +kernel
theorem dL_unpack_10 : decode cL_unpack 10 = .ok (.ireturn, 1) := by decide +kernel
theorem dL_unpack_11 : decode cL_unpack 11 = .ok (.astore_n 2, 1) := by decide +kernel
theorem dL_unpack_12 : decode cL_unpack 12 = .ok (.sipush (-1002), 3) := by decide +kernel
theorem dL_unpack_15 : decode cL_unpack 15 = .ok (.ireturn, 1) := by decide +kernel
theorem dL_autoPack_0 : decode cL_autoPack 0 = .ok (.aload_n 0, 1) := by decide +kernel
theorem dL_autoPack_1 : decode cL_autoPack 1 = .ok (.iload_n 1, 1) := by decide +kernel
theorem dL_autoPack_2 : decode cL_autoPack 2 = .ok (.invokevirtual 41, 3) := by decide +kernel
theorem dL_autoPack_5 : decode cL_autoPack 5 = .ok (.ireturn, 1) := by decide +kernel
theorem dL_autoPack_6 : decode cL_autoPack 6 = .ok (.astore_n 2, 1) := by decide +kernel
theorem dL_autoPack_7 : decode cL_autoPack 7 = .ok (.sipush (-1001), 3) := by decide +kernel
theorem dL_autoPack_10 : decode cL_autoPack 10 = .ok (.ireturn, 1) := by decide +kernel
theorem dL_deliver_0 : decode cL_deliver 0 = .ok (.aload_n 0, 1) := by decide +kernel
theorem dL_deliver_1 : decode cL_deliver 1 = .ok (.invokevirtual 44, 3) := by decide +kernel
theorem dL_deliver_4 : decode cL_deliver 4 = .ok (.ireturn, 1) := by decide +kernel
theorem dL_deliver_5 : decode cL_deliver 5 = .ok (.astore_n 1, 1) := by decide +kernel
theorem dL_deliver_6 : decode cL_deliver 6 = .ok (.sipush (-1001), 3) := by decide +kernel
theorem dL_deliver_9 : decode cL_deliver 9 = .ok (.ireturn, 1) := by decide +kernel
theorem dL_nextStop_0 : decode cL_nextStop 0 = .ok (.aload_n 0, 1) := by decide +kernel
theorem dL_nextStop_1 : decode cL_nextStop 1 = .ok (.invokevirtual 48, 3) := by decide +kernel
theorem dL_nextStop_4 : decode cL_nextStop 4 = .ok (.ireturn, 1) := by decide +kernel
theorem dL_nextStop_5 : decode cL_nextStop 5 = .ok (.astore_n 1, 1) := by decide +kernel
theorem dL_nextStop_6 : decode cL_nextStop 6 = .ok (.sipush (-1001), 3) := by decide +kernel
theorem dL_nextStop_9 : decode cL_nextStop 9 = .ok (.ireturn, 1) := by decide +kernel
theorem dL_sizeOf_0 : decode cL_sizeOf 0 = .ok (.aload_n 0, 1) := by decide +kernel
theorem dL_sizeOf_1 : decode cL_sizeOf 1 = .ok (.iload_n 1, 1) := by decide +kernel
theorem dL_sizeOf_2 : decode cL_sizeOf 2 = .ok (.invokevirtual 51, 3) := by decide +kernel
theorem dL_sizeOf_5 : decode cL_sizeOf 5 = .ok (.ireturn, 1) := by decide +kernel
theorem dL_sizeOf_6 : decode cL_sizeOf 6 = .ok (.astore_n 2, 1) := by decide +kernel
theorem dL_sizeOf_7 : decode cL_sizeOf 7 = .ok (.sipush (-1001), 3) := by decide +kernel
theorem dL_sizeOf_10 : decode cL_sizeOf 10 = .ok (.ireturn, 1) := by decide +kernel
theorem dL_weightOf_0 : decode cL_weightOf 0 = .ok (.aload_n 0, 1) := by decide +kernel
theorem dL_weightOf_1 : decode cL_weightOf 1 = .ok (.iload_n 1, 1) := by decide +kernel
theorem dL_weightOf_2 : decode cL_weightOf 2 = .ok (.invokevirtual 54, 3) := by decide +kernel
theorem dL_weightOf_5 : decode cL_weightOf 5 = .ok (.ireturn, 1) := by decide +kernel
theorem dL_weightOf_6 : decode cL_weightOf 6 = .ok (.astore_n 2, 1) := by decide +kernel
theorem dL_weightOf_7 : decode cL_weightOf 7 = .ok (.sipush (-1001), 3) := by decide +kernel
theorem dL_weightOf_10 : decode cL_weightOf 10 = .ok (.ireturn, 1) := by decide +kernel
theorem dL_stopOf_0 : decode cL_stopOf 0 = .ok (.aload_n 0, 1) := by decide +kernel
theorem dL_stopOf_1 : decode cL_stopOf 1 = .ok (.iload_n 1, 1) := by decide +kernel
theorem dL_stopOf_2 : decode cL_stopOf 2 = .ok (.invokevirtual 57, 3) := by decide +kernel
theorem dL_stopOf_5 : decode cL_stopOf 5 = .ok (.ireturn, 1) := by decide +kernel
theorem dL_stopOf_6 : decode cL_stopOf 6 = .ok (.astore_n 2, 1) := by decide +kernel
theorem dL_stopOf_7 : decode cL_stopOf 7 = .ok (.sipush (-1001), 3) := by decide +kernel
theorem dL_stopOf_10 : decode cL_stopOf 10 = .ok (.ireturn, 1) := by decide +kernel
theorem dL_isFragile_0 : decode cL_isFragile 0 = .ok (.aload_n 0, 1) := by decide +kernel
theorem dL_isFragile_1 : decode cL_isFragile 1 = .ok (.iload_n 1, 1) := by decide +kernel
theorem dL_isFragile_2 : decode cL_isFragile 2 = .ok (.invokevirtual 60, 3) := by decide +kernel
theorem dL_isFragile_5 : decode cL_isFragile 5 = .ok (.ifCond .eq 7, 3) := by decide +kernel
theorem dL_isFragile_8 : decode cL_isFragile 8 = .ok (.iconst 1, 1) := by decide +kernel
theorem dL_isFragile_9 : decode cL_isFragile 9 = .ok (.goto 4, 3) := by decide +kernel
theorem dL_isFragile_12 : decode cL_isFragile 12 = .ok (.iconst 0, 1) := by decide +kernel
theorem dL_isFragile_13 : decode cL_isFragile 13 = .ok (.ireturn, 1) := by decide +kernel
theorem dL_isFragile_14 : decode cL_isFragile 14 = .ok (.astore_n 2, 1) := by decide +kernel
theorem dL_isFragile_15 : decode cL_isFragile 15 = .ok (.sipush (-1001), 3) := by decide +kernel
theorem dL_isFragile_18 : decode cL_isFragile 18 = .ok (.ireturn, 1) := by decide +kernel
theorem dL_isPacked_0 : decode cL_isPacked 0 = .ok (.aload_n 0, 1) := by decide +kernel
theorem dL_isPacked_1 : decode cL_isPacked 1 = .ok (.iload_n 1, 1) := by decide +kernel
theorem dL_isPacked_2 : decode cL_isPacked 2 = .ok (.invokevirtual 64, 3) := by decide +kernel
theorem dL_isPacked_5 : decode cL_isPacked 5 = .ok (.ifCond .eq 7, 3) := by decide +kernel
theorem dL_isPacked_8 : decode cL_isPacked 8 = .ok (.iconst 1, 1) := by decide +kernel
theorem dL_isPacked_9 : decode cL_isPacked 9 = .ok (.goto 4, 3) := by decide +kernel
theorem dL_isPacked_12 : decode cL_isPacked 12 = .ok (.iconst 0, 1) := by decide +kernel
theorem dL_isPacked_13 : decode cL_isPacked 13 = .ok (.ireturn, 1) := by decide +kernel
theorem dL_isPacked_14 : decode cL_isPacked 14 = .ok (.astore_n 2, 1) := by decide +kernel
theorem dL_isPacked_15 : decode cL_isPacked 15 = .ok (.sipush (-1001), 3) := by decide +kernel
theorem dL_isPacked_18 : decode cL_isPacked 18 = .ok (.ireturn, 1) := by decide +kernel
theorem dL_bagOf_0 : decode cL_bagOf 0 = .ok (.aload_n 0, 1) := by decide +kernel
theorem dL_bagOf_1 : decode cL_bagOf 1 = .ok (.iload_n 1, 1) := by decide +kernel
theorem dL_bagOf_2 : decode cL_bagOf 2 = .ok (.invokevirtual 67, 3) := by decide +kernel
theorem dL_bagOf_5 : decode cL_bagOf 5 = .ok (.ireturn, 1) := by decide +kernel
theorem dL_bagOf_6 : decode cL_bagOf 6 = .ok (.astore_n 2, 1) := by decide +kernel
theorem dL_bagOf_7 : decode cL_bagOf 7 = .ok (.sipush (-1001), 3) := by decide +kernel
theorem dL_bagOf_10 : decode cL_bagOf 10 = .ok (.ireturn, 1) := by decide +kernel
theorem dL_layerOf_0 : decode cL_layerOf 0 = .ok (.aload_n 0, 1) := by decide +kernel
theorem dL_layerOf_1 : decode cL_layerOf 1 = .ok (.iload_n 1, 1) := by decide +kernel
theorem dL_layerOf_2 : decode cL_layerOf 2 = .ok (.invokevirtual 70, 3) := by decide +kernel
theorem dL_layerOf_5 : decode cL_layerOf 5 = .ok (.ireturn, 1) := by decide +kernel
theorem dL_layerOf_6 : decode cL_layerOf 6 = .ok (.astore_n 2, 1) := by decide +kernel
theorem dL_layerOf_7 : decode cL_layerOf 7 = .ok (.sipush (-1001), 3) := by decide +kernel
theorem dL_layerOf_10 : decode cL_layerOf 10 = .ok (.ireturn, 1) := by decide +kernel
theorem dL_itemAtRank_0 : decode cL_itemAtRank 0 = .ok (.aload_n 0, 1) := by decide +kernel
theorem dL_itemAtRank_1 : decode cL_itemAtRank 1 = .ok (.iload_n 1, 1) := by decide +kernel
theorem dL_itemAtRank_2 : decode cL_itemAtRank 2 = .ok (.invokevirtual 73, 3) := by decide +kernel
theorem dL_itemAtRank_5 : decode cL_itemAtRank 5 = .ok (.ireturn, 1) := by decide +kernel
theorem dL_itemAtRank_6 : decode cL_itemAtRank 6 = .ok (.astore_n 2, 1) := by decide +kernel
theorem dL_itemAtRank_7 : decode cL_itemAtRank 7 = .ok (.sipush (-1001), 3) := by decide +kernel
theorem dL_itemAtRank_10 : decode cL_itemAtRank 10 = .ok (.ireturn, 1) := by decide +kernel
theorem dL_limitOf_0 : decode cL_limitOf 0 = .ok (.aload_n 0, 1) := by decide +kernel
theorem dL_limitOf_1 : decode cL_limitOf 1 = .ok (.iload_n 1, 1) := by decide +kernel
theorem dL_limitOf_2 : decode cL_limitOf 2 = .ok (.invokevirtual 76, 3) := by decide +kernel
theorem dL_limitOf_5 : decode cL_limitOf 5 = .ok (.ireturn, 1) := by decide +kernel
theorem dL_limitOf_6 : decode cL_limitOf 6 = .ok (.astore_n 2, 1) := by decide +kernel
theorem dL_limitOf_7 : decode cL_limitOf 7 = .ok (.sipush (-1001), 3) := by decide +kernel
theorem dL_limitOf_10 : decode cL_limitOf 10 = .ok (.ireturn, 1) := by decide +kernel
theorem dL_weightIn_0 : decode cL_weightIn 0 = .ok (.aload_n 0, 1) := by decide +kernel
theorem dL_weightIn_1 : decode cL_weightIn 1 = .ok (.iload_n 1, 1) := by decide +kernel
theorem dL_weightIn_2 : decode cL_weightIn 2 = .ok (.invokevirtual 79, 3) := by decide +kernel
theorem dL_weightIn_5 : decode cL_weightIn 5 = .ok (.ireturn, 1) := by decide +kernel
theorem dL_weightIn_6 : decode cL_weightIn 6 = .ok (.astore_n 2, 1) := by decide +kernel
theorem dL_weightIn_7 : decode cL_weightIn 7 = .ok (.sipush (-1001), 3) := by decide +kernel
theorem dL_weightIn_10 : decode cL_weightIn 10 = .ok (.ireturn, 1) := by decide +kernel
theorem dL_weightByLayers_0 : decode cL_weightByLayers 0 = .ok (.aload_n 0, 1) := by decide +kernel
theorem dL_weightByLayers_1 : decode cL_weightByLayers 1 = .ok (.iload_n 1, 1) := by decide +kernel
theorem dL_weightByLayers_2 : decode cL_weightByLayers 2 = .ok (.invokevirtual 82, 3) := by decide +kernel
theorem dL_weightByLayers_5 : decode cL_weightByLayers 5 = .ok (.ireturn, 1) := by decide +kernel
theorem dL_weightByLayers_6 : decode cL_weightByLayers 6 = .ok (.astore_n 2, 1) := by decide +kernel
theorem dL_weightByLayers_7 : decode cL_weightByLayers 7 = .ok (.sipush (-1001), 3) := by decide +kernel
theorem dL_weightByLayers_10 : decode cL_weightByLayers 10 = .ok (.ireturn, 1) := by decide +kernel
theorem dL_weightLeft_0 : decode cL_weightLeft 0 = .ok (.aload_n 0, 1) := by decide +kernel
theorem dL_weightLeft_1 : decode cL_weightLeft 1 = .ok (.iload_n 1, 1) := by decide +kernel
theorem dL_weightLeft_2 : decode cL_weightLeft 2 = .ok (.invokevirtual 85, 3) := by decide +kernel
theorem dL_weightLeft_5 : decode cL_weightLeft 5 = .ok (.ireturn, 1) := by decide +kernel
theorem dL_weightLeft_6 : decode cL_weightLeft 6 = .ok (.astore_n 2, 1) := by decide +kernel
theorem dL_weightLeft_7 : decode cL_weightLeft 7 = .ok (.sipush (-1001), 3) := by decide +kernel
theorem dL_weightLeft_10 : decode cL_weightLeft 10 = .ok (.ireturn, 1) := by decide +kernel
theorem dL_layerCount_0 : decode cL_layerCount 0 = .ok (.aload_n 0, 1) := by decide +kernel
theorem dL_layerCount_1 : decode cL_layerCount 1 = .ok (.iload_n 1, 1) := by decide +kernel
theorem dL_layerCount_2 : decode cL_layerCount 2 = .ok (.invokevirtual 88, 3) := by decide +kernel
theorem dL_layerCount_5 : decode cL_layerCount 5 = .ok (.ireturn, 1) := by decide +kernel
theorem dL_layerCount_6 : decode cL_layerCount 6 = .ok (.astore_n 2, 1) := by decide +kernel
theorem dL_layerCount_7 : decode cL_layerCount 7 = .ok (.sipush (-1001), 3) := by decide +kernel
theorem dL_layerCount_10 : decode cL_layerCount 10 = .ok (.ireturn, 1) := by decide +kernel
theorem dL_itemsInLayer_0 : decode cL_itemsInLayer 0 = .ok (.aload_n 0, 1) := by decide +kernel
theorem dL_itemsInLayer_1 : decode cL_itemsInLayer 1 = .ok (.iload_n 1, 1) := by decide +kernel
theorem dL_itemsInLayer_2 : decode cL_itemsInLayer 2 = .ok (.iload_n 2, 1) := by decide +kernel
theorem dL_itemsInLayer_3 : decode cL_itemsInLayer 3 = .ok (.invokevirtual 91, 3) := by decide +kernel
theorem dL_itemsInLayer_6 : decode cL_itemsInLayer 6 = .ok (.ireturn, 1) := by decide +kernel
theorem dL_itemsInLayer_7 : decode cL_itemsInLayer 7 = .ok (.astore_n 3, 1) := by decide +kernel
theorem dL_itemsInLayer_8 : decode cL_itemsInLayer 8 = .ok (.sipush (-1001), 3) := by decide +kernel
theorem dL_itemsInLayer_11 : decode cL_itemsInLayer 11 = .ok (.ireturn, 1) := by decide +kernel
theorem dL_itemAt_0 : decode cL_itemAt 0 = .ok (.aload_n 0, 1) := by decide +kernel
theorem dL_itemAt_1 : decode cL_itemAt 1 = .ok (.iload_n 1, 1) := by decide +kernel
theorem dL_itemAt_2 : decode cL_itemAt 2 = .ok (.iload_n 2, 1) := by decide +kernel
theorem dL_itemAt_3 : decode cL_itemAt 3 = .ok (.iload_n 3, 1) := by decide +kernel
theorem dL_itemAt_4 : decode cL_itemAt 4 = .ok (.invokevirtual 94, 3) := by decide +kernel
theorem dL_itemAt_7 : decode cL_itemAt 7 = .ok (.ireturn, 1) := by decide +kernel
theorem dL_itemAt_8 : decode cL_itemAt 8 = .ok (.astore 4, 2) := by decide +kernel
theorem dL_itemAt_10 : decode cL_itemAt 10 = .ok (.sipush (-1001), 3) := by decide +kernel
theorem dL_itemAt_13 : decode cL_itemAt 13 = .ok (.ireturn, 1) := by decide +kernel
theorem dL_itemAt_14 : decode cL_itemAt 14 = .ok (.astore 4, 2) := by decide +kernel
theorem dL_itemAt_16 : decode cL_itemAt 16 = .ok (.sipush (-1002), 3) := by decide +kernel
theorem dL_itemAt_19 : decode cL_itemAt 19 = .ok (.ireturn, 1) := by decide +kernel
theorem dL_sizeUsed_0 : decode cL_sizeUsed 0 = .ok (.aload_n 0, 1) := by decide +kernel
theorem dL_sizeUsed_1 : decode cL_sizeUsed 1 = .ok (.iload_n 1, 1) := by decide +kernel
theorem dL_sizeUsed_2 : decode cL_sizeUsed 2 = .ok (.iload_n 2, 1) := by decide +kernel
theorem dL_sizeUsed_3 : decode cL_sizeUsed 3 = .ok (.invokevirtual 98, 3) := by decide +kernel
theorem dL_sizeUsed_6 : decode cL_sizeUsed 6 = .ok (.ireturn, 1) := by decide +kernel
theorem dL_sizeUsed_7 : decode cL_sizeUsed 7 = .ok (.astore_n 3, 1) := by decide +kernel
theorem dL_sizeUsed_8 : decode cL_sizeUsed 8 = .ok (.sipush (-1001), 3) := by decide +kernel
theorem dL_sizeUsed_11 : decode cL_sizeUsed 11 = .ok (.ireturn, 1) := by decide +kernel
theorem dL_loadOf_0 : decode cL_loadOf 0 = .ok (.aload_n 0, 1) := by decide +kernel
theorem dL_loadOf_1 : decode cL_loadOf 1 = .ok (.iload_n 1, 1) := by decide +kernel
theorem dL_loadOf_2 : decode cL_loadOf 2 = .ok (.iload_n 2, 1) := by decide +kernel
theorem dL_loadOf_3 : decode cL_loadOf 3 = .ok (.invokevirtual 101, 3) := by decide +kernel
theorem dL_loadOf_6 : decode cL_loadOf 6 = .ok (.ireturn, 1) := by decide +kernel
theorem dL_loadOf_7 : decode cL_loadOf 7 = .ok (.astore_n 3, 1) := by decide +kernel
theorem dL_loadOf_8 : decode cL_loadOf 8 = .ok (.sipush (-1001), 3) := by decide +kernel
theorem dL_loadOf_11 : decode cL_loadOf 11 = .ok (.ireturn, 1) := by decide +kernel
theorem dL_bestLoad_0 : decode cL_bestLoad 0 = .ok (.aload_n 0, 1) := by decide +kernel
theorem dL_bestLoad_1 : decode cL_bestLoad 1 = .ok (.iload_n 1, 1) := by decide +kernel
theorem dL_bestLoad_2 : decode cL_bestLoad 2 = .ok (.invokevirtual 104, 3) := by decide +kernel
theorem dL_bestLoad_5 : decode cL_bestLoad 5 = .ok (.ireturn, 1) := by decide +kernel
theorem dL_bestLoad_6 : decode cL_bestLoad 6 = .ok (.astore_n 2, 1) := by decide +kernel
theorem dL_bestLoad_7 : decode cL_bestLoad 7 = .ok (.sipush (-1001), 3) := by decide +kernel
theorem dL_bestLoad_10 : decode cL_bestLoad 10 = .ok (.ireturn, 1) := by decide +kernel
theorem dL_bestByTable_0 : decode cL_bestByTable 0 = .ok (.aload_n 0, 1) := by decide +kernel
theorem dL_bestByTable_1 : decode cL_bestByTable 1 = .ok (.iload_n 1, 1) := by decide +kernel
theorem dL_bestByTable_2 : decode cL_bestByTable 2 = .ok (.invokevirtual 107, 3) := by decide +kernel
theorem dL_bestByTable_5 : decode cL_bestByTable 5 = .ok (.ireturn, 1) := by decide +kernel
theorem dL_bestByTable_6 : decode cL_bestByTable 6 = .ok (.astore_n 2, 1) := by decide +kernel
theorem dL_bestByTable_7 : decode cL_bestByTable 7 = .ok (.sipush (-1001), 3) := by decide +kernel
theorem dL_bestByTable_10 : decode cL_bestByTable 10 = .ok (.ireturn, 1) := by decide +kernel
theorem dL_emptiest_0 : decode cL_emptiest 0 = .ok (.aload_n 0, 1) := by decide +kernel
theorem dL_emptiest_1 : decode cL_emptiest 1 = .ok (.invokevirtual 110, 3) := by decide +kernel
theorem dL_emptiest_4 : decode cL_emptiest 4 = .ok (.ireturn, 1) := by decide +kernel
theorem dL_emptiest_5 : decode cL_emptiest 5 = .ok (.astore_n 1, 1) := by decide +kernel
theorem dL_emptiest_6 : decode cL_emptiest 6 = .ok (.sipush (-1001), 3) := by decide +kernel
theorem dL_emptiest_9 : decode cL_emptiest 9 = .ok (.ireturn, 1) := by decide +kernel
theorem dL_shareUsed_0 : decode cL_shareUsed 0 = .ok (.aload_n 0, 1) := by decide +kernel
theorem dL_shareUsed_1 : decode cL_shareUsed 1 = .ok (.invokevirtual 113, 3) := by decide +kernel
theorem dL_shareUsed_4 : decode cL_shareUsed 4 = .ok (.dreturn, 1) := by decide +kernel
theorem dL_shareUsed_5 : decode cL_shareUsed 5 = .ok (.astore_n 1, 1) := by decide +kernel
theorem dL_shareUsed_6 : decode cL_shareUsed 6 = .ok (.ldc2_w 119, 3) := by decide +kernel
theorem dL_shareUsed_9 : decode cL_shareUsed 9 = .ok (.dreturn, 1) := by decide +kernel
theorem dL_reason_0 : decode cL_reason 0 = .ok (.aload_n 0, 1) := by decide +kernel
theorem dL_reason_1 : decode cL_reason 1 = .ok (.invokevirtual 121, 3) := by decide +kernel
theorem dL_reason_4 : decode cL_reason 4 = .ok (.ireturn, 1) := by decide +kernel
theorem dL_reason_5 : decode cL_reason 5 = .ok (.astore_n 1, 1) := by decide +kernel
theorem dL_reason_6 : decode cL_reason 6 = .ok (.sipush (-1001), 3) := by decide +kernel
theorem dL_reason_9 : decode cL_reason 9 = .ok (.ireturn, 1) := by decide +kernel
theorem dL_refused_0 : decode cL_refused 0 = .ok (.aload_n 0, 1) := by decide +kernel
theorem dL_refused_1 : decode cL_refused 1 = .ok (.invokevirtual 124, 3) := by decide +kernel
theorem dL_refused_4 : decode cL_refused 4 = .ok (.ireturn, 1) := by decide +kernel
theorem dL_refused_5 : decode cL_refused 5 = .ok (.astore_n 1, 1) := by decide +kernel
theorem dL_refused_6 : decode cL_refused 6 = .ok (.sipush (-1001), 3) := by decide +kernel
theorem dL_refused_9 : decode cL_refused 9 = .ok (.ireturn, 1) := by decide +kernel
theorem dL_writeLabel_0 : decode cL_writeLabel 0 = .ok (.aload_n 0, 1) := by decide +kernel
theorem dL_writeLabel_1 : decode cL_writeLabel 1 = .ok (.iload_n 1, 1) := by decide +kernel
theorem dL_writeLabel_2 : decode cL_writeLabel 2 = .ok (.invokevirtual 127, 3) := by decide +kernel
theorem dL_writeLabel_5 : decode cL_writeLabel 5 = .ok (.ireturn, 1) := by decide +kernel
theorem dL_writeLabel_6 : decode cL_writeLabel 6 = .ok (.astore_n 2, 1) := by decide +kernel
theorem dL_writeLabel_7 : decode cL_writeLabel 7 = .ok (.sipush (-1001), 3) := by decide +kernel
theorem dL_writeLabel_10 : decode cL_writeLabel 10 = .ok (.ireturn, 1) := by decide +kernel
theorem dL_labelAt_0 : decode cL_labelAt 0 = .ok (.aload_n 0, 1) := by decide +kernel
theorem dL_labelAt_1 : decode cL_labelAt 1 = .ok (.iload_n 1, 1) := by decide +kernel
theorem dL_labelAt_2 : decode cL_labelAt 2 = .ok (.invokevirtual 130, 3) := by decide +kernel
theorem dL_labelAt_5 : decode cL_labelAt 5 = .ok (.ireturn, 1) := by decide +kernel
theorem dL_labelAt_6 : decode cL_labelAt 6 = .ok (.astore_n 2, 1) := by decide +kernel
theorem dL_labelAt_7 : decode cL_labelAt 7 = .ok (.sipush (-1001), 3) := by decide +kernel
theorem dL_labelAt_10 : decode cL_labelAt 10 = .ok (.ireturn, 1) := by decide +kernel
theorem dL_type_0 : decode cL_type 0 = .ok (.aload_n 0, 1) := by decide +kernel
theorem dL_type_1 : decode cL_type 1 = .ok (.iload_n 1, 1) := by decide +kernel
theorem dL_type_2 : decode cL_type 2 = .ok (.invokevirtual 134, 3) := by decide +kernel
theorem dL_type_5 : decode cL_type 5 = .ok (.ireturn, 1) := by decide +kernel
theorem dL_type_6 : decode cL_type 6 = .ok (.astore_n 2, 1) := by decide +kernel
theorem dL_type_7 : decode cL_type 7 = .ok (.sipush (-1001), 3) := by decide +kernel
theorem dL_type_10 : decode cL_type 10 = .ok (.ireturn, 1) := by decide +kernel
theorem dL_type_11 : decode cL_type 11 = .ok (.astore_n 2, 1) := by decide +kernel
theorem dL_type_12 : decode cL_type 12 = .ok (.sipush (-1002), 3) := by decide +kernel
theorem dL_type_15 : decode cL_type 15 = .ok (.ireturn, 1) := by decide +kernel
theorem dL_execute_0 : decode cL_execute 0 = .ok (.aload_n 0, 1) := by decide +kernel
theorem dL_execute_1 : decode cL_execute 1 = .ok (.invokevirtual 138, 3) := by decide +kernel
theorem dL_execute_4 : decode cL_execute 4 = .ok (.ireturn, 1) := by decide +kernel
theorem dL_execute_5 : decode cL_execute 5 = .ok (.astore_n 1, 1) := by decide +kernel
theorem dL_execute_6 : decode cL_execute 6 = .ok (.sipush (-1001), 3) := by decide +kernel
theorem dL_execute_9 : decode cL_execute 9 = .ok (.ireturn, 1) := by decide +kernel
theorem dL_execute_10 : decode cL_execute 10 = .ok (.astore_n 1, 1) := by decide +kernel
theorem dL_execute_11 : decode cL_execute 11 = .ok (.sipush (-1002), 3) := by decide +kernel
theorem dL_execute_14 : decode cL_execute 14 = .ok (.ireturn, 1) := by decide +kernel
theorem dL_errorPosition_0 : decode cL_errorPosition 0 = .ok (.aload_n 0, 1) := by decide +kernel
theorem dL_errorPosition_1 : decode cL_errorPosition 1 = .ok (.invokevirtual 141, 3) := by decide +kernel
theorem dL_errorPosition_4 : decode cL_errorPosition 4 = .ok (.ireturn, 1) := by decide +kernel
theorem dL_errorPosition_5 : decode cL_errorPosition 5 = .ok (.astore_n 1, 1) := by decide +kernel
theorem dL_errorPosition_6 : decode cL_errorPosition 6 = .ok (.sipush (-1001), 3) := by decide +kernel
theorem dL_errorPosition_9 : decode cL_errorPosition 9 = .ok (.ireturn, 1) := by decide +kernel
theorem dL_failedCommand_0 : decode cL_failedCommand 0 = .ok (.aload_n 0, 1) := by decide +kernel
theorem dL_failedCommand_1 : decode cL_failedCommand 1 = .ok (.invokevirtual 144, 3) := by decide +kernel
theorem dL_failedCommand_4 : decode cL_failedCommand 4 = .ok (.ireturn, 1) := by decide +kernel
theorem dL_failedCommand_5 : decode cL_failedCommand 5 = .ok (.astore_n 1, 1) := by decide +kernel
theorem dL_failedCommand_6 : decode cL_failedCommand 6 = .ok (.sipush (-1001), 3) := by decide +kernel
theorem dL_failedCommand_9 : decode cL_failedCommand 9 = .ok (.ireturn, 1) := by decide +kernel
theorem dL_undo_0 : decode cL_undo 0 = .ok (.aload_n 0, 1) := by decide +kernel
theorem dL_undo_1 : decode cL_undo 1 = .ok (.invokevirtual 147, 3) := by decide +kernel
theorem dL_undo_4 : decode cL_undo 4 = .ok (.ireturn, 1) := by decide +kernel
theorem dL_undo_5 : decode cL_undo 5 = .ok (.astore_n 1, 1) := by decide +kernel
theorem dL_undo_6 : decode cL_undo 6 = .ok (.sipush (-1001), 3) := by decide +kernel
theorem dL_undo_9 : decode cL_undo 9 = .ok (.ireturn, 1) := by decide +kernel
theorem dL_restore_0 : decode cL_restore 0 = .ok (.aload_n 0, 1) := by decide +kernel
theorem dL_restore_1 : decode cL_restore 1 = .ok (.invokevirtual 150, 3) := by decide +kernel
theorem dL_restore_4 : decode cL_restore 4 = .ok (.ireturn, 1) := by decide +kernel
theorem dL_restore_5 : decode cL_restore 5 = .ok (.astore_n 1, 1) := by decide +kernel
theorem dL_restore_6 : decode cL_restore 6 = .ok (.sipush (-1001), 3) := by decide +kernel
theorem dL_restore_9 : decode cL_restore 9 = .ok (.ireturn, 1) := by decide +kernel
theorem dL_runs_0 : decode cL_runs 0 = .ok (.iconst 0, 1) := by decide +kernel
theorem dL_runs_1 : decode cL_runs 1 = .ok (.istore_n 2, 1) := by decide +kernel
theorem dL_runs_2 : decode cL_runs 2 = .ok (.iload_n 2, 1) := by decide +kernel
theorem dL_runs_3 : decode cL_runs 3 = .ok (.aload_n 1, 1) := by decide +kernel
theorem dL_runs_4 : decode cL_runs 4 = .ok (.invokevirtual 153, 3) := by decide +kernel
theorem dL_runs_7 : decode cL_runs 7 = .ok (.if_icmp .ge 28, 3) := by decide +kernel
theorem dL_runs_10 : decode cL_runs 10 = .ok (.aload_n 0, 1) := by decide +kernel
theorem dL_runs_11 : decode cL_runs 11 = .ok (.aload_n 1, 1) := by decide +kernel
theorem dL_runs_12 : decode cL_runs 12 = .ok (.iload_n 2, 1) := by decide +kernel
theorem dL_runs_13 : decode cL_runs 13 = .ok (.invokevirtual 158, 3) := by decide +kernel
theorem dL_runs_16 : decode cL_runs 16 = .ok (.invokestatic 161, 3) := by decide +kernel
theorem dL_runs_19 : decode cL_runs 19 = .ok (.iload_n 2, 1) := by decide +kernel
theorem dL_runs_20 : decode cL_runs 20 = .ok (.iconst 1, 1) := by decide +kernel
theorem dL_runs_21 : decode cL_runs 21 = .ok (.iadd, 1) := by decide +kernel
theorem dL_runs_22 : decode cL_runs 22 = .ok (.if_icmp .eq 7, 3) := by decide +kernel
theorem dL_runs_25 : decode cL_runs 25 = .ok (.sipush (-9999), 3) := by decide +kernel
theorem dL_runs_28 : decode cL_runs 28 = .ok (.ireturn, 1) := by decide +kernel
theorem dL_runs_29 : decode cL_runs 29 = .ok (.iinc 2 1, 3) := by decide +kernel
theorem dL_runs_32 : decode cL_runs 32 = .ok (.goto (-30), 3) := by decide +kernel
theorem dL_runs_35 : decode cL_runs 35 = .ok (.aload_n 0, 1) := by decide +kernel
theorem dL_runs_36 : decode cL_runs 36 = .ok (.invokestatic 166, 3) := by decide +kernel
theorem dL_runs_39 : decode cL_runs 39 = .ok (.ireturn, 1) := by decide +kernel
theorem dL_makes_0 : decode cL_makes 0 = .ok (.iconst 1, 1) := by decide +kernel
theorem dL_makes_1 : decode cL_makes 1 = .ok (.aload_n 1, 1) := by decide +kernel
theorem dL_makes_2 : decode cL_makes 2 = .ok (.iconst 0, 1) := by decide +kernel
theorem dL_makes_3 : decode cL_makes 3 = .ok (.invokestatic 180, 3) := by decide +kernel
theorem dL_makes_6 : decode cL_makes 6 = .ok (.iconst 3, 1) := by decide +kernel
theorem dL_makes_7 : decode cL_makes 7 = .ok (.invokestatic 184, 3) := by decide +kernel
theorem dL_makes_10 : decode cL_makes 10 = .ok (.iadd, 1) := by decide +kernel
theorem dL_makes_11 : decode cL_makes 11 = .ok (.istore_n 2, 1) := by decide +kernel
theorem dL_makes_12 : decode cL_makes 12 = .ok (.iconst 0, 1) := by decide +kernel
theorem dL_makes_13 : decode cL_makes 13 = .ok (.istore_n 3, 1) := by decide +kernel
theorem dL_makes_14 : decode cL_makes 14 = .ok (.iload_n 3, 1) := by decide +kernel
theorem dL_makes_15 : decode cL_makes 15 = .ok (.iload_n 2, 1) := by decide +kernel
theorem dL_makes_16 : decode cL_makes 16 = .ok (.if_icmp .ge 34, 3) := by decide +kernel
theorem dL_makes_19 : decode cL_makes 19 = .ok (.aload_n 0, 1) := by decide +kernel
theorem dL_makes_20 : decode cL_makes 20 = .ok (.bipush 20, 2) := by decide +kernel
theorem dL_makes_22 : decode cL_makes 22 = .ok (.aload_n 1, 1) := by decide +kernel
theorem dL_makes_23 : decode cL_makes 23 = .ok (.iconst 1, 1) := by decide +kernel
theorem dL_makes_24 : decode cL_makes 24 = .ok (.iload_n 3, 1) := by decide +kernel
theorem dL_makes_25 : decode cL_makes 25 = .ok (.iadd, 1) := by decide +kernel
theorem dL_makes_26 : decode cL_makes 26 = .ok (.invokestatic 180, 3) := by decide +kernel
theorem dL_makes_29 : decode cL_makes 29 = .ok (.bipush 79, 2) := by decide +kernel
theorem dL_makes_31 : decode cL_makes 31 = .ok (.invokestatic 184, 3) := by decide +kernel
theorem dL_makes_34 : decode cL_makes 34 = .ok (.iadd, 1) := by decide +kernel
theorem dL_makes_35 : decode cL_makes 35 = .ok (.invokestatic 187, 3) := by decide +kernel
theorem dL_makes_38 : decode cL_makes 38 = .ok (.iload_n 3, 1) := by decide +kernel
theorem dL_makes_39 : decode cL_makes 39 = .ok (.if_icmp .eq 5, 3) := by decide +kernel
theorem dL_makes_42 : decode cL_makes 42 = .ok (.iconst 0, 1) := by decide +kernel
theorem dL_makes_43 : decode cL_makes 43 = .ok (.ireturn, 1) := by decide +kernel
theorem dL_makes_44 : decode cL_makes 44 = .ok (.iinc 3 1, 3) := by decide +kernel
theorem dL_makes_47 : decode cL_makes 47 = .ok (.goto (-33), 3) := by decide +kernel
theorem dL_makes_50 : decode cL_makes 50 = .ok (.iconst 0, 1) := by decide +kernel
theorem dL_makes_51 : decode cL_makes 51 = .ok (.istore_n 3, 1) := by decide +kernel
theorem dL_makes_52 : decode cL_makes 52 = .ok (.iload_n 3, 1) := by decide +kernel
theorem dL_makes_53 : decode cL_makes 53 = .ok (.bipush 11, 2) := by decide +kernel
theorem dL_makes_55 : decode cL_makes 55 = .ok (.if_icmp .ge 75, 3) := by decide +kernel
theorem dL_makes_58 : decode cL_makes 58 = .ok (.aload_n 1, 1) := by decide +kernel
theorem dL_makes_59 : decode cL_makes 59 = .ok (.iconst 4, 1) := by decide +kernel
theorem dL_makes_60 : decode cL_makes 60 = .ok (.iload_n 3, 1) := by decide +kernel
theorem dL_makes_61 : decode cL_makes 61 = .ok (.iadd, 1) := by decide +kernel
theorem dL_makes_62 : decode cL_makes 62 = .ok (.invokestatic 180, 3) := by decide +kernel
theorem dL_makes_65 : decode cL_makes 65 = .ok (.istore 4, 2) := by decide +kernel
theorem dL_makes_67 : decode cL_makes 67 = .ok (.aload_n 0, 1) := by decide +kernel
theorem dL_makes_68 : decode cL_makes 68 = .ok (.iconst 1, 1) := by decide +kernel
theorem dL_makes_69 : decode cL_makes 69 = .ok (.iload 4, 2) := by decide +kernel
theorem dL_makes_71 : decode cL_makes 71 = .ok (.bipush 10, 2) := by decide +kernel
theorem dL_makes_73 : decode cL_makes 73 = .ok (.invokestatic 184, 3) := by decide +kernel
theorem dL_makes_76 : decode cL_makes 76 = .ok (.iadd, 1) := by decide +kernel
theorem dL_makes_77 : decode cL_makes 77 = .ok (.iconst 1, 1) := by decide +kernel
theorem dL_makes_78 : decode cL_makes 78 = .ok (.iload 4, 2) := by decide +kernel
theorem dL_makes_80 : decode cL_makes 80 = .ok (.iconst 4, 1) := by decide +kernel
theorem dL_makes_81 : decode cL_makes 81 = .ok (.ishr, 1) := by decide +kernel
theorem dL_makes_82 : decode cL_makes 82 = .ok (.bipush 8, 2) := by decide +kernel
theorem dL_makes_84 : decode cL_makes 84 = .ok (.invokestatic 184, 3) := by decide +kernel
theorem dL_makes_87 : decode cL_makes 87 = .ok (.iadd, 1) := by decide +kernel
theorem dL_makes_88 : decode cL_makes 88 = .ok (.iconst 1, 1) := by decide +kernel
theorem dL_makes_89 : decode cL_makes 89 = .ok (.iload 4, 2) := by decide +kernel
theorem dL_makes_91 : decode cL_makes 91 = .ok (.bipush 8, 2) := by decide +kernel
theorem dL_makes_93 : decode cL_makes 93 = .ok (.ishr, 1) := by decide +kernel
theorem dL_makes_94 : decode cL_makes 94 = .ok (.bipush 6, 2) := by decide +kernel
theorem dL_makes_96 : decode cL_makes 96 = .ok (.invokestatic 184, 3) := by decide +kernel
theorem dL_makes_99 : decode cL_makes 99 = .ok (.iadd, 1) := by decide +kernel
theorem dL_makes_100 : decode cL_makes 100 = .ok (.iload 4, 2) := by decide +kernel
theorem dL_makes_102 : decode cL_makes 102 = .ok (.bipush 12, 2) := by decide +kernel
theorem dL_makes_104 : decode cL_makes 104 = .ok (.ishr, 1) := by decide +kernel
theorem dL_makes_105 : decode cL_makes 105 = .ok (.iconst 3, 1) := by decide +kernel
theorem dL_makes_106 : decode cL_makes 106 = .ok (.iand, 1) := by decide +kernel
theorem dL_makes_107 : decode cL_makes 107 = .ok (.ifCond .ne 7, 3) := by decide +kernel
theorem dL_makes_110 : decode cL_makes 110 = .ok (.iconst 1, 1) := by decide +kernel
theorem dL_makes_111 : decode cL_makes 111 = .ok (.goto 4, 3) := by decide +kernel
theorem dL_makes_114 : decode cL_makes 114 = .ok (.iconst 0, 1) := by decide +kernel
theorem dL_makes_115 : decode cL_makes 115 = .ok (.invokestatic 189, 3) := by decide +kernel
theorem dL_makes_118 : decode cL_makes 118 = .ok (.iload_n 3, 1) := by decide +kernel
theorem dL_makes_119 : decode cL_makes 119 = .ok (.if_icmp .eq 5, 3) := by decide +kernel
theorem dL_makes_122 : decode cL_makes 122 = .ok (.iconst 0, 1) := by decide +kernel
theorem dL_makes_123 : decode cL_makes 123 = .ok (.ireturn, 1) := by decide +kernel
theorem dL_makes_124 : decode cL_makes 124 = .ok (.iinc 3 1, 3) := by decide +kernel
theorem dL_makes_127 : decode cL_makes 127 = .ok (.goto (-75), 3) := by decide +kernel
theorem dL_makes_130 : decode cL_makes 130 = .ok (.iconst 0, 1) := by decide +kernel
theorem dL_makes_131 : decode cL_makes 131 = .ok (.istore_n 3, 1) := by decide +kernel
theorem dL_makes_132 : decode cL_makes 132 = .ok (.iload_n 3, 1) := by decide +kernel
theorem dL_makes_133 : decode cL_makes 133 = .ok (.bipush 6, 2) := by decide +kernel
theorem dL_makes_135 : decode cL_makes 135 = .ok (.if_icmp .ge 58, 3) := by decide +kernel
theorem dL_makes_138 : decode cL_makes 138 = .ok (.aload_n 1, 1) := by decide +kernel
theorem dL_makes_139 : decode cL_makes 139 = .ok (.bipush 15, 2) := by decide +kernel
theorem dL_makes_141 : decode cL_makes 141 = .ok (.iload_n 3, 1) := by decide +kernel
theorem dL_makes_142 : decode cL_makes 142 = .ok (.iadd, 1) := by decide +kernel
theorem dL_makes_143 : decode cL_makes 143 = .ok (.invokestatic 180, 3) := by decide +kernel
theorem dL_makes_146 : decode cL_makes 146 = .ok (.istore 4, 2) := by decide +kernel
theorem dL_makes_148 : decode cL_makes 148 = .ok (.aload_n 0, 1) := by decide +kernel
theorem dL_makes_149 : decode cL_makes 149 = .ok (.iload 4, 2) := by decide +kernel
theorem dL_makes_151 : decode cL_makes 151 = .ok (.bipush 11, 2) := by decide +kernel
theorem dL_makes_153 : decode cL_makes 153 = .ok (.invokestatic 184, 3) := by decide +kernel
theorem dL_makes_156 : decode cL_makes 156 = .ok (.iload 4, 2) := by decide +kernel
theorem dL_makes_158 : decode cL_makes 158 = .ok (.iconst 4, 1) := by decide +kernel
theorem dL_makes_159 : decode cL_makes 159 = .ok (.ishr, 1) := by decide +kernel
theorem dL_makes_160 : decode cL_makes 160 = .ok (.iload_n 2, 1) := by decide +kernel
theorem dL_makes_161 : decode cL_makes 161 = .ok (.invokestatic 184, 3) := by decide +kernel
theorem dL_makes_164 : decode cL_makes 164 = .ok (.invokestatic 192, 3) := by decide +kernel
theorem dL_makes_167 : decode cL_makes 167 = .ok (.istore 5, 2) := by decide +kernel
theorem dL_makes_169 : decode cL_makes 169 = .ok (.iload 5, 2) := by decide +kernel
theorem dL_makes_171 : decode cL_makes 171 = .ok (.sipush (-1001), 3) := by decide +kernel
theorem dL_makes_174 : decode cL_makes 174 = .ok (.if_icmp .eq 11, 3) := by decide +kernel
theorem dL_makes_177 : decode cL_makes 177 = .ok (.iload 5, 2) := by decide +kernel
theorem dL_makes_179 : decode cL_makes 179 = .ok (.sipush (-1002), 3) := by decide +kernel
theorem dL_makes_182 : decode cL_makes 182 = .ok (.if_icmp .ne 5, 3) := by decide +kernel
theorem dL_makes_185 : decode cL_makes 185 = .ok (.iconst 0, 1) := by decide +kernel
theorem dL_makes_186 : decode cL_makes 186 = .ok (.ireturn, 1) := by decide +kernel
theorem dL_makes_187 : decode cL_makes 187 = .ok (.iinc 3 1, 3) := by decide +kernel
theorem dL_makes_190 : decode cL_makes 190 = .ok (.goto (-58), 3) := by decide +kernel
theorem dL_makes_193 : decode cL_makes 193 = .ok (.aload_n 1, 1) := by decide +kernel
theorem dL_makes_194 : decode cL_makes 194 = .ok (.bipush 21, 2) := by decide +kernel
theorem dL_makes_196 : decode cL_makes 196 = .ok (.invokestatic 180, 3) := by decide +kernel
theorem dL_makes_199 : decode cL_makes 199 = .ok (.iconst 1, 1) := by decide +kernel
theorem dL_makes_200 : decode cL_makes 200 = .ok (.iand, 1) := by decide +kernel
theorem dL_makes_201 : decode cL_makes 201 = .ok (.ifCond .eq 22, 3) := by decide +kernel
theorem dL_makes_204 : decode cL_makes 204 = .ok (.aload_n 0, 1) := by decide +kernel
theorem dL_makes_205 : decode cL_makes 205 = .ok (.aload_n 1, 1) := by decide +kernel
theorem dL_makes_206 : decode cL_makes 206 = .ok (.bipush 21, 2) := by decide +kernel
theorem dL_makes_208 : decode cL_makes 208 = .ok (.invokestatic 180, 3) := by decide +kernel
theorem dL_makes_211 : decode cL_makes 211 = .ok (.iconst 2, 1) := by decide +kernel
theorem dL_makes_212 : decode cL_makes 212 = .ok (.ishr, 1) := by decide +kernel
theorem dL_makes_213 : decode cL_makes 213 = .ok (.iload_n 2, 1) := by decide +kernel
theorem dL_makes_214 : decode cL_makes 214 = .ok (.invokestatic 184, 3) := by decide +kernel
theorem dL_makes_217 : decode cL_makes 217 = .ok (.invokestatic 195, 3) := by decide +kernel
theorem dL_makes_220 : decode cL_makes 220 = .ok (.ifCond .lt 7, 3) := by decide +kernel
theorem dL_makes_223 : decode cL_makes 223 = .ok (.iconst 1, 1) := by decide +kernel
theorem dL_makes_224 : decode cL_makes 224 = .ok (.goto 4, 3) := by decide +kernel
theorem dL_makes_227 : decode cL_makes 227 = .ok (.iconst 0, 1) := by decide +kernel
theorem dL_makes_228 : decode cL_makes 228 = .ok (.ireturn, 1) := by decide +kernel
theorem dL_asks_0 : decode cL_asks 0 = .ok (.aload_n 0, 1) := by decide +kernel
theorem dL_asks_1 : decode cL_asks 1 = .ok (.invokevirtual 197, 3) := by decide +kernel
theorem dL_asks_4 : decode cL_asks 4 = .ok (.istore_n 1, 1) := by decide +kernel
theorem dL_asks_5 : decode cL_asks 5 = .ok (.aload_n 0, 1) := by decide +kernel
theorem dL_asks_6 : decode cL_asks 6 = .ok (.invokevirtual 200, 3) := by decide +kernel
theorem dL_asks_9 : decode cL_asks 9 = .ok (.istore_n 2, 1) := by decide +kernel
theorem dL_asks_10 : decode cL_asks 10 = .ok (.ldc2_w 203, 3) := by decide +kernel
theorem dL_asks_13 : decode cL_asks 13 = .ok (.aload_n 0, 1) := by decide +kernel
theorem dL_asks_14 : decode cL_asks 14 = .ok (.invokestatic 205, 3) := by decide +kernel
theorem dL_asks_17 : decode cL_asks 17 = .ok (.invokestatic 208, 3) := by decide +kernel
theorem dL_asks_20 : decode cL_asks 20 = .ok (.lmul, 1) := by decide +kernel
theorem dL_asks_21 : decode cL_asks 21 = .ok (.aload_n 0, 1) := by decide +kernel
theorem dL_asks_22 : decode cL_asks 22 = .ok (.invokestatic 214, 3) := by decide +kernel
theorem dL_asks_25 : decode cL_asks 25 = .ok (.i2l, 1) := by decide +kernel
theorem dL_asks_26 : decode cL_asks 26 = .ok (.ladd, 1) := by decide +kernel
theorem dL_asks_27 : decode cL_asks 27 = .ok (.lstore_n 3, 1) := by decide +kernel
theorem dL_asks_28 : decode cL_asks 28 = .ok (.ldc2_w 203, 3) := by decide +kernel
theorem dL_asks_31 : decode cL_asks 31 = .ok (.ldc2_w 203, 3) := by decide +kernel
theorem dL_asks_34 : decode cL_asks 34 = .ok (.ldc2_w 203, 3) := by decide +kernel
theorem dL_asks_37 : decode cL_asks 37 = .ok (.ldc2_w 203, 3) := by decide +kernel
theorem dL_asks_40 : decode cL_asks 40 = .ok (.ldc2_w 203, 3) := by decide +kernel
theorem dL_asks_43 : decode cL_asks 43 = .ok (.lload_n 3, 1) := by decide +kernel
theorem dL_asks_44 : decode cL_asks 44 = .ok (.lmul, 1) := by decide +kernel
theorem dL_asks_45 : decode cL_asks 45 = .ok (.iload_n 1, 1) := by decide +kernel
theorem dL_asks_46 : decode cL_asks 46 = .ok (.i2l, 1) := by decide +kernel
theorem dL_asks_47 : decode cL_asks 47 = .ok (.ladd, 1) := by decide +kernel
theorem dL_asks_48 : decode cL_asks 48 = .ok (.lmul, 1) := by decide +kernel
theorem dL_asks_49 : decode cL_asks 49 = .ok (.iload_n 2, 1) := by decide +kernel
theorem dL_asks_50 : decode cL_asks 50 = .ok (.i2l, 1) := by decide +kernel
theorem dL_asks_51 : decode cL_asks 51 = .ok (.ladd, 1) := by decide +kernel
theorem dL_asks_52 : decode cL_asks 52 = .ok (.lmul, 1) := by decide +kernel
theorem dL_asks_53 : decode cL_asks 53 = .ok (.aload_n 0, 1) := by decide +kernel
theorem dL_asks_54 : decode cL_asks 54 = .ok (.invokevirtual 217, 3) := by decide +kernel
theorem dL_asks_57 : decode cL_asks 57 = .ok (.i2l, 1) := by decide +kernel
theorem dL_asks_58 : decode cL_asks 58 = .ok (.ladd, 1) := by decide +kernel
theorem dL_asks_59 : decode cL_asks 59 = .ok (.lmul, 1) := by decide +kernel
theorem dL_asks_60 : decode cL_asks 60 = .ok (.aload_n 0, 1) := by decide +kernel
theorem dL_asks_61 : decode cL_asks 61 = .ok (.invokestatic 220, 3) := by decide +kernel
theorem dL_asks_64 : decode cL_asks 64 = .ok (.i2l, 1) := by decide +kernel
theorem dL_asks_65 : decode cL_asks 65 = .ok (.ladd, 1) := by decide +kernel
theorem dL_asks_66 : decode cL_asks 66 = .ok (.lmul, 1) := by decide +kernel
theorem dL_asks_67 : decode cL_asks 67 = .ok (.aload_n 0, 1) := by decide +kernel
theorem dL_asks_68 : decode cL_asks 68 = .ok (.invokevirtual 222, 3) := by decide +kernel
theorem dL_asks_71 : decode cL_asks 71 = .ok (.i2l, 1) := by decide +kernel
theorem dL_asks_72 : decode cL_asks 72 = .ok (.ladd, 1) := by decide +kernel
theorem dL_asks_73 : decode cL_asks 73 = .ok (.lstore_n 3, 1) := by decide +kernel
theorem dL_asks_74 : decode cL_asks 74 = .ok (.ldc2_w 203, 3) := by decide +kernel
theorem dL_asks_77 : decode cL_asks 77 = .ok (.lload_n 3, 1) := by decide +kernel
theorem dL_asks_78 : decode cL_asks 78 = .ok (.lmul, 1) := by decide +kernel
theorem dL_asks_79 : decode cL_asks 79 = .ok (.aload_n 0, 1) := by decide +kernel
theorem dL_asks_80 : decode cL_asks 80 = .ok (.invokevirtual 225, 3) := by decide +kernel
theorem dL_asks_83 : decode cL_asks 83 = .ok (.i2l, 1) := by decide +kernel
theorem dL_asks_84 : decode cL_asks 84 = .ok (.ladd, 1) := by decide +kernel
theorem dL_asks_85 : decode cL_asks 85 = .ok (.lstore_n 3, 1) := by decide +kernel
theorem dL_asks_86 : decode cL_asks 86 = .ok (.iconst 0, 1) := by decide +kernel
theorem dL_asks_87 : decode cL_asks 87 = .ok (.istore 5, 2) := by decide +kernel
theorem dL_asks_89 : decode cL_asks 89 = .ok (.iload 5, 2) := by decide +kernel
theorem dL_asks_91 : decode cL_asks 91 = .ok (.iload_n 2, 1) := by decide +kernel
theorem dL_asks_92 : decode cL_asks 92 = .ok (.if_icmp .ge 97, 3) := by decide +kernel
theorem dL_asks_95 : decode cL_asks 95 = .ok (.ldc2_w 203, 3) := by decide +kernel
theorem dL_asks_98 : decode cL_asks 98 = .ok (.ldc2_w 203, 3) := by decide +kernel
theorem dL_asks_101 : decode cL_asks 101 = .ok (.ldc2_w 203, 3) := by decide +kernel
theorem dL_asks_104 : decode cL_asks 104 = .ok (.ldc2_w 203, 3) := by decide +kernel
theorem dL_asks_107 : decode cL_asks 107 = .ok (.lload_n 3, 1) := by decide +kernel
theorem dL_asks_108 : decode cL_asks 108 = .ok (.lmul, 1) := by decide +kernel
theorem dL_asks_109 : decode cL_asks 109 = .ok (.aload_n 0, 1) := by decide +kernel
theorem dL_asks_110 : decode cL_asks 110 = .ok (.iload 5, 2) := by decide +kernel
theorem dL_asks_112 : decode cL_asks 112 = .ok (.invokestatic 228, 3) := by decide +kernel
theorem dL_asks_115 : decode cL_asks 115 = .ok (.i2l, 1) := by decide +kernel
theorem dL_asks_116 : decode cL_asks 116 = .ok (.ladd, 1) := by decide +kernel
theorem dL_asks_117 : decode cL_asks 117 = .ok (.lmul, 1) := by decide +kernel
theorem dL_asks_118 : decode cL_asks 118 = .ok (.aload_n 0, 1) := by decide +kernel
theorem dL_asks_119 : decode cL_asks 119 = .ok (.iload 5, 2) := by decide +kernel
theorem dL_asks_121 : decode cL_asks 121 = .ok (.invokestatic 230, 3) := by decide +kernel
theorem dL_asks_124 : decode cL_asks 124 = .ok (.i2l, 1) := by decide +kernel
theorem dL_asks_125 : decode cL_asks 125 = .ok (.ladd, 1) := by decide +kernel
theorem dL_asks_126 : decode cL_asks 126 = .ok (.lmul, 1) := by decide +kernel
theorem dL_asks_127 : decode cL_asks 127 = .ok (.aload_n 0, 1) := by decide +kernel
theorem dL_asks_128 : decode cL_asks 128 = .ok (.iload 5, 2) := by decide +kernel
theorem dL_asks_130 : decode cL_asks 130 = .ok (.invokestatic 232, 3) := by decide +kernel
theorem dL_asks_133 : decode cL_asks 133 = .ok (.i2l, 1) := by decide +kernel
theorem dL_asks_134 : decode cL_asks 134 = .ok (.ladd, 1) := by decide +kernel
theorem dL_asks_135 : decode cL_asks 135 = .ok (.lmul, 1) := by decide +kernel
theorem dL_asks_136 : decode cL_asks 136 = .ok (.aload_n 0, 1) := by decide +kernel
theorem dL_asks_137 : decode cL_asks 137 = .ok (.iload 5, 2) := by decide +kernel
theorem dL_asks_139 : decode cL_asks 139 = .ok (.invokestatic 234, 3) := by decide +kernel
theorem dL_asks_142 : decode cL_asks 142 = .ok (.i2l, 1) := by decide +kernel
theorem dL_asks_143 : decode cL_asks 143 = .ok (.ladd, 1) := by decide +kernel
theorem dL_asks_144 : decode cL_asks 144 = .ok (.lstore_n 3, 1) := by decide +kernel
theorem dL_asks_145 : decode cL_asks 145 = .ok (.aload_n 0, 1) := by decide +kernel
theorem dL_asks_146 : decode cL_asks 146 = .ok (.iload 5, 2) := by decide +kernel
theorem dL_asks_148 : decode cL_asks 148 = .ok (.invokestatic 175, 3) := by decide +kernel
theorem dL_asks_151 : decode cL_asks 151 = .ok (.istore 6, 2) := by decide +kernel
theorem dL_asks_153 : decode cL_asks 153 = .ok (.iconst 0, 1) := by decide +kernel
theorem dL_asks_154 : decode cL_asks 154 = .ok (.istore 7, 2) := by decide +kernel
theorem dL_asks_156 : decode cL_asks 156 = .ok (.iload 7, 2) := by decide +kernel
theorem dL_asks_158 : decode cL_asks 158 = .ok (.iload 6, 2) := by decide +kernel
theorem dL_asks_160 : decode cL_asks 160 = .ok (.if_icmp .ge 23, 3) := by decide +kernel
theorem dL_asks_163 : decode cL_asks 163 = .ok (.ldc2_w 203, 3) := by decide +kernel
theorem dL_asks_166 : decode cL_asks 166 = .ok (.lload_n 3, 1) := by decide +kernel
theorem dL_asks_167 : decode cL_asks 167 = .ok (.lmul, 1) := by decide +kernel
theorem dL_asks_168 : decode cL_asks 168 = .ok (.aload_n 0, 1) := by decide +kernel
theorem dL_asks_169 : decode cL_asks 169 = .ok (.iload 7, 2) := by decide +kernel
theorem dL_asks_171 : decode cL_asks 171 = .ok (.invokestatic 178, 3) := by decide +kernel
theorem dL_asks_174 : decode cL_asks 174 = .ok (.i2l, 1) := by decide +kernel
theorem dL_asks_175 : decode cL_asks 175 = .ok (.ladd, 1) := by decide +kernel
theorem dL_asks_176 : decode cL_asks 176 = .ok (.lstore_n 3, 1) := by decide +kernel
theorem dL_asks_177 : decode cL_asks 177 = .ok (.iinc 7 1, 3) := by decide +kernel
theorem dL_asks_180 : decode cL_asks 180 = .ok (.goto (-24), 3) := by decide +kernel
theorem dL_asks_183 : decode cL_asks 183 = .ok (.iinc 5 1, 3) := by decide +kernel
theorem dL_asks_186 : decode cL_asks 186 = .ok (.goto (-97), 3) := by decide +kernel
theorem dL_asks_189 : decode cL_asks 189 = .ok (.iconst 0, 1) := by decide +kernel
theorem dL_asks_190 : decode cL_asks 190 = .ok (.istore 5, 2) := by decide +kernel
theorem dL_asks_192 : decode cL_asks 192 = .ok (.iload 5, 2) := by decide +kernel
theorem dL_asks_194 : decode cL_asks 194 = .ok (.iload_n 1, 1) := by decide +kernel
theorem dL_asks_195 : decode cL_asks 195 = .ok (.if_icmp .ge 89, 3) := by decide +kernel
theorem dL_asks_198 : decode cL_asks 198 = .ok (.aload_n 0, 1) := by decide +kernel
theorem dL_asks_199 : decode cL_asks 199 = .ok (.iload 5, 2) := by decide +kernel
theorem dL_asks_201 : decode cL_asks 201 = .ok (.invokestatic 236, 3) := by decide +kernel
theorem dL_asks_204 : decode cL_asks 204 = .ok (.istore 6, 2) := by decide +kernel
theorem dL_asks_206 : decode cL_asks 206 = .ok (.ldc2_w 203, 3) := by decide +kernel
theorem dL_asks_209 : decode cL_asks 209 = .ok (.ldc2_w 203, 3) := by decide +kernel
theorem dL_asks_212 : decode cL_asks 212 = .ok (.ldc2_w 203, 3) := by decide +kernel
theorem dL_asks_215 : decode cL_asks 215 = .ok (.ldc2_w 203, 3) := by decide +kernel
theorem dL_asks_218 : decode cL_asks 218 = .ok (.lload_n 3, 1) := by decide +kernel
theorem dL_asks_219 : decode cL_asks 219 = .ok (.lmul, 1) := by decide +kernel
theorem dL_asks_220 : decode cL_asks 220 = .ok (.iload 6, 2) := by decide +kernel
theorem dL_asks_222 : decode cL_asks 222 = .ok (.i2l, 1) := by decide +kernel
theorem dL_asks_223 : decode cL_asks 223 = .ok (.ladd, 1) := by decide +kernel
theorem dL_asks_224 : decode cL_asks 224 = .ok (.lmul, 1) := by decide +kernel
theorem dL_asks_225 : decode cL_asks 225 = .ok (.aload_n 0, 1) := by decide +kernel
theorem dL_asks_226 : decode cL_asks 226 = .ok (.iload 6, 2) := by decide +kernel
theorem dL_asks_228 : decode cL_asks 228 = .ok (.invokestatic 238, 3) := by decide +kernel
theorem dL_asks_231 : decode cL_asks 231 = .ok (.i2l, 1) := by decide +kernel
theorem dL_asks_232 : decode cL_asks 232 = .ok (.ladd, 1) := by decide +kernel
theorem dL_asks_233 : decode cL_asks 233 = .ok (.lmul, 1) := by decide +kernel
theorem dL_asks_234 : decode cL_asks 234 = .ok (.aload_n 0, 1) := by decide +kernel
theorem dL_asks_235 : decode cL_asks 235 = .ok (.iload 6, 2) := by decide +kernel
theorem dL_asks_237 : decode cL_asks 237 = .ok (.invokestatic 240, 3) := by decide +kernel
theorem dL_asks_240 : decode cL_asks 240 = .ok (.i2l, 1) := by decide +kernel
theorem dL_asks_241 : decode cL_asks 241 = .ok (.ladd, 1) := by decide +kernel
theorem dL_asks_242 : decode cL_asks 242 = .ok (.lmul, 1) := by decide +kernel
theorem dL_asks_243 : decode cL_asks 243 = .ok (.aload_n 0, 1) := by decide +kernel
theorem dL_asks_244 : decode cL_asks 244 = .ok (.iload 6, 2) := by decide +kernel
theorem dL_asks_246 : decode cL_asks 246 = .ok (.invokestatic 242, 3) := by decide +kernel
theorem dL_asks_249 : decode cL_asks 249 = .ok (.i2l, 1) := by decide +kernel
theorem dL_asks_250 : decode cL_asks 250 = .ok (.ladd, 1) := by decide +kernel
theorem dL_asks_251 : decode cL_asks 251 = .ok (.lstore_n 3, 1) := by decide +kernel
theorem dL_asks_252 : decode cL_asks 252 = .ok (.ldc2_w 203, 3) := by decide +kernel
theorem dL_asks_255 : decode cL_asks 255 = .ok (.ldc2_w 203, 3) := by decide +kernel
theorem dL_asks_258 : decode cL_asks 258 = .ok (.lload_n 3, 1) := by decide +kernel
theorem dL_asks_259 : decode cL_asks 259 = .ok (.lmul, 1) := by decide +kernel
theorem dL_asks_260 : decode cL_asks 260 = .ok (.aload_n 0, 1) := by decide +kernel
theorem dL_asks_261 : decode cL_asks 261 = .ok (.iload 6, 2) := by decide +kernel
theorem dL_asks_263 : decode cL_asks 263 = .ok (.invokestatic 244, 3) := by decide +kernel
theorem dL_asks_266 : decode cL_asks 266 = .ok (.i2l, 1) := by decide +kernel
theorem dL_asks_267 : decode cL_asks 267 = .ok (.ladd, 1) := by decide +kernel
theorem dL_asks_268 : decode cL_asks 268 = .ok (.lmul, 1) := by decide +kernel
theorem dL_asks_269 : decode cL_asks 269 = .ok (.aload_n 0, 1) := by decide +kernel
theorem dL_asks_270 : decode cL_asks 270 = .ok (.iload 6, 2) := by decide +kernel
theorem dL_asks_272 : decode cL_asks 272 = .ok (.invokestatic 246, 3) := by decide +kernel
theorem dL_asks_275 : decode cL_asks 275 = .ok (.i2l, 1) := by decide +kernel
theorem dL_asks_276 : decode cL_asks 276 = .ok (.ladd, 1) := by decide +kernel
theorem dL_asks_277 : decode cL_asks 277 = .ok (.lstore_n 3, 1) := by decide +kernel
theorem dL_asks_278 : decode cL_asks 278 = .ok (.iinc 5 1, 3) := by decide +kernel
theorem dL_asks_281 : decode cL_asks 281 = .ok (.goto (-89), 3) := by decide +kernel
theorem dL_asks_284 : decode cL_asks 284 = .ok (.lload_n 3, 1) := by decide +kernel
theorem dL_asks_285 : decode cL_asks 285 = .ok (.lreturn, 1) := by decide +kernel
theorem dL_changes_0 : decode cL_changes 0 = .ok (.iload_n 1, 1) := by decide +kernel
theorem dL_changes_1 : decode cL_changes 1 = .ok (.iconst 4, 1) := by decide +kernel
theorem dL_changes_2 : decode cL_changes 2 = .ok (.ishr, 1) := by decide +kernel
theorem dL_changes_3 : decode cL_changes 3 = .ok (.bipush 14, 2) := by decide +kernel
theorem dL_changes_5 : decode cL_changes 5 = .ok (.invokestatic 184, 3) := by decide +kernel
theorem dL_changes_8 : decode cL_changes 8 = .ok (.istore_n 2, 1) := by decide +kernel
theorem dL_changes_9 : decode cL_changes 9 = .ok (.iload_n 1, 1) := by decide +kernel
theorem dL_changes_10 : decode cL_changes 10 = .ok (.bipush 8, 2) := by decide +kernel
theorem dL_changes_12 : decode cL_changes 12 = .ok (.ishr, 1) := by decide +kernel
theorem dL_changes_13 : decode cL_changes 13 = .ok (.aload_n 0, 1) := by decide +kernel
theorem dL_changes_14 : decode cL_changes 14 = .ok (.invokevirtual 200, 3) := by decide +kernel
theorem dL_changes_17 : decode cL_changes 17 = .ok (.iconst 1, 1) := by decide +kernel
theorem dL_changes_18 : decode cL_changes 18 = .ok (.iadd, 1) := by decide +kernel
theorem dL_changes_19 : decode cL_changes 19 = .ok (.invokestatic 184, 3) := by decide +kernel
theorem dL_changes_22 : decode cL_changes 22 = .ok (.istore_n 3, 1) := by decide +kernel
theorem dL_changes_23 : decode cL_changes 23 = .ok (.iload_n 1, 1) := by decide +kernel
theorem dL_changes_24 : decode cL_changes 24 = .ok (.bipush 22, 2) := by decide +kernel
theorem dL_changes_26 : decode cL_changes 26 = .ok (.invokestatic 184, 3) := by decide +kernel
theorem dL_changes_29 : decode cL_changes 29 = .ok (.tableswitch 286 0 17 #[87, 108, 108, 108, 159, 159, 173, 173, 173, 173, 173, 188, 188, 188, 202, 202, 216, 216], 87) := by decide +kernel
theorem dL_changes_116 : decode cL_changes 116 = .ok (.aload_n 0, 1) := by decide +kernel
theorem dL_changes_117 : decode cL_changes 117 = .ok (.iload_n 1, 1) := by decide +kernel
theorem dL_changes_118 : decode cL_changes 118 = .ok (.iconst 4, 1) := by decide +kernel
theorem dL_changes_119 : decode cL_changes 119 = .ok (.ishr, 1) := by decide +kernel
theorem dL_changes_120 : decode cL_changes 120 = .ok (.bipush 101, 2) := by decide +kernel
theorem dL_changes_122 : decode cL_changes 122 = .ok (.invokestatic 184, 3) := by decide +kernel
theorem dL_changes_125 : decode cL_changes 125 = .ok (.invokestatic 187, 3) := by decide +kernel
theorem dL_changes_128 : decode cL_changes 128 = .ok (.ifCond .lt 7, 3) := by decide +kernel
theorem dL_changes_131 : decode cL_changes 131 = .ok (.iconst 1, 1) := by decide +kernel
theorem dL_changes_132 : decode cL_changes 132 = .ok (.goto 4, 3) := by decide +kernel
theorem dL_changes_135 : decode cL_changes 135 = .ok (.iconst 0, 1) := by decide +kernel
theorem dL_changes_136 : decode cL_changes 136 = .ok (.ireturn, 1) := by decide +kernel
theorem dL_changes_137 : decode cL_changes 137 = .ok (.aload_n 0, 1) := by decide +kernel
theorem dL_changes_138 : decode cL_changes 138 = .ok (.iload_n 1, 1) := by decide +kernel
theorem dL_changes_139 : decode cL_changes 139 = .ok (.iconst 4, 1) := by decide +kernel
theorem dL_changes_140 : decode cL_changes 140 = .ok (.ishr, 1) := by decide +kernel
theorem dL_changes_141 : decode cL_changes 141 = .ok (.bipush 12, 2) := by decide +kernel
theorem dL_changes_143 : decode cL_changes 143 = .ok (.invokestatic 184, 3) := by decide +kernel
theorem dL_changes_146 : decode cL_changes 146 = .ok (.iload_n 1, 1) := by decide +kernel
theorem dL_changes_147 : decode cL_changes 147 = .ok (.bipush 7, 2) := by decide +kernel
theorem dL_changes_149 : decode cL_changes 149 = .ok (.ishr, 1) := by decide +kernel
theorem dL_changes_150 : decode cL_changes 150 = .ok (.bipush 22, 2) := by decide +kernel
theorem dL_changes_152 : decode cL_changes 152 = .ok (.invokestatic 184, 3) := by decide +kernel
theorem dL_changes_155 : decode cL_changes 155 = .ok (.iload_n 1, 1) := by decide +kernel
theorem dL_changes_156 : decode cL_changes 156 = .ok (.bipush 9, 2) := by decide +kernel
theorem dL_changes_158 : decode cL_changes 158 = .ok (.ishr, 1) := by decide +kernel
theorem dL_changes_159 : decode cL_changes 159 = .ok (.bipush 32, 2) := by decide +kernel
theorem dL_changes_161 : decode cL_changes 161 = .ok (.invokestatic 184, 3) := by decide +kernel
theorem dL_changes_164 : decode cL_changes 164 = .ok (.iload_n 1, 1) := by decide +kernel
theorem dL_changes_165 : decode cL_changes 165 = .ok (.bipush 64, 2) := by decide +kernel
theorem dL_changes_167 : decode cL_changes 167 = .ok (.iand, 1) := by decide +kernel
theorem dL_changes_168 : decode cL_changes 168 = .ok (.ifCond .ne 7, 3) := by decide +kernel
theorem dL_changes_171 : decode cL_changes 171 = .ok (.iconst 1, 1) := by decide +kernel
theorem dL_changes_172 : decode cL_changes 172 = .ok (.goto 4, 3) := by decide +kernel
theorem dL_changes_175 : decode cL_changes 175 = .ok (.iconst 0, 1) := by decide +kernel
theorem dL_changes_176 : decode cL_changes 176 = .ok (.invokestatic 189, 3) := by decide +kernel
theorem dL_changes_179 : decode cL_changes 179 = .ok (.ifCond .lt 7, 3) := by decide +kernel
theorem dL_changes_182 : decode cL_changes 182 = .ok (.iconst 1, 1) := by decide +kernel
theorem dL_changes_183 : decode cL_changes 183 = .ok (.goto 4, 3) := by decide +kernel
theorem dL_changes_186 : decode cL_changes 186 = .ok (.iconst 0, 1) := by decide +kernel
theorem dL_changes_187 : decode cL_changes 187 = .ok (.ireturn, 1) := by decide +kernel
theorem dL_changes_188 : decode cL_changes 188 = .ok (.aload_n 0, 1) := by decide +kernel
theorem dL_changes_189 : decode cL_changes 189 = .ok (.iload_n 2, 1) := by decide +kernel
theorem dL_changes_190 : decode cL_changes 190 = .ok (.invokestatic 248, 3) := by decide +kernel
theorem dL_changes_193 : decode cL_changes 193 = .ok (.ifCond .lt 7, 3) := by decide +kernel
theorem dL_changes_196 : decode cL_changes 196 = .ok (.iconst 1, 1) := by decide +kernel
theorem dL_changes_197 : decode cL_changes 197 = .ok (.goto 4, 3) := by decide +kernel
theorem dL_changes_200 : decode cL_changes 200 = .ok (.iconst 0, 1) := by decide +kernel
theorem dL_changes_201 : decode cL_changes 201 = .ok (.ireturn, 1) := by decide +kernel
theorem dL_changes_202 : decode cL_changes 202 = .ok (.aload_n 0, 1) := by decide +kernel
theorem dL_changes_203 : decode cL_changes 203 = .ok (.iload_n 2, 1) := by decide +kernel
theorem dL_changes_204 : decode cL_changes 204 = .ok (.iload_n 3, 1) := by decide +kernel
theorem dL_changes_205 : decode cL_changes 205 = .ok (.invokestatic 192, 3) := by decide +kernel
theorem dL_changes_208 : decode cL_changes 208 = .ok (.ifCond .lt 7, 3) := by decide +kernel
theorem dL_changes_211 : decode cL_changes 211 = .ok (.iconst 1, 1) := by decide +kernel
theorem dL_changes_212 : decode cL_changes 212 = .ok (.goto 4, 3) := by decide +kernel
theorem dL_changes_215 : decode cL_changes 215 = .ok (.iconst 0, 1) := by decide +kernel
theorem dL_changes_216 : decode cL_changes 216 = .ok (.ireturn, 1) := by decide +kernel
theorem dL_changes_217 : decode cL_changes 217 = .ok (.aload_n 0, 1) := by decide +kernel
theorem dL_changes_218 : decode cL_changes 218 = .ok (.iload_n 2, 1) := by decide +kernel
theorem dL_changes_219 : decode cL_changes 219 = .ok (.invokestatic 250, 3) := by decide +kernel
theorem dL_changes_222 : decode cL_changes 222 = .ok (.ifCond .lt 7, 3) := by decide +kernel
theorem dL_changes_225 : decode cL_changes 225 = .ok (.iconst 1, 1) := by decide +kernel
theorem dL_changes_226 : decode cL_changes 226 = .ok (.goto 4, 3) := by decide +kernel
theorem dL_changes_229 : decode cL_changes 229 = .ok (.iconst 0, 1) := by decide +kernel
theorem dL_changes_230 : decode cL_changes 230 = .ok (.ireturn, 1) := by decide +kernel
theorem dL_changes_231 : decode cL_changes 231 = .ok (.aload_n 0, 1) := by decide +kernel
theorem dL_changes_232 : decode cL_changes 232 = .ok (.iload_n 3, 1) := by decide +kernel
theorem dL_changes_233 : decode cL_changes 233 = .ok (.invokestatic 195, 3) := by decide +kernel
theorem dL_changes_236 : decode cL_changes 236 = .ok (.ifCond .lt 7, 3) := by decide +kernel
theorem dL_changes_239 : decode cL_changes 239 = .ok (.iconst 1, 1) := by decide +kernel
theorem dL_changes_240 : decode cL_changes 240 = .ok (.goto 4, 3) := by decide +kernel
theorem dL_changes_243 : decode cL_changes 243 = .ok (.iconst 0, 1) := by decide +kernel
theorem dL_changes_244 : decode cL_changes 244 = .ok (.ireturn, 1) := by decide +kernel
theorem dL_changes_245 : decode cL_changes 245 = .ok (.aload_n 0, 1) := by decide +kernel
theorem dL_changes_246 : decode cL_changes 246 = .ok (.iload_n 1, 1) := by decide +kernel
theorem dL_changes_247 : decode cL_changes 247 = .ok (.bipush 6, 2) := by decide +kernel
theorem dL_changes_249 : decode cL_changes 249 = .ok (.ishr, 1) := by decide +kernel
theorem dL_changes_250 : decode cL_changes 250 = .ok (.iconst 1, 1) := by decide +kernel
theorem dL_changes_251 : decode cL_changes 251 = .ok (.iand, 1) := by decide +kernel
theorem dL_changes_252 : decode cL_changes 252 = .ok (.ifCond .ne 31, 3) := by decide +kernel
theorem dL_changes_255 : decode cL_changes 255 = .ok (.new 252, 3) := by decide +kernel
theorem dL_changes_258 : decode cL_changes 258 = .ok (.dup, 1) := by decide +kernel
theorem dL_changes_259 : decode cL_changes 259 = .ok (.invokespecial 254, 3) := by decide +kernel
theorem dL_changes_262 : decode cL_changes 262 = .ok (.ldc 255, 2) := by decide +kernel
theorem dL_changes_264 : decode cL_changes 264 = .ok (.invokevirtual 257, 3) := by decide +kernel
theorem dL_changes_267 : decode cL_changes 267 = .ok (.iload_n 2, 1) := by decide +kernel
theorem dL_changes_268 : decode cL_changes 268 = .ok (.invokevirtual 261, 3) := by decide +kernel
theorem dL_changes_271 : decode cL_changes 271 = .ok (.ldc_w 264, 3) := by decide +kernel
theorem dL_changes_274 : decode cL_changes 274 = .ok (.invokevirtual 257, 3) := by decide +kernel
theorem dL_changes_277 : decode cL_changes 277 = .ok (.invokevirtual 266, 3) := by decide +kernel
theorem dL_changes_280 : decode cL_changes 280 = .ok (.goto 23, 3) := by decide +kernel
theorem dL_changes_283 : decode cL_changes 283 = .ok (.new 252, 3) := by decide +kernel
theorem dL_changes_286 : decode cL_changes 286 = .ok (.dup, 1) := by decide +kernel
theorem dL_changes_287 : decode cL_changes 287 = .ok (.invokespecial 254, 3) := by decide +kernel
theorem dL_changes_290 : decode cL_changes 290 = .ok (.ldc_w 270, 3) := by decide +kernel
theorem dL_changes_293 : decode cL_changes 293 = .ok (.invokevirtual 257, 3) := by decide +kernel
theorem dL_changes_296 : decode cL_changes 296 = .ok (.iload_n 2, 1) := by decide +kernel
theorem dL_changes_297 : decode cL_changes 297 = .ok (.invokevirtual 261, 3) := by decide +kernel
theorem dL_changes_300 : decode cL_changes 300 = .ok (.invokevirtual 266, 3) := by decide +kernel
theorem dL_changes_303 : decode cL_changes 303 = .ok (.invokestatic 272, 3) := by decide +kernel
theorem dL_changes_306 : decode cL_changes 306 = .ok (.ifCond .lt 7, 3) := by decide +kernel
theorem dL_changes_309 : decode cL_changes 309 = .ok (.iconst 1, 1) := by decide +kernel
theorem dL_changes_310 : decode cL_changes 310 = .ok (.goto 4, 3) := by decide +kernel
theorem dL_changes_313 : decode cL_changes 313 = .ok (.iconst 0, 1) := by decide +kernel
theorem dL_changes_314 : decode cL_changes 314 = .ok (.ireturn, 1) := by decide +kernel
theorem dL_changes_315 : decode cL_changes 315 = .ok (.aload_n 0, 1) := by decide +kernel
theorem dL_changes_316 : decode cL_changes 316 = .ok (.invokestatic 276, 3) := by decide +kernel
theorem dL_changes_319 : decode cL_changes 319 = .ok (.ifCond .lt 7, 3) := by decide +kernel
theorem dL_changes_322 : decode cL_changes 322 = .ok (.iconst 1, 1) := by decide +kernel
theorem dL_changes_323 : decode cL_changes 323 = .ok (.goto 4, 3) := by decide +kernel
theorem dL_changes_326 : decode cL_changes 326 = .ok (.iconst 0, 1) := by decide +kernel
theorem dL_changes_327 : decode cL_changes 327 = .ok (.ireturn, 1) := by decide +kernel
theorem dL_thrown_0 : decode cL_thrown 0 = .ok (.aload_n 0, 1) := by decide +kernel
theorem dL_thrown_1 : decode cL_thrown 1 = .ok (.invokestatic 278, 3) := by decide +kernel
theorem dL_thrown_4 : decode cL_thrown 4 = .ok (.lstore_n 1, 1) := by decide +kernel
theorem dL_thrown_5 : decode cL_thrown 5 = .ok (.aload_n 0, 1) := by decide +kernel
theorem dL_thrown_6 : decode cL_thrown 6 = .ok (.invokevirtual 197, 3) := by decide +kernel
theorem dL_thrown_9 : decode cL_thrown 9 = .ok (.istore_n 3, 1) := by decide +kernel
theorem dL_thrown_10 : decode cL_thrown 10 = .ok (.aload_n 0, 1) := by decide +kernel
theorem dL_thrown_11 : decode cL_thrown 11 = .ok (.invokevirtual 200, 3) := by decide +kernel
theorem dL_thrown_14 : decode cL_thrown 14 = .ok (.istore 4, 2) := by decide +kernel
theorem dL_thrown_16 : decode cL_thrown 16 = .ok (.aload_n 0, 1) := by decide +kernel
theorem dL_thrown_17 : decode cL_thrown 17 = .ok (.iconst 0, 1) := by decide +kernel
theorem dL_thrown_18 : decode cL_thrown 18 = .ok (.invokestatic 187, 3) := by decide +kernel
theorem dL_thrown_21 : decode cL_thrown 21 = .ok (.sipush (-1001), 3) := by decide +kernel
theorem dL_thrown_24 : decode cL_thrown 24 = .ok (.if_icmp .ne 534, 3) := by decide +kernel
theorem dL_thrown_27 : decode cL_thrown 27 = .ok (.aload_n 0, 1) := by decide +kernel
theorem dL_thrown_28 : decode cL_thrown 28 = .ok (.bipush 100, 2) := by decide +kernel
theorem dL_thrown_30 : decode cL_thrown 30 = .ok (.invokestatic 187, 3) := by decide +kernel
theorem dL_thrown_33 : decode cL_thrown 33 = .ok (.sipush (-1001), 3) := by decide +kernel
theorem dL_thrown_36 : decode cL_thrown 36 = .ok (.if_icmp .ne 522, 3) := by decide +kernel
theorem dL_thrown_39 : decode cL_thrown 39 = .ok (.iload 4, 2) := by decide +kernel
theorem dL_thrown_41 : decode cL_thrown 41 = .ok (.iconst 3, 1) := by decide +kernel
theorem dL_thrown_42 : decode cL_thrown 42 = .ok (.if_icmp .lt 15, 3) := by decide +kernel
theorem dL_thrown_45 : decode cL_thrown 45 = .ok (.aload_n 0, 1) := by decide +kernel
theorem dL_thrown_46 : decode cL_thrown 46 = .ok (.bipush 9, 2) := by decide +kernel
theorem dL_thrown_48 : decode cL_thrown 48 = .ok (.invokestatic 187, 3) := by decide +kernel
theorem dL_thrown_51 : decode cL_thrown 51 = .ok (.sipush (-1002), 3) := by decide +kernel
theorem dL_thrown_54 : decode cL_thrown 54 = .ok (.if_icmp .ne 504, 3) := by decide +kernel
theorem dL_thrown_57 : decode cL_thrown 57 = .ok (.aload_n 0, 1) := by decide +kernel
theorem dL_thrown_58 : decode cL_thrown 58 = .ok (.iconst 0, 1) := by decide +kernel
theorem dL_thrown_59 : decode cL_thrown 59 = .ok (.iconst 1, 1) := by decide +kernel
theorem dL_thrown_60 : decode cL_thrown 60 = .ok (.iconst 1, 1) := by decide +kernel
theorem dL_thrown_61 : decode cL_thrown 61 = .ok (.iconst 1, 1) := by decide +kernel
theorem dL_thrown_62 : decode cL_thrown 62 = .ok (.invokestatic 189, 3) := by decide +kernel
theorem dL_thrown_65 : decode cL_thrown 65 = .ok (.sipush (-1001), 3) := by decide +kernel
theorem dL_thrown_68 : decode cL_thrown 68 = .ok (.if_icmp .ne 490, 3) := by decide +kernel
theorem dL_thrown_71 : decode cL_thrown 71 = .ok (.aload_n 0, 1) := by decide +kernel
theorem dL_thrown_72 : decode cL_thrown 72 = .ok (.bipush 11, 2) := by decide +kernel
theorem dL_thrown_74 : decode cL_thrown 74 = .ok (.iconst 1, 1) := by decide +kernel
theorem dL_thrown_75 : decode cL_thrown 75 = .ok (.iconst 1, 1) := by decide +kernel
theorem dL_thrown_76 : decode cL_thrown 76 = .ok (.iconst 1, 1) := by decide +kernel
theorem dL_thrown_77 : decode cL_thrown 77 = .ok (.invokestatic 189, 3) := by decide +kernel
theorem dL_thrown_80 : decode cL_thrown 80 = .ok (.sipush (-1001), 3) := by decide +kernel
theorem dL_thrown_83 : decode cL_thrown 83 = .ok (.if_icmp .ne 475, 3) := by decide +kernel
theorem dL_thrown_86 : decode cL_thrown 86 = .ok (.aload_n 0, 1) := by decide +kernel
theorem dL_thrown_87 : decode cL_thrown 87 = .ok (.iconst 1, 1) := by decide +kernel
theorem dL_thrown_88 : decode cL_thrown 88 = .ok (.iconst 0, 1) := by decide +kernel
theorem dL_thrown_89 : decode cL_thrown 89 = .ok (.iconst 1, 1) := by decide +kernel
theorem dL_thrown_90 : decode cL_thrown 90 = .ok (.iconst 1, 1) := by decide +kernel
theorem dL_thrown_91 : decode cL_thrown 91 = .ok (.invokestatic 189, 3) := by decide +kernel
theorem dL_thrown_94 : decode cL_thrown 94 = .ok (.sipush (-1001), 3) := by decide +kernel
theorem dL_thrown_97 : decode cL_thrown 97 = .ok (.if_icmp .ne 461, 3) := by decide +kernel
theorem dL_thrown_100 : decode cL_thrown 100 = .ok (.aload_n 0, 1) := by decide +kernel
theorem dL_thrown_101 : decode cL_thrown 101 = .ok (.iconst 1, 1) := by decide +kernel
theorem dL_thrown_102 : decode cL_thrown 102 = .ok (.bipush 21, 2) := by decide +kernel
theorem dL_thrown_104 : decode cL_thrown 104 = .ok (.iconst 1, 1) := by decide +kernel
theorem dL_thrown_105 : decode cL_thrown 105 = .ok (.iconst 1, 1) := by decide +kernel
theorem dL_thrown_106 : decode cL_thrown 106 = .ok (.invokestatic 189, 3) := by decide +kernel
theorem dL_thrown_109 : decode cL_thrown 109 = .ok (.sipush (-1001), 3) := by decide +kernel
theorem dL_thrown_112 : decode cL_thrown 112 = .ok (.if_icmp .ne 446, 3) := by decide +kernel
theorem dL_thrown_115 : decode cL_thrown 115 = .ok (.aload_n 0, 1) := by decide +kernel
theorem dL_thrown_116 : decode cL_thrown 116 = .ok (.iconst 1, 1) := by decide +kernel
theorem dL_thrown_117 : decode cL_thrown 117 = .ok (.iconst 1, 1) := by decide +kernel
theorem dL_thrown_118 : decode cL_thrown 118 = .ok (.iconst 0, 1) := by decide +kernel
theorem dL_thrown_119 : decode cL_thrown 119 = .ok (.iconst 1, 1) := by decide +kernel
theorem dL_thrown_120 : decode cL_thrown 120 = .ok (.invokestatic 189, 3) := by decide +kernel
theorem dL_thrown_123 : decode cL_thrown 123 = .ok (.sipush (-1001), 3) := by decide +kernel
theorem dL_thrown_126 : decode cL_thrown 126 = .ok (.if_icmp .ne 432, 3) := by decide +kernel
theorem dL_thrown_129 : decode cL_thrown 129 = .ok (.aload_n 0, 1) := by decide +kernel
theorem dL_thrown_130 : decode cL_thrown 130 = .ok (.iconst 1, 1) := by decide +kernel
theorem dL_thrown_131 : decode cL_thrown 131 = .ok (.iconst 1, 1) := by decide +kernel
theorem dL_thrown_132 : decode cL_thrown 132 = .ok (.bipush 31, 2) := by decide +kernel
theorem dL_thrown_134 : decode cL_thrown 134 = .ok (.iconst 1, 1) := by decide +kernel
theorem dL_thrown_135 : decode cL_thrown 135 = .ok (.invokestatic 189, 3) := by decide +kernel
theorem dL_thrown_138 : decode cL_thrown 138 = .ok (.sipush (-1001), 3) := by decide +kernel
theorem dL_thrown_141 : decode cL_thrown 141 = .ok (.if_icmp .ne 417, 3) := by decide +kernel
theorem dL_thrown_144 : decode cL_thrown 144 = .ok (.iload_n 3, 1) := by decide +kernel
theorem dL_thrown_145 : decode cL_thrown 145 = .ok (.bipush 12, 2) := by decide +kernel
theorem dL_thrown_147 : decode cL_thrown 147 = .ok (.if_icmp .lt 17, 3) := by decide +kernel
theorem dL_thrown_150 : decode cL_thrown 150 = .ok (.aload_n 0, 1) := by decide +kernel
theorem dL_thrown_151 : decode cL_thrown 151 = .ok (.iconst 1, 1) := by decide +kernel
theorem dL_thrown_152 : decode cL_thrown 152 = .ok (.iconst 1, 1) := by decide +kernel
theorem dL_thrown_153 : decode cL_thrown 153 = .ok (.iconst 1, 1) := by decide +kernel
theorem dL_thrown_154 : decode cL_thrown 154 = .ok (.iconst 1, 1) := by decide +kernel
theorem dL_thrown_155 : decode cL_thrown 155 = .ok (.invokestatic 189, 3) := by decide +kernel
theorem dL_thrown_158 : decode cL_thrown 158 = .ok (.sipush (-1002), 3) := by decide +kernel
theorem dL_thrown_161 : decode cL_thrown 161 = .ok (.if_icmp .ne 397, 3) := by decide +kernel
theorem dL_thrown_164 : decode cL_thrown 164 = .ok (.aload_n 0, 1) := by decide +kernel
theorem dL_thrown_165 : decode cL_thrown 165 = .ok (.bipush 99, 2) := by decide +kernel
theorem dL_thrown_167 : decode cL_thrown 167 = .ok (.invokestatic 248, 3) := by decide +kernel
theorem dL_thrown_170 : decode cL_thrown 170 = .ok (.sipush (-1001), 3) := by decide +kernel
theorem dL_thrown_173 : decode cL_thrown 173 = .ok (.if_icmp .ne 385, 3) := by decide +kernel
theorem dL_thrown_176 : decode cL_thrown 176 = .ok (.aload_n 0, 1) := by decide +kernel
theorem dL_thrown_177 : decode cL_thrown 177 = .ok (.iconst (-1), 1) := by decide +kernel
theorem dL_thrown_178 : decode cL_thrown 178 = .ok (.invokestatic 248, 3) := by decide +kernel
theorem dL_thrown_181 : decode cL_thrown 181 = .ok (.sipush (-1001), 3) := by decide +kernel
theorem dL_thrown_184 : decode cL_thrown 184 = .ok (.if_icmp .ne 374, 3) := by decide +kernel
theorem dL_thrown_187 : decode cL_thrown 187 = .ok (.aload_n 0, 1) := by decide +kernel
theorem dL_thrown_188 : decode cL_thrown 188 = .ok (.bipush 99, 2) := by decide +kernel
theorem dL_thrown_190 : decode cL_thrown 190 = .ok (.bipush 9, 2) := by decide +kernel
theorem dL_thrown_192 : decode cL_thrown 192 = .ok (.invokestatic 192, 3) := by decide +kernel
theorem dL_thrown_195 : decode cL_thrown 195 = .ok (.sipush (-1001), 3) := by decide +kernel
theorem dL_thrown_198 : decode cL_thrown 198 = .ok (.if_icmp .ne 360, 3) := by decide +kernel
theorem dL_thrown_201 : decode cL_thrown 201 = .ok (.aload_n 0, 1) := by decide +kernel
theorem dL_thrown_202 : decode cL_thrown 202 = .ok (.bipush 99, 2) := by decide +kernel
theorem dL_thrown_204 : decode cL_thrown 204 = .ok (.bipush 9, 2) := by decide +kernel
theorem dL_thrown_206 : decode cL_thrown 206 = .ok (.invokestatic 282, 3) := by decide +kernel
theorem dL_thrown_209 : decode cL_thrown 209 = .ok (.sipush (-1001), 3) := by decide +kernel
theorem dL_thrown_212 : decode cL_thrown 212 = .ok (.if_icmp .ne 346, 3) := by decide +kernel
theorem dL_thrown_215 : decode cL_thrown 215 = .ok (.aload_n 0, 1) := by decide +kernel
theorem dL_thrown_216 : decode cL_thrown 216 = .ok (.bipush 99, 2) := by decide +kernel
theorem dL_thrown_218 : decode cL_thrown 218 = .ok (.invokestatic 250, 3) := by decide +kernel
theorem dL_thrown_221 : decode cL_thrown 221 = .ok (.sipush (-1001), 3) := by decide +kernel
theorem dL_thrown_224 : decode cL_thrown 224 = .ok (.if_icmp .ne 334, 3) := by decide +kernel
theorem dL_thrown_227 : decode cL_thrown 227 = .ok (.aload_n 0, 1) := by decide +kernel
theorem dL_thrown_228 : decode cL_thrown 228 = .ok (.iload 4, 2) := by decide +kernel
theorem dL_thrown_230 : decode cL_thrown 230 = .ok (.invokestatic 195, 3) := by decide +kernel
theorem dL_thrown_233 : decode cL_thrown 233 = .ok (.sipush (-1001), 3) := by decide +kernel
theorem dL_thrown_236 : decode cL_thrown 236 = .ok (.if_icmp .ne 322, 3) := by decide +kernel
theorem dL_thrown_239 : decode cL_thrown 239 = .ok (.aload_n 0, 1) := by decide +kernel
theorem dL_thrown_240 : decode cL_thrown 240 = .ok (.iconst (-1), 1) := by decide +kernel
theorem dL_thrown_241 : decode cL_thrown 241 = .ok (.invokestatic 195, 3) := by decide +kernel
theorem dL_thrown_244 : decode cL_thrown 244 = .ok (.sipush (-1001), 3) := by decide +kernel
theorem dL_thrown_247 : decode cL_thrown 247 = .ok (.if_icmp .ne 311, 3) := by decide +kernel
theorem dL_thrown_250 : decode cL_thrown 250 = .ok (.aload_n 0, 1) := by decide +kernel
theorem dL_thrown_251 : decode cL_thrown 251 = .ok (.bipush 99, 2) := by decide +kernel
theorem dL_thrown_253 : decode cL_thrown 253 = .ok (.invokestatic 238, 3) := by decide +kernel
theorem dL_thrown_256 : decode cL_thrown 256 = .ok (.sipush (-1001), 3) := by decide +kernel
theorem dL_thrown_259 : decode cL_thrown 259 = .ok (.if_icmp .ne 299, 3) := by decide +kernel
theorem dL_thrown_262 : decode cL_thrown 262 = .ok (.aload_n 0, 1) := by decide +kernel
theorem dL_thrown_263 : decode cL_thrown 263 = .ok (.iconst (-1), 1) := by decide +kernel
theorem dL_thrown_264 : decode cL_thrown 264 = .ok (.invokestatic 240, 3) := by decide +kernel
theorem dL_thrown_267 : decode cL_thrown 267 = .ok (.sipush (-1001), 3) := by decide +kernel
theorem dL_thrown_270 : decode cL_thrown 270 = .ok (.if_icmp .ne 288, 3) := by decide +kernel
theorem dL_thrown_273 : decode cL_thrown 273 = .ok (.aload_n 0, 1) := by decide +kernel
theorem dL_thrown_274 : decode cL_thrown 274 = .ok (.bipush 99, 2) := by decide +kernel
theorem dL_thrown_276 : decode cL_thrown 276 = .ok (.invokestatic 242, 3) := by decide +kernel
theorem dL_thrown_279 : decode cL_thrown 279 = .ok (.sipush (-1001), 3) := by decide +kernel
theorem dL_thrown_282 : decode cL_thrown 282 = .ok (.if_icmp .ne 276, 3) := by decide +kernel
theorem dL_thrown_285 : decode cL_thrown 285 = .ok (.aload_n 0, 1) := by decide +kernel
theorem dL_thrown_286 : decode cL_thrown 286 = .ok (.bipush 99, 2) := by decide +kernel
theorem dL_thrown_288 : decode cL_thrown 288 = .ok (.invokestatic 244, 3) := by decide +kernel
theorem dL_thrown_291 : decode cL_thrown 291 = .ok (.sipush (-1001), 3) := by decide +kernel
theorem dL_thrown_294 : decode cL_thrown 294 = .ok (.if_icmp .ne 264, 3) := by decide +kernel
theorem dL_thrown_297 : decode cL_thrown 297 = .ok (.aload_n 0, 1) := by decide +kernel
theorem dL_thrown_298 : decode cL_thrown 298 = .ok (.bipush 99, 2) := by decide +kernel
theorem dL_thrown_300 : decode cL_thrown 300 = .ok (.invokestatic 284, 3) := by decide +kernel
theorem dL_thrown_303 : decode cL_thrown 303 = .ok (.sipush (-1001), 3) := by decide +kernel
theorem dL_thrown_306 : decode cL_thrown 306 = .ok (.if_icmp .ne 252, 3) := by decide +kernel
theorem dL_thrown_309 : decode cL_thrown 309 = .ok (.aload_n 0, 1) := by decide +kernel
theorem dL_thrown_310 : decode cL_thrown 310 = .ok (.bipush 99, 2) := by decide +kernel
theorem dL_thrown_312 : decode cL_thrown 312 = .ok (.invokestatic 246, 3) := by decide +kernel
theorem dL_thrown_315 : decode cL_thrown 315 = .ok (.sipush (-1001), 3) := by decide +kernel
theorem dL_thrown_318 : decode cL_thrown 318 = .ok (.if_icmp .ne 240, 3) := by decide +kernel
theorem dL_thrown_321 : decode cL_thrown 321 = .ok (.aload_n 0, 1) := by decide +kernel
theorem dL_thrown_322 : decode cL_thrown 322 = .ok (.bipush 99, 2) := by decide +kernel
theorem dL_thrown_324 : decode cL_thrown 324 = .ok (.invokestatic 286, 3) := by decide +kernel
theorem dL_thrown_327 : decode cL_thrown 327 = .ok (.sipush (-1001), 3) := by decide +kernel
theorem dL_thrown_330 : decode cL_thrown 330 = .ok (.if_icmp .ne 228, 3) := by decide +kernel
theorem dL_thrown_333 : decode cL_thrown 333 = .ok (.aload_n 0, 1) := by decide +kernel
theorem dL_thrown_334 : decode cL_thrown 334 = .ok (.iload_n 3, 1) := by decide +kernel
theorem dL_thrown_335 : decode cL_thrown 335 = .ok (.invokestatic 236, 3) := by decide +kernel
theorem dL_thrown_338 : decode cL_thrown 338 = .ok (.sipush (-1001), 3) := by decide +kernel
theorem dL_thrown_341 : decode cL_thrown 341 = .ok (.if_icmp .ne 217, 3) := by decide +kernel
theorem dL_thrown_344 : decode cL_thrown 344 = .ok (.aload_n 0, 1) := by decide +kernel
theorem dL_thrown_345 : decode cL_thrown 345 = .ok (.iconst (-1), 1) := by decide +kernel
theorem dL_thrown_346 : decode cL_thrown 346 = .ok (.invokestatic 236, 3) := by decide +kernel
theorem dL_thrown_349 : decode cL_thrown 349 = .ok (.sipush (-1001), 3) := by decide +kernel
theorem dL_thrown_352 : decode cL_thrown 352 = .ok (.if_icmp .ne 206, 3) := by decide +kernel
theorem dL_thrown_355 : decode cL_thrown 355 = .ok (.aload_n 0, 1) := by decide +kernel
theorem dL_thrown_356 : decode cL_thrown 356 = .ok (.iload 4, 2) := by decide +kernel
theorem dL_thrown_358 : decode cL_thrown 358 = .ok (.invokestatic 228, 3) := by decide +kernel
theorem dL_thrown_361 : decode cL_thrown 361 = .ok (.sipush (-1001), 3) := by decide +kernel
theorem dL_thrown_364 : decode cL_thrown 364 = .ok (.if_icmp .ne 194, 3) := by decide +kernel
theorem dL_thrown_367 : decode cL_thrown 367 = .ok (.aload_n 0, 1) := by decide +kernel
theorem dL_thrown_368 : decode cL_thrown 368 = .ok (.iload 4, 2) := by decide +kernel
theorem dL_thrown_370 : decode cL_thrown 370 = .ok (.invokestatic 230, 3) := by decide +kernel
theorem dL_thrown_373 : decode cL_thrown 373 = .ok (.sipush (-1001), 3) := by decide +kernel
theorem dL_thrown_376 : decode cL_thrown 376 = .ok (.if_icmp .ne 182, 3) := by decide +kernel
theorem dL_thrown_379 : decode cL_thrown 379 = .ok (.aload_n 0, 1) := by decide +kernel
theorem dL_thrown_380 : decode cL_thrown 380 = .ok (.iconst (-1), 1) := by decide +kernel
theorem dL_thrown_381 : decode cL_thrown 381 = .ok (.invokestatic 288, 3) := by decide +kernel
theorem dL_thrown_384 : decode cL_thrown 384 = .ok (.sipush (-1001), 3) := by decide +kernel
theorem dL_thrown_387 : decode cL_thrown 387 = .ok (.if_icmp .ne 171, 3) := by decide +kernel
theorem dL_thrown_390 : decode cL_thrown 390 = .ok (.aload_n 0, 1) := by decide +kernel
theorem dL_thrown_391 : decode cL_thrown 391 = .ok (.iload 4, 2) := by decide +kernel
theorem dL_thrown_393 : decode cL_thrown 393 = .ok (.invokestatic 291, 3) := by decide +kernel
theorem dL_thrown_396 : decode cL_thrown 396 = .ok (.sipush (-1001), 3) := by decide +kernel
theorem dL_thrown_399 : decode cL_thrown 399 = .ok (.if_icmp .ne 159, 3) := by decide +kernel
theorem dL_thrown_402 : decode cL_thrown 402 = .ok (.aload_n 0, 1) := by decide +kernel
theorem dL_thrown_403 : decode cL_thrown 403 = .ok (.iload 4, 2) := by decide +kernel
theorem dL_thrown_405 : decode cL_thrown 405 = .ok (.invokestatic 232, 3) := by decide +kernel
theorem dL_thrown_408 : decode cL_thrown 408 = .ok (.sipush (-1001), 3) := by decide +kernel
theorem dL_thrown_411 : decode cL_thrown 411 = .ok (.if_icmp .ne 147, 3) := by decide +kernel
theorem dL_thrown_414 : decode cL_thrown 414 = .ok (.aload_n 0, 1) := by decide +kernel
theorem dL_thrown_415 : decode cL_thrown 415 = .ok (.iload 4, 2) := by decide +kernel
theorem dL_thrown_417 : decode cL_thrown 417 = .ok (.iconst 0, 1) := by decide +kernel
theorem dL_thrown_418 : decode cL_thrown 418 = .ok (.invokestatic 293, 3) := by decide +kernel
theorem dL_thrown_421 : decode cL_thrown 421 = .ok (.sipush (-1001), 3) := by decide +kernel
theorem dL_thrown_424 : decode cL_thrown 424 = .ok (.if_icmp .ne 134, 3) := by decide +kernel
theorem dL_thrown_427 : decode cL_thrown 427 = .ok (.aload_n 0, 1) := by decide +kernel
theorem dL_thrown_428 : decode cL_thrown 428 = .ok (.iconst (-1), 1) := by decide +kernel
theorem dL_thrown_429 : decode cL_thrown 429 = .ok (.iconst 0, 1) := by decide +kernel
theorem dL_thrown_430 : decode cL_thrown 430 = .ok (.iconst 0, 1) := by decide +kernel
theorem dL_thrown_431 : decode cL_thrown 431 = .ok (.invokestatic 295, 3) := by decide +kernel
theorem dL_thrown_434 : decode cL_thrown 434 = .ok (.sipush (-1001), 3) := by decide +kernel
theorem dL_thrown_437 : decode cL_thrown 437 = .ok (.if_icmp .ne 121, 3) := by decide +kernel
theorem dL_thrown_440 : decode cL_thrown 440 = .ok (.aload_n 0, 1) := by decide +kernel
theorem dL_thrown_441 : decode cL_thrown 441 = .ok (.iload 4, 2) := by decide +kernel
theorem dL_thrown_443 : decode cL_thrown 443 = .ok (.iconst 0, 1) := by decide +kernel
theorem dL_thrown_444 : decode cL_thrown 444 = .ok (.invokestatic 298, 3) := by decide +kernel
theorem dL_thrown_447 : decode cL_thrown 447 = .ok (.sipush (-1001), 3) := by decide +kernel
theorem dL_thrown_450 : decode cL_thrown 450 = .ok (.if_icmp .ne 108, 3) := by decide +kernel
theorem dL_thrown_453 : decode cL_thrown 453 = .ok (.aload_n 0, 1) := by decide +kernel
theorem dL_thrown_454 : decode cL_thrown 454 = .ok (.iload 4, 2) := by decide +kernel
theorem dL_thrown_456 : decode cL_thrown 456 = .ok (.iconst 0, 1) := by decide +kernel
theorem dL_thrown_457 : decode cL_thrown 457 = .ok (.invokestatic 300, 3) := by decide +kernel
theorem dL_thrown_460 : decode cL_thrown 460 = .ok (.sipush (-1001), 3) := by decide +kernel
theorem dL_thrown_463 : decode cL_thrown 463 = .ok (.if_icmp .ne 95, 3) := by decide +kernel
theorem dL_thrown_466 : decode cL_thrown 466 = .ok (.aload_n 0, 1) := by decide +kernel
theorem dL_thrown_467 : decode cL_thrown 467 = .ok (.iload 4, 2) := by decide +kernel
theorem dL_thrown_469 : decode cL_thrown 469 = .ok (.invokestatic 234, 3) := by decide +kernel
theorem dL_thrown_472 : decode cL_thrown 472 = .ok (.sipush (-1001), 3) := by decide +kernel
theorem dL_thrown_475 : decode cL_thrown 475 = .ok (.if_icmp .ne 83, 3) := by decide +kernel
theorem dL_thrown_478 : decode cL_thrown 478 = .ok (.aload_n 0, 1) := by decide +kernel
theorem dL_thrown_479 : decode cL_thrown 479 = .ok (.iconst (-1), 1) := by decide +kernel
theorem dL_thrown_480 : decode cL_thrown 480 = .ok (.invokestatic 302, 3) := by decide +kernel
theorem dL_thrown_483 : decode cL_thrown 483 = .ok (.sipush (-1001), 3) := by decide +kernel
theorem dL_thrown_486 : decode cL_thrown 486 = .ok (.if_icmp .ne 72, 3) := by decide +kernel
theorem dL_thrown_489 : decode cL_thrown 489 = .ok (.aload_n 0, 1) := by decide +kernel
theorem dL_thrown_490 : decode cL_thrown 490 = .ok (.iload 4, 2) := by decide +kernel
theorem dL_thrown_492 : decode cL_thrown 492 = .ok (.invokestatic 175, 3) := by decide +kernel
theorem dL_thrown_495 : decode cL_thrown 495 = .ok (.sipush (-1001), 3) := by decide +kernel
theorem dL_thrown_498 : decode cL_thrown 498 = .ok (.if_icmp .ne 60, 3) := by decide +kernel
theorem dL_thrown_501 : decode cL_thrown 501 = .ok (.aload_n 0, 1) := by decide +kernel
theorem dL_thrown_502 : decode cL_thrown 502 = .ok (.iconst (-1), 1) := by decide +kernel
theorem dL_thrown_503 : decode cL_thrown 503 = .ok (.invokestatic 178, 3) := by decide +kernel
theorem dL_thrown_506 : decode cL_thrown 506 = .ok (.sipush (-1001), 3) := by decide +kernel
theorem dL_thrown_509 : decode cL_thrown 509 = .ok (.if_icmp .ne 49, 3) := by decide +kernel
theorem dL_thrown_512 : decode cL_thrown 512 = .ok (.aload_n 0, 1) := by decide +kernel
theorem dL_thrown_513 : decode cL_thrown 513 = .ok (.bipush 90, 2) := by decide +kernel
theorem dL_thrown_515 : decode cL_thrown 515 = .ok (.invokestatic 178, 3) := by decide +kernel
theorem dL_thrown_518 : decode cL_thrown 518 = .ok (.sipush (-1001), 3) := by decide +kernel
theorem dL_thrown_521 : decode cL_thrown 521 = .ok (.if_icmp .ne 37, 3) := by decide +kernel
theorem dL_thrown_524 : decode cL_thrown 524 = .ok (.aload_n 0, 1) := by decide +kernel
theorem dL_thrown_525 : decode cL_thrown 525 = .ok (.sipush 200, 3) := by decide +kernel
theorem dL_thrown_528 : decode cL_thrown 528 = .ok (.invokestatic 161, 3) := by decide +kernel
theorem dL_thrown_531 : decode cL_thrown 531 = .ok (.sipush (-1001), 3) := by decide +kernel
theorem dL_thrown_534 : decode cL_thrown 534 = .ok (.if_icmp .ne 24, 3) := by decide +kernel
theorem dL_thrown_537 : decode cL_thrown 537 = .ok (.aload_n 0, 1) := by decide +kernel
theorem dL_thrown_538 : decode cL_thrown 538 = .ok (.invokestatic 220, 3) := by decide +kernel
theorem dL_thrown_541 : decode cL_thrown 541 = .ok (.ifCond .gt 13, 3) := by decide +kernel
theorem dL_thrown_544 : decode cL_thrown 544 = .ok (.aload_n 0, 1) := by decide +kernel
theorem dL_thrown_545 : decode cL_thrown 545 = .ok (.invokestatic 276, 3) := by decide +kernel
theorem dL_thrown_548 : decode cL_thrown 548 = .ok (.sipush (-1001), 3) := by decide +kernel
theorem dL_thrown_551 : decode cL_thrown 551 = .ok (.if_icmp .ne 7, 3) := by decide +kernel
theorem dL_thrown_554 : decode cL_thrown 554 = .ok (.iconst 1, 1) := by decide +kernel
theorem dL_thrown_555 : decode cL_thrown 555 = .ok (.goto 4, 3) := by decide +kernel
theorem dL_thrown_558 : decode cL_thrown 558 = .ok (.iconst 0, 1) := by decide +kernel
theorem dL_thrown_559 : decode cL_thrown 559 = .ok (.istore 5, 2) := by decide +kernel
theorem dL_thrown_561 : decode cL_thrown 561 = .ok (.iconst 0, 1) := by decide +kernel
theorem dL_thrown_562 : decode cL_thrown 562 = .ok (.istore 6, 2) := by decide +kernel
theorem dL_thrown_564 : decode cL_thrown 564 = .ok (.iload 6, 2) := by decide +kernel
theorem dL_thrown_566 : decode cL_thrown 566 = .ok (.iload 4, 2) := by decide +kernel
theorem dL_thrown_568 : decode cL_thrown 568 = .ok (.if_icmp .ge 144, 3) := by decide +kernel
theorem dL_thrown_571 : decode cL_thrown 571 = .ok (.aload_n 0, 1) := by decide +kernel
theorem dL_thrown_572 : decode cL_thrown 572 = .ok (.iload 6, 2) := by decide +kernel
theorem dL_thrown_574 : decode cL_thrown 574 = .ok (.invokestatic 232, 3) := by decide +kernel
theorem dL_thrown_577 : decode cL_thrown 577 = .ok (.istore 7, 2) := by decide +kernel
theorem dL_thrown_579 : decode cL_thrown 579 = .ok (.iload 5, 2) := by decide +kernel
theorem dL_thrown_581 : decode cL_thrown 581 = .ok (.ifCond .eq 76, 3) := by decide +kernel
theorem dL_thrown_584 : decode cL_thrown 584 = .ok (.aload_n 0, 1) := by decide +kernel
theorem dL_thrown_585 : decode cL_thrown 585 = .ok (.iload 6, 2) := by decide +kernel
theorem dL_thrown_587 : decode cL_thrown 587 = .ok (.iload 7, 2) := by decide +kernel
theorem dL_thrown_589 : decode cL_thrown 589 = .ok (.invokestatic 293, 3) := by decide +kernel
theorem dL_thrown_592 : decode cL_thrown 592 = .ok (.sipush (-1001), 3) := by decide +kernel
theorem dL_thrown_595 : decode cL_thrown 595 = .ok (.if_icmp .ne 62, 3) := by decide +kernel
theorem dL_thrown_598 : decode cL_thrown 598 = .ok (.aload_n 0, 1) := by decide +kernel
theorem dL_thrown_599 : decode cL_thrown 599 = .ok (.iload 6, 2) := by decide +kernel
theorem dL_thrown_601 : decode cL_thrown 601 = .ok (.iconst (-1), 1) := by decide +kernel
theorem dL_thrown_602 : decode cL_thrown 602 = .ok (.invokestatic 293, 3) := by decide +kernel
theorem dL_thrown_605 : decode cL_thrown 605 = .ok (.sipush (-1001), 3) := by decide +kernel
theorem dL_thrown_608 : decode cL_thrown 608 = .ok (.if_icmp .ne 49, 3) := by decide +kernel
theorem dL_thrown_611 : decode cL_thrown 611 = .ok (.aload_n 0, 1) := by decide +kernel
theorem dL_thrown_612 : decode cL_thrown 612 = .ok (.iload 6, 2) := by decide +kernel
theorem dL_thrown_614 : decode cL_thrown 614 = .ok (.iload 7, 2) := by decide +kernel
theorem dL_thrown_616 : decode cL_thrown 616 = .ok (.iconst 0, 1) := by decide +kernel
theorem dL_thrown_617 : decode cL_thrown 617 = .ok (.invokestatic 295, 3) := by decide +kernel
theorem dL_thrown_620 : decode cL_thrown 620 = .ok (.sipush (-1001), 3) := by decide +kernel
theorem dL_thrown_623 : decode cL_thrown 623 = .ok (.if_icmp .ne 34, 3) := by decide +kernel
theorem dL_thrown_626 : decode cL_thrown 626 = .ok (.aload_n 0, 1) := by decide +kernel
theorem dL_thrown_627 : decode cL_thrown 627 = .ok (.iload 6, 2) := by decide +kernel
theorem dL_thrown_629 : decode cL_thrown 629 = .ok (.iload 7, 2) := by decide +kernel
theorem dL_thrown_631 : decode cL_thrown 631 = .ok (.invokestatic 298, 3) := by decide +kernel
theorem dL_thrown_634 : decode cL_thrown 634 = .ok (.sipush (-1001), 3) := by decide +kernel
theorem dL_thrown_637 : decode cL_thrown 637 = .ok (.if_icmp .ne 20, 3) := by decide +kernel
theorem dL_thrown_640 : decode cL_thrown 640 = .ok (.aload_n 0, 1) := by decide +kernel
theorem dL_thrown_641 : decode cL_thrown 641 = .ok (.iload 6, 2) := by decide +kernel
theorem dL_thrown_643 : decode cL_thrown 643 = .ok (.iconst (-1), 1) := by decide +kernel
theorem dL_thrown_644 : decode cL_thrown 644 = .ok (.invokestatic 300, 3) := by decide +kernel
theorem dL_thrown_647 : decode cL_thrown 647 = .ok (.sipush (-1001), 3) := by decide +kernel
theorem dL_thrown_650 : decode cL_thrown 650 = .ok (.if_icmp .ne 7, 3) := by decide +kernel
theorem dL_thrown_653 : decode cL_thrown 653 = .ok (.iconst 1, 1) := by decide +kernel
theorem dL_thrown_654 : decode cL_thrown 654 = .ok (.goto 4, 3) := by decide +kernel
theorem dL_thrown_657 : decode cL_thrown 657 = .ok (.iconst 0, 1) := by decide +kernel
theorem dL_thrown_658 : decode cL_thrown 658 = .ok (.istore 5, 2) := by decide +kernel
theorem dL_thrown_660 : decode cL_thrown 660 = .ok (.iload 7, 2) := by decide +kernel
theorem dL_thrown_662 : decode cL_thrown 662 = .ok (.ifCond .le 44, 3) := by decide +kernel
theorem dL_thrown_665 : decode cL_thrown 665 = .ok (.iload 5, 2) := by decide +kernel
theorem dL_thrown_667 : decode cL_thrown 667 = .ok (.ifCond .eq 36, 3) := by decide +kernel
theorem dL_thrown_670 : decode cL_thrown 670 = .ok (.aload_n 0, 1) := by decide +kernel
theorem dL_thrown_671 : decode cL_thrown 671 = .ok (.iload 6, 2) := by decide +kernel
theorem dL_thrown_673 : decode cL_thrown 673 = .ok (.iconst 0, 1) := by decide +kernel
theorem dL_thrown_674 : decode cL_thrown 674 = .ok (.iconst (-1), 1) := by decide +kernel
theorem dL_thrown_675 : decode cL_thrown 675 = .ok (.invokestatic 295, 3) := by decide +kernel
theorem dL_thrown_678 : decode cL_thrown 678 = .ok (.sipush (-1002), 3) := by decide +kernel
theorem dL_thrown_681 : decode cL_thrown 681 = .ok (.if_icmp .ne 22, 3) := by decide +kernel
theorem dL_thrown_684 : decode cL_thrown 684 = .ok (.aload_n 0, 1) := by decide +kernel
theorem dL_thrown_685 : decode cL_thrown 685 = .ok (.iload 6, 2) := by decide +kernel
theorem dL_thrown_687 : decode cL_thrown 687 = .ok (.iconst 0, 1) := by decide +kernel
theorem dL_thrown_688 : decode cL_thrown 688 = .ok (.bipush 10, 2) := by decide +kernel
theorem dL_thrown_690 : decode cL_thrown 690 = .ok (.invokestatic 295, 3) := by decide +kernel
theorem dL_thrown_693 : decode cL_thrown 693 = .ok (.sipush (-1002), 3) := by decide +kernel
theorem dL_thrown_696 : decode cL_thrown 696 = .ok (.if_icmp .ne 7, 3) := by decide +kernel
theorem dL_thrown_699 : decode cL_thrown 699 = .ok (.iconst 1, 1) := by decide +kernel
theorem dL_thrown_700 : decode cL_thrown 700 = .ok (.goto 4, 3) := by decide +kernel
theorem dL_thrown_703 : decode cL_thrown 703 = .ok (.iconst 0, 1) := by decide +kernel
theorem dL_thrown_704 : decode cL_thrown 704 = .ok (.istore 5, 2) := by decide +kernel
theorem dL_thrown_706 : decode cL_thrown 706 = .ok (.iinc 6 1, 3) := by decide +kernel
theorem dL_thrown_709 : decode cL_thrown 709 = .ok (.goto (-145), 3) := by decide +kernel
theorem dL_thrown_712 : decode cL_thrown 712 = .ok (.iconst 0, 1) := by decide +kernel
theorem dL_thrown_713 : decode cL_thrown 713 = .ok (.istore 6, 2) := by decide +kernel
theorem dL_thrown_715 : decode cL_thrown 715 = .ok (.iload 6, 2) := by decide +kernel
theorem dL_thrown_717 : decode cL_thrown 717 = .ok (.iload_n 3, 1) := by decide +kernel
theorem dL_thrown_718 : decode cL_thrown 718 = .ok (.if_icmp .ge 326, 3) := by decide +kernel
theorem dL_thrown_721 : decode cL_thrown 721 = .ok (.aload_n 0, 1) := by decide +kernel
theorem dL_thrown_722 : decode cL_thrown 722 = .ok (.iload 6, 2) := by decide +kernel
theorem dL_thrown_724 : decode cL_thrown 724 = .ok (.invokestatic 236, 3) := by decide +kernel
