theorem dConversions_isTowardsZero_0 : decode cConversions_isTowardsZero 0 = .ok (.iload_n 0, 1) := by decide +kernel
theorem dConversions_isTowardsZero_1 : decode cConversions_isTowardsZero 1 = .ok (.sipush 167, 3) := by decide +kernel
theorem dConversions_isTowardsZero_4 : decode cConversions_isTowardsZero 4 = .ok (.if_icmp .le 10, 3) := by decide +kernel
theorem dConversions_isTowardsZero_7 : decode cConversions_isTowardsZero 7 = .ok (.iload_n 0, 1) := by decide +kernel
theorem dConversions_isTowardsZero_8 : decode cConversions_isTowardsZero 8 = .ok (.sipush 172, 3) := by decide +kernel
theorem dConversions_isTowardsZero_11 : decode cConversions_isTowardsZero 11 = .ok (.if_icmp .lt 24, 3) := by decide +kernel
theorem dConversions_isTowardsZero_14 : decode cConversions_isTowardsZero 14 = .ok (.iload_n 0, 1) := by decide +kernel
theorem dConversions_isTowardsZero_15 : decode cConversions_isTowardsZero 15 = .ok (.sipush 173, 3) := by decide +kernel
theorem dConversions_isTowardsZero_18 : decode cConversions_isTowardsZero 18 = .ok (.if_icmp .le 10, 3) := by decide +kernel
theorem dConversions_isTowardsZero_21 : decode cConversions_isTowardsZero 21 = .ok (.iload_n 0, 1) := by decide +kernel
theorem dConversions_isTowardsZero_22 : decode cConversions_isTowardsZero 22 = .ok (.sipush 178, 3) := by decide +kernel
theorem dConversions_isTowardsZero_25 : decode cConversions_isTowardsZero 25 = .ok (.if_icmp .lt 10, 3) := by decide +kernel
theorem dConversions_isTowardsZero_28 : decode cConversions_isTowardsZero 28 = .ok (.iload_n 0, 1) := by decide +kernel
theorem dConversions_isTowardsZero_29 : decode cConversions_isTowardsZero 29 = .ok (.sipush 200, 3) := by decide +kernel
theorem dConversions_isTowardsZero_32 : decode cConversions_isTowardsZero 32 = .ok (.if_icmp .lt 7, 3) := by decide +kernel
theorem dConversions_isTowardsZero_35 : decode cConversions_isTowardsZero 35 = .ok (.iconst 1, 1) := by decide +kernel
theorem dConversions_isTowardsZero_36 : decode cConversions_isTowardsZero 36 = .ok (.goto 4, 3) := by decide +kernel
theorem dConversions_isTowardsZero_39 : decode cConversions_isTowardsZero 39 = .ok (.iconst 0, 1) := by decide +kernel
theorem dConversions_isTowardsZero_40 : decode cConversions_isTowardsZero 40 = .ok (.ireturn, 1) := by decide +kernel
theorem dFormat_isNone_0 : decode cFormat_isNone 0 = .ok (.lload_n 1, 1) := by decide +kernel
theorem dFormat_isNone_1 : decode cFormat_isNone 1 = .ok (.aload_n 0, 1) := by decide +kernel
theorem dFormat_isNone_2 : decode cFormat_isNone 2 = .ok (.getfield 41, 3) := by decide +kernel
theorem dFormat_isNone_5 : decode cFormat_isNone 5 = .ok (.ldc2_w 56, 3) := by decide +kernel
theorem dFormat_isNone_8 : decode cFormat_isNone 8 = .ok (.lxor, 1) := by decide +kernel
theorem dFormat_isNone_9 : decode cFormat_isNone 9 = .ok (.land, 1) := by decide +kernel
theorem dFormat_isNone_10 : decode cFormat_isNone 10 = .ok (.aload_n 0, 1) := by decide +kernel
theorem dFormat_isNone_11 : decode cFormat_isNone 11 = .ok (.getfield 50, 3) := by decide +kernel
theorem dFormat_isNone_14 : decode cFormat_isNone 14 = .ok (.lcmp, 1) := by decide +kernel
theorem dFormat_isNone_15 : decode cFormat_isNone 15 = .ok (.ifCond .le 7, 3) := by decide +kernel
theorem dFormat_isNone_18 : decode cFormat_isNone 18 = .ok (.iconst 1, 1) := by decide +kernel
theorem dFormat_isNone_19 : decode cFormat_isNone 19 = .ok (.goto 4, 3) := by decide +kernel
theorem dFormat_isNone_22 : decode cFormat_isNone 22 = .ok (.iconst 0, 1) := by decide +kernel
theorem dFormat_isNone_23 : decode cFormat_isNone 23 = .ok (.ireturn, 1) := by decide +kernel
theorem dConversions_isSigned_0 : decode cConversions_isSigned 0 = .ok (.iload_n 0, 1) := by decide +kernel
theorem dConversions_isSigned_1 : decode cConversions_isSigned 1 = .ok (.iconst 2, 1) := by decide +kernel
theorem dConversions_isSigned_2 : decode cConversions_isSigned 2 = .ok (.irem, 1) := by decide +kernel
theorem dConversions_isSigned_3 : decode cConversions_isSigned 3 = .ok (.ifCond .ne 7, 3) := by decide +kernel
theorem dConversions_isSigned_6 : decode cConversions_isSigned 6 = .ok (.iconst 1, 1) := by decide +kernel
theorem dConversions_isSigned_7 : decode cConversions_isSigned 7 = .ok (.goto 4, 3) := by decide +kernel
theorem dConversions_isSigned_10 : decode cConversions_isSigned 10 = .ok (.iconst 0, 1) := by decide +kernel
theorem dConversions_isSigned_11 : decode cConversions_isSigned 11 = .ok (.istore_n 1, 1) := by decide +kernel
theorem dConversions_isSigned_12 : decode cConversions_isSigned 12 = .ok (.iload_n 0, 1) := by decide +kernel
theorem dConversions_isSigned_13 : decode cConversions_isSigned 13 = .ok (.sipush 182, 3) := by decide +kernel
theorem dConversions_isSigned_16 : decode cConversions_isSigned 16 = .ok (.if_icmp .le 22, 3) := by decide +kernel
theorem dConversions_isSigned_19 : decode cConversions_isSigned 19 = .ok (.iload_n 0, 1) := by decide +kernel
theorem dConversions_isSigned_20 : decode cConversions_isSigned 20 = .ok (.sipush 187, 3) := by decide +kernel
theorem dConversions_isSigned_23 : decode cConversions_isSigned 23 = .ok (.if_icmp .ge 15, 3) := by decide +kernel
theorem dConversions_isSigned_26 : decode cConversions_isSigned 26 = .ok (.iload_n 1, 1) := by decide +kernel
theorem dConversions_isSigned_27 : decode cConversions_isSigned 27 = .ok (.ifCond .ne 7, 3) := by decide +kernel
theorem dConversions_isSigned_30 : decode cConversions_isSigned 30 = .ok (.iconst 1, 1) := by decide +kernel
theorem dConversions_isSigned_31 : decode cConversions_isSigned 31 = .ok (.goto 8, 3) := by decide +kernel
theorem dConversions_isSigned_34 : decode cConversions_isSigned 34 = .ok (.iconst 0, 1) := by decide +kernel
theorem dConversions_isSigned_35 : decode cConversions_isSigned 35 = .ok (.goto 4, 3) := by decide +kernel
theorem dConversions_isSigned_38 : decode cConversions_isSigned 38 = .ok (.iload_n 1, 1) := by decide +kernel
theorem dConversions_isSigned_39 : decode cConversions_isSigned 39 = .ok (.ireturn, 1) := by decide +kernel
theorem dFormat_isNegative_0 : decode cFormat_isNegative 0 = .ok (.lload_n 1, 1) := by decide +kernel
theorem dFormat_isNegative_1 : decode cFormat_isNegative 1 = .ok (.aload_n 0, 1) := by decide +kernel
theorem dFormat_isNegative_2 : decode cFormat_isNegative 2 = .ok (.getfield 41, 3) := by decide +kernel
theorem dFormat_isNegative_5 : decode cFormat_isNegative 5 = .ok (.land, 1) := by decide +kernel
theorem dFormat_isNegative_6 : decode cFormat_isNegative 6 = .ok (.lconst 0, 1) := by decide +kernel
theorem dFormat_isNegative_7 : decode cFormat_isNegative 7 = .ok (.lcmp, 1) := by decide +kernel
theorem dFormat_isNegative_8 : decode cFormat_isNegative 8 = .ok (.ifCond .eq 7, 3) := by decide +kernel
theorem dFormat_isNegative_11 : decode cFormat_isNegative 11 = .ok (.iconst 1, 1) := by decide +kernel
theorem dFormat_isNegative_12 : decode cFormat_isNegative 12 = .ok (.goto 4, 3) := by decide +kernel
theorem dFormat_isNegative_15 : decode cFormat_isNegative 15 = .ok (.iconst 0, 1) := by decide +kernel
theorem dFormat_isNegative_16 : decode cFormat_isNegative 16 = .ok (.ireturn, 1) := by decide +kernel
theorem dWhole_width_0 : decode cWhole_width 0 = .ok (.iload_n 0, 1) := by decide +kernel
theorem dWhole_width_1 : decode cWhole_width 1 = .ok (.ifCond .ne 8, 3) := by decide +kernel
theorem dWhole_width_4 : decode cWhole_width 4 = .ok (.bipush 32, 2) := by decide +kernel
theorem dWhole_width_6 : decode cWhole_width 6 = .ok (.goto 5, 3) := by decide +kernel
theorem dWhole_width_9 : decode cWhole_width 9 = .ok (.bipush 64, 2) := by decide +kernel
theorem dWhole_width_11 : decode cWhole_width 11 = .ok (.ireturn, 1) := by decide +kernel
theorem dWhole_greatest_0 : decode cWhole_greatest 0 = .ok (.ldc2_w 11, 3) := by decide +kernel
theorem dWhole_greatest_3 : decode cWhole_greatest 3 = .ok (.bipush 64, 2) := by decide +kernel
theorem dWhole_greatest_5 : decode cWhole_greatest 5 = .ok (.iload_n 0, 1) := by decide +kernel
theorem dWhole_greatest_6 : decode cWhole_greatest 6 = .ok (.invokestatic 13, 3) := by decide +kernel
theorem dWhole_greatest_9 : decode cWhole_greatest 9 = .ok (.isub, 1) := by decide +kernel
theorem dWhole_greatest_10 : decode cWhole_greatest 10 = .ok (.iload_n 1, 1) := by decide +kernel
theorem dWhole_greatest_11 : decode cWhole_greatest 11 = .ok (.ifCond .eq 7, 3) := by decide +kernel
theorem dWhole_greatest_14 : decode cWhole_greatest 14 = .ok (.iconst 1, 1) := by decide +kernel
theorem dWhole_greatest_15 : decode cWhole_greatest 15 = .ok (.goto 4, 3) := by decide +kernel
theorem dWhole_greatest_18 : decode cWhole_greatest 18 = .ok (.iconst 0, 1) := by decide +kernel
theorem dWhole_greatest_19 : decode cWhole_greatest 19 = .ok (.iadd, 1) := by decide +kernel
theorem dWhole_greatest_20 : decode cWhole_greatest 20 = .ok (.lushr, 1) := by decide +kernel
theorem dWhole_greatest_21 : decode cWhole_greatest 21 = .ok (.lreturn, 1) := by decide +kernel
theorem dConversions_limit_0 : decode cConversions_limit 0 = .ok (.aload_n 0, 1) := by decide +kernel
theorem dConversions_limit_1 : decode cConversions_limit 1 = .ok (.lload_n 1, 1) := by decide +kernel
theorem dConversions_limit_2 : decode cConversions_limit 2 = .ok (.invokevirtual 70, 3) := by decide +kernel
theorem dConversions_limit_5 : decode cConversions_limit 5 = .ok (.ifCond .ne 10, 3) := by decide +kernel
theorem dConversions_limit_8 : decode cConversions_limit 8 = .ok (.iload_n 3, 1) := by decide +kernel
theorem dConversions_limit_9 : decode cConversions_limit 9 = .ok (.iload 4, 2) := by decide +kernel
theorem dConversions_limit_11 : decode cConversions_limit 11 = .ok (.invokestatic 92, 3) := by decide +kernel
theorem dConversions_limit_14 : decode cConversions_limit 14 = .ok (.lreturn, 1) := by decide +kernel
theorem dConversions_limit_15 : decode cConversions_limit 15 = .ok (.iload 4, 2) := by decide +kernel
theorem dConversions_limit_17 : decode cConversions_limit 17 = .ok (.ifCond .eq 13, 3) := by decide +kernel
theorem dConversions_limit_20 : decode cConversions_limit 20 = .ok (.iload_n 3, 1) := by decide +kernel
theorem dConversions_limit_21 : decode cConversions_limit 21 = .ok (.iconst 1, 1) := by decide +kernel
theorem dConversions_limit_22 : decode cConversions_limit 22 = .ok (.invokestatic 92, 3) := by decide +kernel
theorem dConversions_limit_25 : decode cConversions_limit 25 = .ok (.lconst 1, 1) := by decide +kernel
theorem dConversions_limit_26 : decode cConversions_limit 26 = .ok (.ladd, 1) := by decide +kernel
theorem dConversions_limit_27 : decode cConversions_limit 27 = .ok (.goto 4, 3) := by decide +kernel
theorem dConversions_limit_30 : decode cConversions_limit 30 = .ok (.lconst 0, 1) := by decide +kernel
theorem dConversions_limit_31 : decode cConversions_limit 31 = .ok (.lreturn, 1) := by decide +kernel
theorem dFormat_exponent_0 : decode cFormat_exponent 0 = .ok (.lload_n 1, 1) := by decide +kernel
theorem dFormat_exponent_1 : decode cFormat_exponent 1 = .ok (.aload_n 0, 1) := by decide +kernel
theorem dFormat_exponent_2 : decode cFormat_exponent 2 = .ok (.getfield 31, 3) := by decide +kernel
theorem dFormat_exponent_5 : decode cFormat_exponent 5 = .ok (.iconst 1, 1) := by decide +kernel
theorem dFormat_exponent_6 : decode cFormat_exponent 6 = .ok (.isub, 1) := by decide +kernel
theorem dFormat_exponent_7 : decode cFormat_exponent 7 = .ok (.lushr, 1) := by decide +kernel
theorem dFormat_exponent_8 : decode cFormat_exponent 8 = .ok (.l2i, 1) := by decide +kernel
theorem dFormat_exponent_9 : decode cFormat_exponent 9 = .ok (.aload_n 0, 1) := by decide +kernel
theorem dFormat_exponent_10 : decode cFormat_exponent 10 = .ok (.getfield 35, 3) := by decide +kernel
theorem dFormat_exponent_13 : decode cFormat_exponent 13 = .ok (.iand, 1) := by decide +kernel
theorem dFormat_exponent_14 : decode cFormat_exponent 14 = .ok (.ireturn, 1) := by decide +kernel
theorem dFormat_significand_0 : decode cFormat_significand 0 = .ok (.lload_n 1, 1) := by decide +kernel
theorem dFormat_significand_1 : decode cFormat_significand 1 = .ok (.aload_n 0, 1) := by decide +kernel
theorem dFormat_significand_2 : decode cFormat_significand 2 = .ok (.getfield 45, 3) := by decide +kernel
theorem dFormat_significand_5 : decode cFormat_significand 5 = .ok (.lconst 1, 1) := by decide +kernel
theorem dFormat_significand_6 : decode cFormat_significand 6 = .ok (.lsub, 1) := by decide +kernel
theorem dFormat_significand_7 : decode cFormat_significand 7 = .ok (.land, 1) := by decide +kernel
theorem dFormat_significand_8 : decode cFormat_significand 8 = .ok (.lstore_n 3, 1) := by decide +kernel
theorem dFormat_significand_9 : decode cFormat_significand 9 = .ok (.aload_n 0, 1) := by decide +kernel
theorem dFormat_significand_10 : decode cFormat_significand 10 = .ok (.lload_n 1, 1) := by decide +kernel
theorem dFormat_significand_11 : decode cFormat_significand 11 = .ok (.invokevirtual 68, 3) := by decide +kernel
theorem dFormat_significand_14 : decode cFormat_significand 14 = .ok (.ifCond .ne 7, 3) := by decide +kernel
theorem dFormat_significand_17 : decode cFormat_significand 17 = .ok (.lload_n 3, 1) := by decide +kernel
theorem dFormat_significand_18 : decode cFormat_significand 18 = .ok (.goto 9, 3) := by decide +kernel
theorem dFormat_significand_21 : decode cFormat_significand 21 = .ok (.aload_n 0, 1) := by decide +kernel
theorem dFormat_significand_22 : decode cFormat_significand 22 = .ok (.getfield 45, 3) := by decide +kernel
theorem dFormat_significand_25 : decode cFormat_significand 25 = .ok (.lload_n 3, 1) := by decide +kernel
theorem dFormat_significand_26 : decode cFormat_significand 26 = .ok (.lor, 1) := by decide +kernel
theorem dFormat_significand_27 : decode cFormat_significand 27 = .ok (.lreturn, 1) := by decide +kernel
theorem dMath_max_0 : decode cMath_max 0 = .ok (.iload_n 0, 1) := by decide +kernel
theorem dMath_max_1 : decode cMath_max 1 = .ok (.iload_n 1, 1) := by decide +kernel
theorem dMath_max_2 : decode cMath_max 2 = .ok (.if_icmp .lt 7, 3) := by decide +kernel
theorem dMath_max_5 : decode cMath_max 5 = .ok (.iload_n 0, 1) := by decide +kernel
theorem dMath_max_6 : decode cMath_max 6 = .ok (.goto 4, 3) := by decide +kernel
theorem dMath_max_9 : decode cMath_max 9 = .ok (.iload_n 1, 1) := by decide +kernel
theorem dMath_max_10 : decode cMath_max 10 = .ok (.ireturn, 1) := by decide +kernel
theorem dFormat_scale_0 : decode cFormat_scale 0 = .ok (.aload_n 0, 1) := by decide +kernel
theorem dFormat_scale_1 : decode cFormat_scale 1 = .ok (.getfield 38, 3) := by decide +kernel
theorem dFormat_scale_4 : decode cFormat_scale 4 = .ok (.aload_n 0, 1) := by decide +kernel
theorem dFormat_scale_5 : decode cFormat_scale 5 = .ok (.lload_n 1, 1) := by decide +kernel
theorem dFormat_scale_6 : decode cFormat_scale 6 = .ok (.invokevirtual 68, 3) := by decide +kernel
theorem dFormat_scale_9 : decode cFormat_scale 9 = .ok (.iconst 1, 1) := by decide +kernel
theorem dFormat_scale_10 : decode cFormat_scale 10 = .ok (.invokestatic 72, 3) := by decide +kernel
theorem dFormat_scale_13 : decode cFormat_scale 13 = .ok (.iadd, 1) := by decide +kernel
theorem dFormat_scale_14 : decode cFormat_scale 14 = .ok (.iconst 1, 1) := by decide +kernel
theorem dFormat_scale_15 : decode cFormat_scale 15 = .ok (.isub, 1) := by decide +kernel
theorem dFormat_scale_16 : decode cFormat_scale 16 = .ok (.ireturn, 1) := by decide +kernel
theorem dLong_bitCount_0 : decode cLong_bitCount 0 = .ok (.lload_n 0, 1) := by decide +kernel
theorem dLong_bitCount_1 : decode cLong_bitCount 1 = .ok (.lload_n 0, 1) := by decide +kernel
theorem dLong_bitCount_2 : decode cLong_bitCount 2 = .ok (.iconst 1, 1) := by decide +kernel
theorem dLong_bitCount_3 : decode cLong_bitCount 3 = .ok (.lushr, 1) := by decide +kernel
theorem dLong_bitCount_4 : decode cLong_bitCount 4 = .ok (.ldc2_w 314, 3) := by decide +kernel
theorem dLong_bitCount_7 : decode cLong_bitCount 7 = .ok (.land, 1) := by decide +kernel
theorem dLong_bitCount_8 : decode cLong_bitCount 8 = .ok (.lsub, 1) := by decide +kernel
theorem dLong_bitCount_9 : decode cLong_bitCount 9 = .ok (.lstore_n 0, 1) := by decide +kernel
theorem dLong_bitCount_10 : decode cLong_bitCount 10 = .ok (.lload_n 0, 1) := by decide +kernel
theorem dLong_bitCount_11 : decode cLong_bitCount 11 = .ok (.ldc2_w 316, 3) := by decide +kernel
theorem dLong_bitCount_14 : decode cLong_bitCount 14 = .ok (.land, 1) := by decide +kernel
theorem dLong_bitCount_15 : decode cLong_bitCount 15 = .ok (.lload_n 0, 1) := by decide +kernel
theorem dLong_bitCount_16 : decode cLong_bitCount 16 = .ok (.iconst 2, 1) := by decide +kernel
theorem dLong_bitCount_17 : decode cLong_bitCount 17 = .ok (.lushr, 1) := by decide +kernel
theorem dLong_bitCount_18 : decode cLong_bitCount 18 = .ok (.ldc2_w 316, 3) := by decide +kernel
theorem dLong_bitCount_21 : decode cLong_bitCount 21 = .ok (.land, 1) := by decide +kernel
theorem dLong_bitCount_22 : decode cLong_bitCount 22 = .ok (.ladd, 1) := by decide +kernel
theorem dLong_bitCount_23 : decode cLong_bitCount 23 = .ok (.lstore_n 0, 1) := by decide +kernel
theorem dLong_bitCount_24 : decode cLong_bitCount 24 = .ok (.lload_n 0, 1) := by decide +kernel
theorem dLong_bitCount_25 : decode cLong_bitCount 25 = .ok (.lload_n 0, 1) := by decide +kernel
theorem dLong_bitCount_26 : decode cLong_bitCount 26 = .ok (.iconst 4, 1) := by decide +kernel
theorem dLong_bitCount_27 : decode cLong_bitCount 27 = .ok (.lushr, 1) := by decide +kernel
theorem dLong_bitCount_28 : decode cLong_bitCount 28 = .ok (.ladd, 1) := by decide +kernel
theorem dLong_bitCount_29 : decode cLong_bitCount 29 = .ok (.ldc2_w 318, 3) := by decide +kernel
theorem dLong_bitCount_32 : decode cLong_bitCount 32 = .ok (.land, 1) := by decide +kernel
theorem dLong_bitCount_33 : decode cLong_bitCount 33 = .ok (.lstore_n 0, 1) := by decide +kernel
theorem dLong_bitCount_34 : decode cLong_bitCount 34 = .ok (.lload_n 0, 1) := by decide +kernel
theorem dLong_bitCount_35 : decode cLong_bitCount 35 = .ok (.lload_n 0, 1) := by decide +kernel
theorem dLong_bitCount_36 : decode cLong_bitCount 36 = .ok (.bipush 8, 2) := by decide +kernel
theorem dLong_bitCount_38 : decode cLong_bitCount 38 = .ok (.lushr, 1) := by decide +kernel
theorem dLong_bitCount_39 : decode cLong_bitCount 39 = .ok (.ladd, 1) := by decide +kernel
theorem dLong_bitCount_40 : decode cLong_bitCount 40 = .ok (.lstore_n 0, 1) := by decide +kernel
theorem dLong_bitCount_41 : decode cLong_bitCount 41 = .ok (.lload_n 0, 1) := by decide +kernel
theorem dLong_bitCount_42 : decode cLong_bitCount 42 = .ok (.lload_n 0, 1) := by decide +kernel
theorem dLong_bitCount_43 : decode cLong_bitCount 43 = .ok (.bipush 16, 2) := by decide +kernel
theorem dLong_bitCount_45 : decode cLong_bitCount 45 = .ok (.lushr, 1) := by decide +kernel
theorem dLong_bitCount_46 : decode cLong_bitCount 46 = .ok (.ladd, 1) := by decide +kernel
theorem dLong_bitCount_47 : decode cLong_bitCount 47 = .ok (.lstore_n 0, 1) := by decide +kernel
theorem dLong_bitCount_48 : decode cLong_bitCount 48 = .ok (.lload_n 0, 1) := by decide +kernel
theorem dLong_bitCount_49 : decode cLong_bitCount 49 = .ok (.lload_n 0, 1) := by decide +kernel
theorem dLong_bitCount_50 : decode cLong_bitCount 50 = .ok (.bipush 32, 2) := by decide +kernel
theorem dLong_bitCount_52 : decode cLong_bitCount 52 = .ok (.lushr, 1) := by decide +kernel
theorem dLong_bitCount_53 : decode cLong_bitCount 53 = .ok (.ladd, 1) := by decide +kernel
theorem dLong_bitCount_54 : decode cLong_bitCount 54 = .ok (.lstore_n 0, 1) := by decide +kernel
theorem dLong_bitCount_55 : decode cLong_bitCount 55 = .ok (.lload_n 0, 1) := by decide +kernel
theorem dLong_bitCount_56 : decode cLong_bitCount 56 = .ok (.l2i, 1) := by decide +kernel
theorem dLong_bitCount_57 : decode cLong_bitCount 57 = .ok (.bipush 127, 2) := by decide +kernel
theorem dLong_bitCount_59 : decode cLong_bitCount 59 = .ok (.iand, 1) := by decide +kernel
theorem dLong_bitCount_60 : decode cLong_bitCount 60 = .ok (.ireturn, 1) := by decide +kernel
theorem dWhole_length_0 : decode cWhole_length 0 = .ok (.lload_n 0, 1) := by decide +kernel
theorem dWhole_length_1 : decode cWhole_length 1 = .ok (.lstore_n 2, 1) := by decide +kernel
theorem dWhole_length_2 : decode cWhole_length 2 = .ok (.iconst 1, 1) := by decide +kernel
theorem dWhole_length_3 : decode cWhole_length 3 = .ok (.istore 4, 2) := by decide +kernel
theorem dWhole_length_5 : decode cWhole_length 5 = .ok (.iload 4, 2) := by decide +kernel
theorem dWhole_length_7 : decode cWhole_length 7 = .ok (.bipush 64, 2) := by decide +kernel
theorem dWhole_length_9 : decode cWhole_length 9 = .ok (.if_icmp .ge 19, 3) := by decide +kernel
theorem dWhole_length_12 : decode cWhole_length 12 = .ok (.lload_n 2, 1) := by decide +kernel
theorem dWhole_length_13 : decode cWhole_length 13 = .ok (.lload_n 2, 1) := by decide +kernel
theorem dWhole_length_14 : decode cWhole_length 14 = .ok (.iload 4, 2) := by decide +kernel
theorem dWhole_length_16 : decode cWhole_length 16 = .ok (.lushr, 1) := by decide +kernel
theorem dWhole_length_17 : decode cWhole_length 17 = .ok (.lor, 1) := by decide +kernel
theorem dWhole_length_18 : decode cWhole_length 18 = .ok (.lstore_n 2, 1) := by decide +kernel
theorem dWhole_length_19 : decode cWhole_length 19 = .ok (.iload 4, 2) := by decide +kernel
theorem dWhole_length_21 : decode cWhole_length 21 = .ok (.iconst 2, 1) := by decide +kernel
theorem dWhole_length_22 : decode cWhole_length 22 = .ok (.imul, 1) := by decide +kernel
theorem dWhole_length_23 : decode cWhole_length 23 = .ok (.istore 4, 2) := by decide +kernel
theorem dWhole_length_25 : decode cWhole_length 25 = .ok (.goto (-20), 3) := by decide +kernel
theorem dWhole_length_28 : decode cWhole_length 28 = .ok (.lload_n 2, 1) := by decide +kernel
theorem dWhole_length_29 : decode cWhole_length 29 = .ok (.invokestatic 27, 3) := by decide +kernel
theorem dWhole_length_32 : decode cWhole_length 32 = .ok (.ireturn, 1) := by decide +kernel
theorem dConversions_wholePart_0 : decode cConversions_wholePart 0 = .ok (.iload_n 2, 1) := by decide +kernel
theorem dConversions_wholePart_1 : decode cConversions_wholePart 1 = .ok (.ifCond .lt 7, 3) := by decide +kernel
theorem dConversions_wholePart_4 : decode cConversions_wholePart 4 = .ok (.lload_n 0, 1) := by decide +kernel
theorem dConversions_wholePart_5 : decode cConversions_wholePart 5 = .ok (.iload_n 2, 1) := by decide +kernel
theorem dConversions_wholePart_6 : decode cConversions_wholePart 6 = .ok (.lshl, 1) := by decide +kernel
theorem dConversions_wholePart_7 : decode cConversions_wholePart 7 = .ok (.lreturn, 1) := by decide +kernel
theorem dConversions_wholePart_8 : decode cConversions_wholePart 8 = .ok (.iload_n 2, 1) := by decide +kernel
theorem dConversions_wholePart_9 : decode cConversions_wholePart 9 = .ok (.bipush (-63), 2) := by decide +kernel
theorem dConversions_wholePart_11 : decode cConversions_wholePart 11 = .ok (.if_icmp .ge 7, 3) := by decide +kernel
theorem dConversions_wholePart_14 : decode cConversions_wholePart 14 = .ok (.lconst 0, 1) := by decide +kernel
theorem dConversions_wholePart_15 : decode cConversions_wholePart 15 = .ok (.goto 7, 3) := by decide +kernel
theorem dConversions_wholePart_18 : decode cConversions_wholePart 18 = .ok (.lload_n 0, 1) := by decide +kernel
theorem dConversions_wholePart_19 : decode cConversions_wholePart 19 = .ok (.iload_n 2, 1) := by decide +kernel
theorem dConversions_wholePart_20 : decode cConversions_wholePart 20 = .ok (.ineg, 1) := by decide +kernel
theorem dConversions_wholePart_21 : decode cConversions_wholePart 21 = .ok (.lushr, 1) := by decide +kernel
theorem dConversions_wholePart_22 : decode cConversions_wholePart 22 = .ok (.lreturn, 1) := by decide +kernel
theorem dLong_compare_0 : decode cLong_compare 0 = .ok (.lload_n 0, 1) := by decide +kernel
theorem dLong_compare_1 : decode cLong_compare 1 = .ok (.lload_n 2, 1) := by decide +kernel
theorem dLong_compare_2 : decode cLong_compare 2 = .ok (.lcmp, 1) := by decide +kernel
theorem dLong_compare_3 : decode cLong_compare 3 = .ok (.ifCond .ge 7, 3) := by decide +kernel
theorem dLong_compare_6 : decode cLong_compare 6 = .ok (.iconst (-1), 1) := by decide +kernel
theorem dLong_compare_7 : decode cLong_compare 7 = .ok (.goto 14, 3) := by decide +kernel
theorem dLong_compare_10 : decode cLong_compare 10 = .ok (.lload_n 0, 1) := by decide +kernel
theorem dLong_compare_11 : decode cLong_compare 11 = .ok (.lload_n 2, 1) := by decide +kernel
theorem dLong_compare_12 : decode cLong_compare 12 = .ok (.lcmp, 1) := by decide +kernel
theorem dLong_compare_13 : decode cLong_compare 13 = .ok (.ifCond .ne 7, 3) := by decide +kernel
theorem dLong_compare_16 : decode cLong_compare 16 = .ok (.iconst 0, 1) := by decide +kernel
theorem dLong_compare_17 : decode cLong_compare 17 = .ok (.goto 4, 3) := by decide +kernel
theorem dLong_compare_20 : decode cLong_compare 20 = .ok (.iconst 1, 1) := by decide +kernel
theorem dLong_compare_21 : decode cLong_compare 21 = .ok (.ireturn, 1) := by decide +kernel
theorem dWhole_orderWithoutSign_0 : decode cWhole_orderWithoutSign 0 = .ok (.lload_n 0, 1) := by decide +kernel
theorem dWhole_orderWithoutSign_1 : decode cWhole_orderWithoutSign 1 = .ok (.ldc2_w 19, 3) := by decide +kernel
theorem dWhole_orderWithoutSign_4 : decode cWhole_orderWithoutSign 4 = .ok (.lxor, 1) := by decide +kernel
theorem dWhole_orderWithoutSign_5 : decode cWhole_orderWithoutSign 5 = .ok (.lload_n 2, 1) := by decide +kernel
theorem dWhole_orderWithoutSign_6 : decode cWhole_orderWithoutSign 6 = .ok (.ldc2_w 19, 3) := by decide +kernel
theorem dWhole_orderWithoutSign_9 : decode cWhole_orderWithoutSign 9 = .ok (.lxor, 1) := by decide +kernel
theorem dWhole_orderWithoutSign_10 : decode cWhole_orderWithoutSign 10 = .ok (.invokestatic 21, 3) := by decide +kernel
theorem dWhole_orderWithoutSign_13 : decode cWhole_orderWithoutSign 13 = .ok (.ireturn, 1) := by decide +kernel
theorem dConversions_fits_0 : decode cConversions_fits 0 = .ok (.aload_n 0, 1) := by decide +kernel
theorem dConversions_fits_1 : decode cConversions_fits 1 = .ok (.lload_n 1, 1) := by decide +kernel
theorem dConversions_fits_2 : decode cConversions_fits 2 = .ok (.invokevirtual 80, 3) := by decide +kernel
theorem dConversions_fits_5 : decode cConversions_fits 5 = .ok (.lstore 5, 2) := by decide +kernel
theorem dConversions_fits_7 : decode cConversions_fits 7 = .ok (.aload_n 0, 1) := by decide +kernel
theorem dConversions_fits_8 : decode cConversions_fits 8 = .ok (.lload_n 1, 1) := by decide +kernel
theorem dConversions_fits_9 : decode cConversions_fits 9 = .ok (.invokevirtual 84, 3) := by decide +kernel
theorem dConversions_fits_12 : decode cConversions_fits 12 = .ok (.istore 7, 2) := by decide +kernel
theorem dConversions_fits_14 : decode cConversions_fits 14 = .ok (.iload 7, 2) := by decide +kernel
theorem dConversions_fits_16 : decode cConversions_fits 16 = .ok (.bipush 64, 2) := by decide +kernel
theorem dConversions_fits_18 : decode cConversions_fits 18 = .ok (.lload 5, 2) := by decide +kernel
theorem dConversions_fits_20 : decode cConversions_fits 20 = .ok (.invokestatic 96, 3) := by decide +kernel
theorem dConversions_fits_23 : decode cConversions_fits 23 = .ok (.isub, 1) := by decide +kernel
theorem dConversions_fits_24 : decode cConversions_fits 24 = .ok (.if_icmp .le 5, 3) := by decide +kernel
theorem dConversions_fits_27 : decode cConversions_fits 27 = .ok (.iconst 0, 1) := by decide +kernel
theorem dConversions_fits_28 : decode cConversions_fits 28 = .ok (.ireturn, 1) := by decide +kernel
theorem dConversions_fits_29 : decode cConversions_fits 29 = .ok (.lload 5, 2) := by decide +kernel
theorem dConversions_fits_31 : decode cConversions_fits 31 = .ok (.iload 7, 2) := by decide +kernel
theorem dConversions_fits_33 : decode cConversions_fits 33 = .ok (.invokestatic 88, 3) := by decide +kernel
theorem dConversions_fits_36 : decode cConversions_fits 36 = .ok (.lload_n 3, 1) := by decide +kernel
theorem dConversions_fits_37 : decode cConversions_fits 37 = .ok (.invokestatic 99, 3) := by decide +kernel
theorem dConversions_fits_40 : decode cConversions_fits 40 = .ok (.ifCond .gt 7, 3) := by decide +kernel
theorem dConversions_fits_43 : decode cConversions_fits 43 = .ok (.iconst 1, 1) := by decide +kernel
theorem dConversions_fits_44 : decode cConversions_fits 44 = .ok (.goto 4, 3) := by decide +kernel
theorem dConversions_fits_47 : decode cConversions_fits 47 = .ok (.iconst 0, 1) := by decide +kernel
theorem dConversions_fits_48 : decode cConversions_fits 48 = .ok (.ireturn, 1) := by decide +kernel
theorem dConversions_trapOf_0 : decode cConversions_trapOf 0 = .ok (.aload_n 1, 1) := by decide +kernel
theorem dConversions_trapOf_1 : decode cConversions_trapOf 1 = .ok (.lload_n 3, 1) := by decide +kernel
theorem dConversions_trapOf_2 : decode cConversions_trapOf 2 = .ok (.invokevirtual 13, 3) := by decide +kernel
theorem dConversions_trapOf_5 : decode cConversions_trapOf 5 = .ok (.ifCond .eq 5, 3) := by decide +kernel
theorem dConversions_trapOf_8 : decode cConversions_trapOf 8 = .ok (.iconst 3, 1) := by decide +kernel
theorem dConversions_trapOf_9 : decode cConversions_trapOf 9 = .ok (.ireturn, 1) := by decide +kernel
theorem dConversions_trapOf_10 : decode cConversions_trapOf 10 = .ok (.aload_n 1, 1) := by decide +kernel
theorem dConversions_trapOf_11 : decode cConversions_trapOf 11 = .ok (.lload_n 3, 1) := by decide +kernel
theorem dConversions_trapOf_12 : decode cConversions_trapOf 12 = .ok (.aload_n 1, 1) := by decide +kernel
theorem dConversions_trapOf_13 : decode cConversions_trapOf 13 = .ok (.lload_n 3, 1) := by decide +kernel
theorem dConversions_trapOf_14 : decode cConversions_trapOf 14 = .ok (.iload_n 2, 1) := by decide +kernel
theorem dConversions_trapOf_15 : decode cConversions_trapOf 15 = .ok (.iload_n 0, 1) := by decide +kernel
theorem dConversions_trapOf_16 : decode cConversions_trapOf 16 = .ok (.invokestatic 19, 3) := by decide +kernel
theorem dConversions_trapOf_19 : decode cConversions_trapOf 19 = .ok (.invokestatic 23, 3) := by decide +kernel
theorem dConversions_trapOf_22 : decode cConversions_trapOf 22 = .ok (.invokestatic 27, 3) := by decide +kernel
theorem dConversions_trapOf_25 : decode cConversions_trapOf 25 = .ok (.ifCond .eq 7, 3) := by decide +kernel
theorem dConversions_trapOf_28 : decode cConversions_trapOf 28 = .ok (.iconst 0, 1) := by decide +kernel
theorem dConversions_trapOf_29 : decode cConversions_trapOf 29 = .ok (.goto 4, 3) := by decide +kernel
theorem dConversions_trapOf_32 : decode cConversions_trapOf 32 = .ok (.iconst 2, 1) := by decide +kernel
theorem dConversions_trapOf_33 : decode cConversions_trapOf 33 = .ok (.ireturn, 1) := by decide +kernel
theorem dFormat_of_0 : decode cFormat_of 0 = .ok (.iload_n 0, 1) := by decide +kernel
theorem dFormat_of_1 : decode cFormat_of 1 = .ok (.iconst 2, 1) := by decide +kernel
theorem dFormat_of_2 : decode cFormat_of 2 = .ok (.if_icmp .ne 9, 3) := by decide +kernel
theorem dFormat_of_5 : decode cFormat_of 5 = .ok (.getstatic 5, 3) := by decide +kernel
theorem dFormat_of_8 : decode cFormat_of 8 = .ok (.goto 6, 3) := by decide +kernel
theorem dFormat_of_11 : decode cFormat_of 11 = .ok (.getstatic 9, 3) := by decide +kernel
theorem dFormat_of_14 : decode cFormat_of 14 = .ok (.areturn, 1) := by decide +kernel
theorem dConversions_towardsZero_0 : decode cConversions_towardsZero 0 = .ok (.aload_n 1, 1) := by decide +kernel
theorem dConversions_towardsZero_1 : decode cConversions_towardsZero 1 = .ok (.lload_n 3, 1) := by decide +kernel
theorem dConversions_towardsZero_2 : decode cConversions_towardsZero 2 = .ok (.invokevirtual 13, 3) := by decide +kernel
theorem dConversions_towardsZero_5 : decode cConversions_towardsZero 5 = .ok (.ifCond .eq 5, 3) := by decide +kernel
theorem dConversions_towardsZero_8 : decode cConversions_towardsZero 8 = .ok (.lconst 0, 1) := by decide +kernel
theorem dConversions_towardsZero_9 : decode cConversions_towardsZero 9 = .ok (.lreturn, 1) := by decide +kernel
theorem dConversions_towardsZero_10 : decode cConversions_towardsZero 10 = .ok (.aload_n 1, 1) := by decide +kernel
theorem dConversions_towardsZero_11 : decode cConversions_towardsZero 11 = .ok (.lload_n 3, 1) := by decide +kernel
theorem dConversions_towardsZero_12 : decode cConversions_towardsZero 12 = .ok (.iload_n 2, 1) := by decide +kernel
theorem dConversions_towardsZero_13 : decode cConversions_towardsZero 13 = .ok (.iload_n 0, 1) := by decide +kernel
theorem dConversions_towardsZero_14 : decode cConversions_towardsZero 14 = .ok (.invokestatic 19, 3) := by decide +kernel
theorem dConversions_towardsZero_17 : decode cConversions_towardsZero 17 = .ok (.invokestatic 23, 3) := by decide +kernel
theorem dConversions_towardsZero_20 : decode cConversions_towardsZero 20 = .ok (.lstore 5, 2) := by decide +kernel
theorem dConversions_towardsZero_22 : decode cConversions_towardsZero 22 = .ok (.aload_n 1, 1) := by decide +kernel
theorem dConversions_towardsZero_23 : decode cConversions_towardsZero 23 = .ok (.lload_n 3, 1) := by decide +kernel
theorem dConversions_towardsZero_24 : decode cConversions_towardsZero 24 = .ok (.lload 5, 2) := by decide +kernel
theorem dConversions_towardsZero_26 : decode cConversions_towardsZero 26 = .ok (.invokestatic 27, 3) := by decide +kernel
theorem dConversions_towardsZero_29 : decode cConversions_towardsZero 29 = .ok (.ifCond .eq 19, 3) := by decide +kernel
theorem dConversions_towardsZero_32 : decode cConversions_towardsZero 32 = .ok (.aload_n 1, 1) := by decide +kernel
theorem dConversions_towardsZero_33 : decode cConversions_towardsZero 33 = .ok (.lload_n 3, 1) := by decide +kernel
theorem dConversions_towardsZero_34 : decode cConversions_towardsZero 34 = .ok (.invokevirtual 80, 3) := by decide +kernel
theorem dConversions_towardsZero_37 : decode cConversions_towardsZero 37 = .ok (.aload_n 1, 1) := by decide +kernel
theorem dConversions_towardsZero_38 : decode cConversions_towardsZero 38 = .ok (.lload_n 3, 1) := by decide +kernel
theorem dConversions_towardsZero_39 : decode cConversions_towardsZero 39 = .ok (.invokevirtual 84, 3) := by decide +kernel
theorem dConversions_towardsZero_42 : decode cConversions_towardsZero 42 = .ok (.invokestatic 88, 3) := by decide +kernel
theorem dConversions_towardsZero_45 : decode cConversions_towardsZero 45 = .ok (.goto 5, 3) := by decide +kernel
theorem dConversions_towardsZero_48 : decode cConversions_towardsZero 48 = .ok (.lload 5, 2) := by decide +kernel
theorem dConversions_towardsZero_50 : decode cConversions_towardsZero 50 = .ok (.lstore 7, 2) := by decide +kernel
theorem dConversions_towardsZero_52 : decode cConversions_towardsZero 52 = .ok (.aload_n 1, 1) := by decide +kernel
theorem dConversions_towardsZero_53 : decode cConversions_towardsZero 53 = .ok (.lload_n 3, 1) := by decide +kernel
theorem dConversions_towardsZero_54 : decode cConversions_towardsZero 54 = .ok (.invokevirtual 70, 3) := by decide +kernel
theorem dConversions_towardsZero_57 : decode cConversions_towardsZero 57 = .ok (.ifCond .eq 9, 3) := by decide +kernel
theorem dConversions_towardsZero_60 : decode cConversions_towardsZero 60 = .ok (.lload 7, 2) := by decide +kernel
theorem dConversions_towardsZero_62 : decode cConversions_towardsZero 62 = .ok (.lneg, 1) := by decide +kernel
theorem dConversions_towardsZero_63 : decode cConversions_towardsZero 63 = .ok (.goto 5, 3) := by decide +kernel
theorem dConversions_towardsZero_66 : decode cConversions_towardsZero 66 = .ok (.lload 7, 2) := by decide +kernel
theorem dConversions_towardsZero_68 : decode cConversions_towardsZero 68 = .ok (.lreturn, 1) := by decide +kernel
theorem dWhole_withSign_0 : decode cWhole_withSign 0 = .ok (.iload_n 0, 1) := by decide +kernel
theorem dWhole_withSign_1 : decode cWhole_withSign 1 = .ok (.ifCond .ne 9, 3) := by decide +kernel
theorem dWhole_withSign_4 : decode cWhole_withSign 4 = .ok (.lload_n 1, 1) := by decide +kernel
theorem dWhole_withSign_5 : decode cWhole_withSign 5 = .ok (.l2i, 1) := by decide +kernel
theorem dWhole_withSign_6 : decode cWhole_withSign 6 = .ok (.i2l, 1) := by decide +kernel
theorem dWhole_withSign_7 : decode cWhole_withSign 7 = .ok (.goto 4, 3) := by decide +kernel
theorem dWhole_withSign_10 : decode cWhole_withSign 10 = .ok (.lload_n 1, 1) := by decide +kernel
theorem dWhole_withSign_11 : decode cWhole_withSign 11 = .ok (.lreturn, 1) := by decide +kernel
theorem dFormat_isInfinite_0 : decode cFormat_isInfinite 0 = .ok (.lload_n 1, 1) := by decide +kernel
theorem dFormat_isInfinite_1 : decode cFormat_isInfinite 1 = .ok (.aload_n 0, 1) := by decide +kernel
theorem dFormat_isInfinite_2 : decode cFormat_isInfinite 2 = .ok (.getfield 41, 3) := by decide +kernel
theorem dFormat_isInfinite_5 : decode cFormat_isInfinite 5 = .ok (.ldc2_w 56, 3) := by decide +kernel
theorem dFormat_isInfinite_8 : decode cFormat_isInfinite 8 = .ok (.lxor, 1) := by decide +kernel
theorem dFormat_isInfinite_9 : decode cFormat_isInfinite 9 = .ok (.land, 1) := by decide +kernel
theorem dFormat_isInfinite_10 : decode cFormat_isInfinite 10 = .ok (.aload_n 0, 1) := by decide +kernel
theorem dFormat_isInfinite_11 : decode cFormat_isInfinite 11 = .ok (.getfield 50, 3) := by decide +kernel
theorem dFormat_isInfinite_14 : decode cFormat_isInfinite 14 = .ok (.lcmp, 1) := by decide +kernel
theorem dFormat_isInfinite_15 : decode cFormat_isInfinite 15 = .ok (.ifCond .ne 7, 3) := by decide +kernel
theorem dFormat_isInfinite_18 : decode cFormat_isInfinite 18 = .ok (.iconst 1, 1) := by decide +kernel
theorem dFormat_isInfinite_19 : decode cFormat_isInfinite 19 = .ok (.goto 4, 3) := by decide +kernel
theorem dFormat_isInfinite_22 : decode cFormat_isInfinite 22 = .ok (.iconst 0, 1) := by decide +kernel
theorem dFormat_isInfinite_23 : decode cFormat_isInfinite 23 = .ok (.ireturn, 1) := by decide +kernel
theorem dFormat_signed_0 : decode cFormat_signed 0 = .ok (.iload_n 1, 1) := by decide +kernel
theorem dFormat_signed_1 : decode cFormat_signed 1 = .ok (.ifCond .eq 12, 3) := by decide +kernel
theorem dFormat_signed_4 : decode cFormat_signed 4 = .ok (.lload_n 2, 1) := by decide +kernel
theorem dFormat_signed_5 : decode cFormat_signed 5 = .ok (.aload_n 0, 1) := by decide +kernel
theorem dFormat_signed_6 : decode cFormat_signed 6 = .ok (.getfield 41, 3) := by decide +kernel
theorem dFormat_signed_9 : decode cFormat_signed 9 = .ok (.lor, 1) := by decide +kernel
theorem dFormat_signed_10 : decode cFormat_signed 10 = .ok (.goto 4, 3) := by decide +kernel
theorem dFormat_signed_13 : decode cFormat_signed 13 = .ok (.lload_n 2, 1) := by decide +kernel
theorem dFormat_signed_14 : decode cFormat_signed 14 = .ok (.lreturn, 1) := by decide +kernel
theorem dFormat_nearest_0 : decode cFormat_nearest 0 = .ok (.iload_n 2, 1) := by decide +kernel
theorem dFormat_nearest_1 : decode cFormat_nearest 1 = .ok (.ifCond .le 9, 3) := by decide +kernel
theorem dFormat_nearest_4 : decode cFormat_nearest 4 = .ok (.iload_n 2, 1) := by decide +kernel
theorem dFormat_nearest_5 : decode cFormat_nearest 5 = .ok (.bipush 63, 2) := by decide +kernel
theorem dFormat_nearest_7 : decode cFormat_nearest 7 = .ok (.if_icmp .le 13, 3) := by decide +kernel
theorem dFormat_nearest_10 : decode cFormat_nearest 10 = .ok (.iload_n 2, 1) := by decide +kernel
theorem dFormat_nearest_11 : decode cFormat_nearest 11 = .ok (.ifCond .gt 7, 3) := by decide +kernel
theorem dFormat_nearest_14 : decode cFormat_nearest 14 = .ok (.lload_n 0, 1) := by decide +kernel
theorem dFormat_nearest_15 : decode cFormat_nearest 15 = .ok (.goto 4, 3) := by decide +kernel
theorem dFormat_nearest_18 : decode cFormat_nearest 18 = .ok (.lconst 0, 1) := by decide +kernel
theorem dFormat_nearest_19 : decode cFormat_nearest 19 = .ok (.lreturn, 1) := by decide +kernel
theorem dFormat_nearest_20 : decode cFormat_nearest 20 = .ok (.lload_n 0, 1) := by decide +kernel
theorem dFormat_nearest_21 : decode cFormat_nearest 21 = .ok (.iload_n 2, 1) := by decide +kernel
theorem dFormat_nearest_22 : decode cFormat_nearest 22 = .ok (.lushr, 1) := by decide +kernel
theorem dFormat_nearest_23 : decode cFormat_nearest 23 = .ok (.lstore_n 3, 1) := by decide +kernel
theorem dFormat_nearest_24 : decode cFormat_nearest 24 = .ok (.lload_n 0, 1) := by decide +kernel
theorem dFormat_nearest_25 : decode cFormat_nearest 25 = .ok (.lload_n 3, 1) := by decide +kernel
theorem dFormat_nearest_26 : decode cFormat_nearest 26 = .ok (.iload_n 2, 1) := by decide +kernel
theorem dFormat_nearest_27 : decode cFormat_nearest 27 = .ok (.lshl, 1) := by decide +kernel
theorem dFormat_nearest_28 : decode cFormat_nearest 28 = .ok (.lsub, 1) := by decide +kernel
theorem dFormat_nearest_29 : decode cFormat_nearest 29 = .ok (.lstore 5, 2) := by decide +kernel
theorem dFormat_nearest_31 : decode cFormat_nearest 31 = .ok (.lconst 1, 1) := by decide +kernel
theorem dFormat_nearest_32 : decode cFormat_nearest 32 = .ok (.iload_n 2, 1) := by decide +kernel
theorem dFormat_nearest_33 : decode cFormat_nearest 33 = .ok (.iconst 1, 1) := by decide +kernel
theorem dFormat_nearest_34 : decode cFormat_nearest 34 = .ok (.isub, 1) := by decide +kernel
theorem dFormat_nearest_35 : decode cFormat_nearest 35 = .ok (.lshl, 1) := by decide +kernel
theorem dFormat_nearest_36 : decode cFormat_nearest 36 = .ok (.lstore 7, 2) := by decide +kernel
theorem dFormat_nearest_38 : decode cFormat_nearest 38 = .ok (.lload 5, 2) := by decide +kernel
theorem dFormat_nearest_40 : decode cFormat_nearest 40 = .ok (.lload 7, 2) := by decide +kernel
theorem dFormat_nearest_42 : decode cFormat_nearest 42 = .ok (.lcmp, 1) := by decide +kernel
theorem dFormat_nearest_43 : decode cFormat_nearest 43 = .ok (.ifCond .gt 19, 3) := by decide +kernel
theorem dFormat_nearest_46 : decode cFormat_nearest 46 = .ok (.lload 5, 2) := by decide +kernel
theorem dFormat_nearest_48 : decode cFormat_nearest 48 = .ok (.lload 7, 2) := by decide +kernel
theorem dFormat_nearest_50 : decode cFormat_nearest 50 = .ok (.lcmp, 1) := by decide +kernel
theorem dFormat_nearest_51 : decode cFormat_nearest 51 = .ok (.ifCond .ne 15, 3) := by decide +kernel
theorem dFormat_nearest_54 : decode cFormat_nearest 54 = .ok (.lload_n 3, 1) := by decide +kernel
theorem dFormat_nearest_55 : decode cFormat_nearest 55 = .ok (.lconst 1, 1) := by decide +kernel
theorem dFormat_nearest_56 : decode cFormat_nearest 56 = .ok (.land, 1) := by decide +kernel
theorem dFormat_nearest_57 : decode cFormat_nearest 57 = .ok (.lconst 0, 1) := by decide +kernel
theorem dFormat_nearest_58 : decode cFormat_nearest 58 = .ok (.lcmp, 1) := by decide +kernel
theorem dFormat_nearest_59 : decode cFormat_nearest 59 = .ok (.ifCond .eq 7, 3) := by decide +kernel
theorem dFormat_nearest_62 : decode cFormat_nearest 62 = .ok (.iconst 1, 1) := by decide +kernel
theorem dFormat_nearest_63 : decode cFormat_nearest 63 = .ok (.goto 4, 3) := by decide +kernel
theorem dFormat_nearest_66 : decode cFormat_nearest 66 = .ok (.iconst 0, 1) := by decide +kernel
theorem dFormat_nearest_67 : decode cFormat_nearest 67 = .ok (.istore 9, 2) := by decide +kernel
theorem dFormat_nearest_69 : decode cFormat_nearest 69 = .ok (.iload 9, 2) := by decide +kernel
theorem dFormat_nearest_71 : decode cFormat_nearest 71 = .ok (.ifCond .eq 9, 3) := by decide +kernel
theorem dFormat_nearest_74 : decode cFormat_nearest 74 = .ok (.lload_n 3, 1) := by decide +kernel
theorem dFormat_nearest_75 : decode cFormat_nearest 75 = .ok (.lconst 1, 1) := by decide +kernel
theorem dFormat_nearest_76 : decode cFormat_nearest 76 = .ok (.ladd, 1) := by decide +kernel
theorem dFormat_nearest_77 : decode cFormat_nearest 77 = .ok (.goto 4, 3) := by decide +kernel
theorem dFormat_nearest_80 : decode cFormat_nearest 80 = .ok (.lload_n 3, 1) := by decide +kernel
theorem dFormat_nearest_81 : decode cFormat_nearest 81 = .ok (.lreturn, 1) := by decide +kernel
theorem dFormat_rounded_0 : decode cFormat_rounded 0 = .ok (.lload_n 2, 1) := by decide +kernel
theorem dFormat_rounded_1 : decode cFormat_rounded 1 = .ok (.lconst 0, 1) := by decide +kernel
theorem dFormat_rounded_2 : decode cFormat_rounded 2 = .ok (.lcmp, 1) := by decide +kernel
theorem dFormat_rounded_3 : decode cFormat_rounded 3 = .ok (.ifCond .ne 10, 3) := by decide +kernel
theorem dFormat_rounded_6 : decode cFormat_rounded 6 = .ok (.aload_n 0, 1) := by decide +kernel
theorem dFormat_rounded_7 : decode cFormat_rounded 7 = .ok (.iload_n 1, 1) := by decide +kernel
theorem dFormat_rounded_8 : decode cFormat_rounded 8 = .ok (.lconst 0, 1) := by decide +kernel
theorem dFormat_rounded_9 : decode cFormat_rounded 9 = .ok (.invokevirtual 78, 3) := by decide +kernel
theorem dFormat_rounded_12 : decode cFormat_rounded 12 = .ok (.lreturn, 1) := by decide +kernel
theorem dFormat_rounded_13 : decode cFormat_rounded 13 = .ok (.lload_n 2, 1) := by decide +kernel
theorem dFormat_rounded_14 : decode cFormat_rounded 14 = .ok (.invokestatic 82, 3) := by decide +kernel
theorem dFormat_rounded_17 : decode cFormat_rounded 17 = .ok (.istore 5, 2) := by decide +kernel
theorem dFormat_rounded_19 : decode cFormat_rounded 19 = .ok (.iload 4, 2) := by decide +kernel
theorem dFormat_rounded_21 : decode cFormat_rounded 21 = .ok (.iload 5, 2) := by decide +kernel
theorem dFormat_rounded_23 : decode cFormat_rounded 23 = .ok (.iadd, 1) := by decide +kernel
theorem dFormat_rounded_24 : decode cFormat_rounded 24 = .ok (.aload_n 0, 1) := by decide +kernel
theorem dFormat_rounded_25 : decode cFormat_rounded 25 = .ok (.getfield 31, 3) := by decide +kernel
theorem dFormat_rounded_28 : decode cFormat_rounded 28 = .ok (.isub, 1) := by decide +kernel
theorem dFormat_rounded_29 : decode cFormat_rounded 29 = .ok (.aload_n 0, 1) := by decide +kernel
theorem dFormat_rounded_30 : decode cFormat_rounded 30 = .ok (.getfield 38, 3) := by decide +kernel
theorem dFormat_rounded_33 : decode cFormat_rounded 33 = .ok (.invokestatic 72, 3) := by decide +kernel
theorem dFormat_rounded_36 : decode cFormat_rounded 36 = .ok (.istore 6, 2) := by decide +kernel
theorem dFormat_rounded_38 : decode cFormat_rounded 38 = .ok (.iload 6, 2) := by decide +kernel
theorem dFormat_rounded_40 : decode cFormat_rounded 40 = .ok (.aload_n 0, 1) := by decide +kernel
theorem dFormat_rounded_41 : decode cFormat_rounded 41 = .ok (.getfield 38, 3) := by decide +kernel
theorem dFormat_rounded_44 : decode cFormat_rounded 44 = .ok (.isub, 1) := by decide +kernel
theorem dFormat_rounded_45 : decode cFormat_rounded 45 = .ok (.istore 7, 2) := by decide +kernel
theorem dFormat_rounded_47 : decode cFormat_rounded 47 = .ok (.iload 7, 2) := by decide +kernel
theorem dFormat_rounded_49 : decode cFormat_rounded 49 = .ok (.aload_n 0, 1) := by decide +kernel
theorem dFormat_rounded_50 : decode cFormat_rounded 50 = .ok (.getfield 35, 3) := by decide +kernel
theorem dFormat_rounded_53 : decode cFormat_rounded 53 = .ok (.iconst 1, 1) := by decide +kernel
theorem dFormat_rounded_54 : decode cFormat_rounded 54 = .ok (.isub, 1) := by decide +kernel
theorem dFormat_rounded_55 : decode cFormat_rounded 55 = .ok (.if_icmp .lt 13, 3) := by decide +kernel
theorem dFormat_rounded_58 : decode cFormat_rounded 58 = .ok (.aload_n 0, 1) := by decide +kernel
theorem dFormat_rounded_59 : decode cFormat_rounded 59 = .ok (.iload_n 1, 1) := by decide +kernel
theorem dFormat_rounded_60 : decode cFormat_rounded 60 = .ok (.aload_n 0, 1) := by decide +kernel
theorem dFormat_rounded_61 : decode cFormat_rounded 61 = .ok (.getfield 50, 3) := by decide +kernel
theorem dFormat_rounded_64 : decode cFormat_rounded 64 = .ok (.invokevirtual 78, 3) := by decide +kernel
theorem dFormat_rounded_67 : decode cFormat_rounded 67 = .ok (.lreturn, 1) := by decide +kernel
theorem dFormat_rounded_68 : decode cFormat_rounded 68 = .ok (.iload 6, 2) := by decide +kernel
theorem dFormat_rounded_70 : decode cFormat_rounded 70 = .ok (.iload 4, 2) := by decide +kernel
theorem dFormat_rounded_72 : decode cFormat_rounded 72 = .ok (.isub, 1) := by decide +kernel
theorem dFormat_rounded_73 : decode cFormat_rounded 73 = .ok (.istore 8, 2) := by decide +kernel
theorem dFormat_rounded_75 : decode cFormat_rounded 75 = .ok (.iload 8, 2) := by decide +kernel
theorem dFormat_rounded_77 : decode cFormat_rounded 77 = .ok (.ifCond .ge 11, 3) := by decide +kernel
theorem dFormat_rounded_80 : decode cFormat_rounded 80 = .ok (.lload_n 2, 1) := by decide +kernel
theorem dFormat_rounded_81 : decode cFormat_rounded 81 = .ok (.iload 8, 2) := by decide +kernel
theorem dFormat_rounded_83 : decode cFormat_rounded 83 = .ok (.ineg, 1) := by decide +kernel
theorem dFormat_rounded_84 : decode cFormat_rounded 84 = .ok (.lshl, 1) := by decide +kernel
theorem dFormat_rounded_85 : decode cFormat_rounded 85 = .ok (.goto 9, 3) := by decide +kernel
theorem dFormat_rounded_88 : decode cFormat_rounded 88 = .ok (.lload_n 2, 1) := by decide +kernel
theorem dFormat_rounded_89 : decode cFormat_rounded 89 = .ok (.iload 8, 2) := by decide +kernel
theorem dFormat_rounded_91 : decode cFormat_rounded 91 = .ok (.invokestatic 87, 3) := by decide +kernel
theorem dFormat_rounded_94 : decode cFormat_rounded 94 = .ok (.lstore 9, 2) := by decide +kernel
theorem dFormat_rounded_96 : decode cFormat_rounded 96 = .ok (.aload_n 0, 1) := by decide +kernel
theorem dFormat_rounded_97 : decode cFormat_rounded 97 = .ok (.iload_n 1, 1) := by decide +kernel
theorem dFormat_rounded_98 : decode cFormat_rounded 98 = .ok (.iload 7, 2) := by decide +kernel
theorem dFormat_rounded_100 : decode cFormat_rounded 100 = .ok (.i2l, 1) := by decide +kernel
theorem dFormat_rounded_101 : decode cFormat_rounded 101 = .ok (.aload_n 0, 1) := by decide +kernel
theorem dFormat_rounded_102 : decode cFormat_rounded 102 = .ok (.getfield 31, 3) := by decide +kernel
theorem dFormat_rounded_105 : decode cFormat_rounded 105 = .ok (.iconst 1, 1) := by decide +kernel
theorem dFormat_rounded_106 : decode cFormat_rounded 106 = .ok (.isub, 1) := by decide +kernel
theorem dFormat_rounded_107 : decode cFormat_rounded 107 = .ok (.lshl, 1) := by decide +kernel
theorem dFormat_rounded_108 : decode cFormat_rounded 108 = .ok (.lload 9, 2) := by decide +kernel
theorem dFormat_rounded_110 : decode cFormat_rounded 110 = .ok (.ladd, 1) := by decide +kernel
theorem dFormat_rounded_111 : decode cFormat_rounded 111 = .ok (.invokevirtual 78, 3) := by decide +kernel
theorem dFormat_rounded_114 : decode cFormat_rounded 114 = .ok (.lreturn, 1) := by decide +kernel
theorem dConversions_otherFormat_0 : decode cConversions_otherFormat 0 = .ok (.aload_n 0, 1) := by decide +kernel
theorem dConversions_otherFormat_1 : decode cConversions_otherFormat 1 = .ok (.lload_n 2, 1) := by decide +kernel
theorem dConversions_otherFormat_2 : decode cConversions_otherFormat 2 = .ok (.invokevirtual 13, 3) := by decide +kernel
theorem dConversions_otherFormat_5 : decode cConversions_otherFormat 5 = .ok (.ifCond .eq 8, 3) := by decide +kernel
theorem dConversions_otherFormat_8 : decode cConversions_otherFormat 8 = .ok (.aload_n 1, 1) := by decide +kernel
theorem dConversions_otherFormat_9 : decode cConversions_otherFormat 9 = .ok (.getfield 63, 3) := by decide +kernel
theorem dConversions_otherFormat_12 : decode cConversions_otherFormat 12 = .ok (.lreturn, 1) := by decide +kernel
theorem dConversions_otherFormat_13 : decode cConversions_otherFormat 13 = .ok (.aload_n 0, 1) := by decide +kernel
theorem dConversions_otherFormat_14 : decode cConversions_otherFormat 14 = .ok (.lload_n 2, 1) := by decide +kernel
theorem dConversions_otherFormat_15 : decode cConversions_otherFormat 15 = .ok (.invokevirtual 67, 3) := by decide +kernel
theorem dConversions_otherFormat_18 : decode cConversions_otherFormat 18 = .ok (.ifCond .eq 17, 3) := by decide +kernel
theorem dConversions_otherFormat_21 : decode cConversions_otherFormat 21 = .ok (.aload_n 1, 1) := by decide +kernel
theorem dConversions_otherFormat_22 : decode cConversions_otherFormat 22 = .ok (.aload_n 0, 1) := by decide +kernel
theorem dConversions_otherFormat_23 : decode cConversions_otherFormat 23 = .ok (.lload_n 2, 1) := by decide +kernel
theorem dConversions_otherFormat_24 : decode cConversions_otherFormat 24 = .ok (.invokevirtual 70, 3) := by decide +kernel
theorem dConversions_otherFormat_27 : decode cConversions_otherFormat 27 = .ok (.aload_n 1, 1) := by decide +kernel
theorem dConversions_otherFormat_28 : decode cConversions_otherFormat 28 = .ok (.getfield 73, 3) := by decide +kernel
theorem dConversions_otherFormat_31 : decode cConversions_otherFormat 31 = .ok (.invokevirtual 76, 3) := by decide +kernel
theorem dConversions_otherFormat_34 : decode cConversions_otherFormat 34 = .ok (.lreturn, 1) := by decide +kernel
theorem dConversions_otherFormat_35 : decode cConversions_otherFormat 35 = .ok (.aload_n 1, 1) := by decide +kernel
theorem dConversions_otherFormat_36 : decode cConversions_otherFormat 36 = .ok (.aload_n 0, 1) := by decide +kernel
theorem dConversions_otherFormat_37 : decode cConversions_otherFormat 37 = .ok (.lload_n 2, 1) := by decide +kernel
theorem dConversions_otherFormat_38 : decode cConversions_otherFormat 38 = .ok (.invokevirtual 70, 3) := by decide +kernel
theorem dConversions_otherFormat_41 : decode cConversions_otherFormat 41 = .ok (.aload_n 0, 1) := by decide +kernel
theorem dConversions_otherFormat_42 : decode cConversions_otherFormat 42 = .ok (.lload_n 2, 1) := by decide +kernel
theorem dConversions_otherFormat_43 : decode cConversions_otherFormat 43 = .ok (.invokevirtual 80, 3) := by decide +kernel
theorem dConversions_otherFormat_46 : decode cConversions_otherFormat 46 = .ok (.aload_n 0, 1) := by decide +kernel
theorem dConversions_otherFormat_47 : decode cConversions_otherFormat 47 = .ok (.lload_n 2, 1) := by decide +kernel
theorem dConversions_otherFormat_48 : decode cConversions_otherFormat 48 = .ok (.invokevirtual 84, 3) := by decide +kernel
theorem dConversions_otherFormat_51 : decode cConversions_otherFormat 51 = .ok (.invokevirtual 59, 3) := by decide +kernel
theorem dConversions_otherFormat_54 : decode cConversions_otherFormat 54 = .ok (.lreturn, 1) := by decide +kernel
theorem dConversions_fromWhole_0 : decode cConversions_fromWhole 0 = .ok (.iload_n 0, 1) := by decide +kernel
theorem dConversions_fromWhole_1 : decode cConversions_fromWhole 1 = .ok (.ifCond .eq 11, 3) := by decide +kernel
theorem dConversions_fromWhole_4 : decode cConversions_fromWhole 4 = .ok (.iload_n 1, 1) := by decide +kernel
theorem dConversions_fromWhole_5 : decode cConversions_fromWhole 5 = .ok (.lload_n 3, 1) := by decide +kernel
theorem dConversions_fromWhole_6 : decode cConversions_fromWhole 6 = .ok (.invokestatic 42, 3) := by decide +kernel
theorem dConversions_fromWhole_9 : decode cConversions_fromWhole 9 = .ok (.goto 4, 3) := by decide +kernel
theorem dConversions_fromWhole_12 : decode cConversions_fromWhole 12 = .ok (.lload_n 3, 1) := by decide +kernel
theorem dConversions_fromWhole_13 : decode cConversions_fromWhole 13 = .ok (.lstore 5, 2) := by decide +kernel
theorem dConversions_fromWhole_15 : decode cConversions_fromWhole 15 = .ok (.iload_n 0, 1) := by decide +kernel
theorem dConversions_fromWhole_16 : decode cConversions_fromWhole 16 = .ok (.ifCond .eq 14, 3) := by decide +kernel
theorem dConversions_fromWhole_19 : decode cConversions_fromWhole 19 = .ok (.lload 5, 2) := by decide +kernel
theorem dConversions_fromWhole_21 : decode cConversions_fromWhole 21 = .ok (.lconst 0, 1) := by decide +kernel
theorem dConversions_fromWhole_22 : decode cConversions_fromWhole 22 = .ok (.lcmp, 1) := by decide +kernel
theorem dConversions_fromWhole_23 : decode cConversions_fromWhole 23 = .ok (.ifCond .ge 7, 3) := by decide +kernel
theorem dConversions_fromWhole_26 : decode cConversions_fromWhole 26 = .ok (.iconst 1, 1) := by decide +kernel
theorem dConversions_fromWhole_27 : decode cConversions_fromWhole 27 = .ok (.goto 4, 3) := by decide +kernel
theorem dConversions_fromWhole_30 : decode cConversions_fromWhole 30 = .ok (.iconst 0, 1) := by decide +kernel
theorem dConversions_fromWhole_31 : decode cConversions_fromWhole 31 = .ok (.istore 7, 2) := by decide +kernel
theorem dConversions_fromWhole_33 : decode cConversions_fromWhole 33 = .ok (.aload_n 2, 1) := by decide +kernel
theorem dConversions_fromWhole_34 : decode cConversions_fromWhole 34 = .ok (.iload 7, 2) := by decide +kernel
theorem dConversions_fromWhole_36 : decode cConversions_fromWhole 36 = .ok (.iload 7, 2) := by decide +kernel
theorem dConversions_fromWhole_38 : decode cConversions_fromWhole 38 = .ok (.ifCond .eq 9, 3) := by decide +kernel
theorem dConversions_fromWhole_41 : decode cConversions_fromWhole 41 = .ok (.lload 5, 2) := by decide +kernel
theorem dConversions_fromWhole_43 : decode cConversions_fromWhole 43 = .ok (.lneg, 1) := by decide +kernel
theorem dConversions_fromWhole_44 : decode cConversions_fromWhole 44 = .ok (.goto 5, 3) := by decide +kernel
theorem dConversions_fromWhole_47 : decode cConversions_fromWhole 47 = .ok (.lload 5, 2) := by decide +kernel
theorem dConversions_fromWhole_49 : decode cConversions_fromWhole 49 = .ok (.iconst 0, 1) := by decide +kernel
theorem dConversions_fromWhole_50 : decode cConversions_fromWhole 50 = .ok (.invokevirtual 59, 3) := by decide +kernel
theorem dConversions_fromWhole_53 : decode cConversions_fromWhole 53 = .ok (.lreturn, 1) := by decide +kernel
theorem dConversions_lowestWithSign_0 : decode cConversions_lowestWithSign 0 = .ok (.iload_n 0, 1) := by decide +kernel
theorem dConversions_lowestWithSign_1 : decode cConversions_lowestWithSign 1 = .ok (.tableswitch 41 192 195 #[31, 36, 31, 36], 31) := by decide +kernel
theorem dConversions_lowestWithSign_32 : decode cConversions_lowestWithSign 32 = .ok (.lload_n 1, 1) := by decide +kernel
theorem dConversions_lowestWithSign_33 : decode cConversions_lowestWithSign 33 = .ok (.l2i, 1) := by decide +kernel
theorem dConversions_lowestWithSign_34 : decode cConversions_lowestWithSign 34 = .ok (.i2b, 1) := by decide +kernel
theorem dConversions_lowestWithSign_35 : decode cConversions_lowestWithSign 35 = .ok (.i2l, 1) := by decide +kernel
theorem dConversions_lowestWithSign_36 : decode cConversions_lowestWithSign 36 = .ok (.lreturn, 1) := by decide +kernel
theorem dConversions_lowestWithSign_37 : decode cConversions_lowestWithSign 37 = .ok (.lload_n 1, 1) := by decide +kernel
theorem dConversions_lowestWithSign_38 : decode cConversions_lowestWithSign 38 = .ok (.l2i, 1) := by decide +kernel
theorem dConversions_lowestWithSign_39 : decode cConversions_lowestWithSign 39 = .ok (.i2s, 1) := by decide +kernel
theorem dConversions_lowestWithSign_40 : decode cConversions_lowestWithSign 40 = .ok (.i2l, 1) := by decide +kernel
theorem dConversions_lowestWithSign_41 : decode cConversions_lowestWithSign 41 = .ok (.lreturn, 1) := by decide +kernel
theorem dConversions_lowestWithSign_42 : decode cConversions_lowestWithSign 42 = .ok (.lload_n 1, 1) := by decide +kernel
theorem dConversions_lowestWithSign_43 : decode cConversions_lowestWithSign 43 = .ok (.l2i, 1) := by decide +kernel
theorem dConversions_lowestWithSign_44 : decode cConversions_lowestWithSign 44 = .ok (.i2l, 1) := by decide +kernel
theorem dConversions_lowestWithSign_45 : decode cConversions_lowestWithSign 45 = .ok (.lreturn, 1) := by decide +kernel
theorem dConversions_result_0 : decode cConversions_result 0 = .ok (.iload_n 0, 1) := by decide +kernel
theorem dConversions_result_1 : decode cConversions_result 1 = .ok (.invokestatic 31, 3) := by decide +kernel
theorem dConversions_result_4 : decode cConversions_result 4 = .ok (.ifCond .eq 14, 3) := by decide +kernel
theorem dConversions_result_7 : decode cConversions_result 7 = .ok (.iload_n 0, 1) := by decide +kernel
theorem dConversions_result_8 : decode cConversions_result 8 = .ok (.iload_n 1, 1) := by decide +kernel
theorem dConversions_result_9 : decode cConversions_result 9 = .ok (.invokestatic 34, 3) := by decide +kernel
theorem dConversions_result_12 : decode cConversions_result 12 = .ok (.iload_n 2, 1) := by decide +kernel
theorem dConversions_result_13 : decode cConversions_result 13 = .ok (.lload_n 3, 1) := by decide +kernel
theorem dConversions_result_14 : decode cConversions_result 14 = .ok (.invokestatic 38, 3) := by decide +kernel
theorem dConversions_result_17 : decode cConversions_result 17 = .ok (.lreturn, 1) := by decide +kernel
theorem dConversions_result_18 : decode cConversions_result 18 = .ok (.iload_n 0, 1) := by decide +kernel
theorem dConversions_result_19 : decode cConversions_result 19 = .ok (.sipush 167, 3) := by decide +kernel
theorem dConversions_result_22 : decode cConversions_result 22 = .ok (.if_icmp .eq 24, 3) := by decide +kernel
theorem dConversions_result_25 : decode cConversions_result 25 = .ok (.iload_n 0, 1) := by decide +kernel
theorem dConversions_result_26 : decode cConversions_result 26 = .ok (.sipush 173, 3) := by decide +kernel
theorem dConversions_result_29 : decode cConversions_result 29 = .ok (.if_icmp .eq 17, 3) := by decide +kernel
theorem dConversions_result_32 : decode cConversions_result 32 = .ok (.iload_n 0, 1) := by decide +kernel
theorem dConversions_result_33 : decode cConversions_result 33 = .ok (.sipush 188, 3) := by decide +kernel
theorem dConversions_result_36 : decode cConversions_result 36 = .ok (.if_icmp .lt 12, 3) := by decide +kernel
theorem dConversions_result_39 : decode cConversions_result 39 = .ok (.iload_n 0, 1) := by decide +kernel
theorem dConversions_result_40 : decode cConversions_result 40 = .ok (.sipush 191, 3) := by decide +kernel
theorem dConversions_result_43 : decode cConversions_result 43 = .ok (.if_icmp .gt 5, 3) := by decide +kernel
theorem dConversions_result_46 : decode cConversions_result 46 = .ok (.lload_n 3, 1) := by decide +kernel
theorem dConversions_result_47 : decode cConversions_result 47 = .ok (.lreturn, 1) := by decide +kernel
theorem dConversions_result_48 : decode cConversions_result 48 = .ok (.iload_n 0, 1) := by decide +kernel
theorem dConversions_result_49 : decode cConversions_result 49 = .ok (.sipush 172, 3) := by decide +kernel
theorem dConversions_result_52 : decode cConversions_result 52 = .ok (.if_icmp .ne 9, 3) := by decide +kernel
theorem dConversions_result_55 : decode cConversions_result 55 = .ok (.iload_n 1, 1) := by decide +kernel
theorem dConversions_result_56 : decode cConversions_result 56 = .ok (.lload_n 3, 1) := by decide +kernel
theorem dConversions_result_57 : decode cConversions_result 57 = .ok (.invokestatic 42, 3) := by decide +kernel
theorem dConversions_result_60 : decode cConversions_result 60 = .ok (.lreturn, 1) := by decide +kernel
theorem dConversions_result_61 : decode cConversions_result 61 = .ok (.iload_n 0, 1) := by decide +kernel
theorem dConversions_result_62 : decode cConversions_result 62 = .ok (.sipush 182, 3) := by decide +kernel
theorem dConversions_result_65 : decode cConversions_result 65 = .ok (.if_icmp .eq 10, 3) := by decide +kernel
theorem dConversions_result_68 : decode cConversions_result 68 = .ok (.iload_n 0, 1) := by decide +kernel
theorem dConversions_result_69 : decode cConversions_result 69 = .ok (.sipush 187, 3) := by decide +kernel
theorem dConversions_result_72 : decode cConversions_result 72 = .ok (.if_icmp .ne 16, 3) := by decide +kernel
theorem dConversions_result_75 : decode cConversions_result 75 = .ok (.iload_n 1, 1) := by decide +kernel
theorem dConversions_result_76 : decode cConversions_result 76 = .ok (.invokestatic 34, 3) := by decide +kernel
theorem dConversions_result_79 : decode cConversions_result 79 = .ok (.iload_n 2, 1) := by decide +kernel
theorem dConversions_result_80 : decode cConversions_result 80 = .ok (.invokestatic 34, 3) := by decide +kernel
theorem dConversions_result_83 : decode cConversions_result 83 = .ok (.lload_n 3, 1) := by decide +kernel
theorem dConversions_result_84 : decode cConversions_result 84 = .ok (.invokestatic 48, 3) := by decide +kernel
theorem dConversions_result_87 : decode cConversions_result 87 = .ok (.lreturn, 1) := by decide +kernel
theorem dConversions_result_88 : decode cConversions_result 88 = .ok (.iload_n 0, 1) := by decide +kernel
theorem dConversions_result_89 : decode cConversions_result 89 = .ok (.sipush 188, 3) := by decide +kernel
theorem dConversions_result_92 : decode cConversions_result 92 = .ok (.if_icmp .ge 17, 3) := by decide +kernel
theorem dConversions_result_95 : decode cConversions_result 95 = .ok (.iload_n 0, 1) := by decide +kernel
theorem dConversions_result_96 : decode cConversions_result 96 = .ok (.invokestatic 19, 3) := by decide +kernel
theorem dConversions_result_99 : decode cConversions_result 99 = .ok (.iload_n 1, 1) := by decide +kernel
theorem dConversions_result_100 : decode cConversions_result 100 = .ok (.iload_n 2, 1) := by decide +kernel
theorem dConversions_result_101 : decode cConversions_result 101 = .ok (.invokestatic 34, 3) := by decide +kernel
theorem dConversions_result_104 : decode cConversions_result 104 = .ok (.lload_n 3, 1) := by decide +kernel
theorem dConversions_result_105 : decode cConversions_result 105 = .ok (.invokestatic 52, 3) := by decide +kernel
theorem dConversions_result_108 : decode cConversions_result 108 = .ok (.lreturn, 1) := by decide +kernel
theorem dConversions_result_109 : decode cConversions_result 109 = .ok (.iload_n 0, 1) := by decide +kernel
theorem dConversions_result_110 : decode cConversions_result 110 = .ok (.lload_n 3, 1) := by decide +kernel
theorem dConversions_result_111 : decode cConversions_result 111 = .ok (.invokestatic 56, 3) := by decide +kernel
theorem dConversions_result_114 : decode cConversions_result 114 = .ok (.lreturn, 1) := by decide +kernel
theorem dFormat_magnitude_0 : decode cFormat_magnitude 0 = .ok (.lload_n 1, 1) := by decide +kernel
theorem dFormat_magnitude_1 : decode cFormat_magnitude 1 = .ok (.aload_n 0, 1) := by decide +kernel
theorem dFormat_magnitude_2 : decode cFormat_magnitude 2 = .ok (.getfield 41, 3) := by decide +kernel
theorem dFormat_magnitude_5 : decode cFormat_magnitude 5 = .ok (.ldc2_w 56, 3) := by decide +kernel
theorem dFormat_magnitude_8 : decode cFormat_magnitude 8 = .ok (.lxor, 1) := by decide +kernel
theorem dFormat_magnitude_9 : decode cFormat_magnitude 9 = .ok (.land, 1) := by decide +kernel
theorem dFormat_magnitude_10 : decode cFormat_magnitude 10 = .ok (.lreturn, 1) := by decide +kernel
theorem dFloating_number_0 : decode cFloating_number 0 = .ok (.aload_n 0, 1) := by decide +kernel
theorem dFloating_number_1 : decode cFloating_number 1 = .ok (.lload_n 1, 1) := by decide +kernel
theorem dFloating_number_2 : decode cFloating_number 2 = .ok (.invokevirtual 25, 3) := by decide +kernel
theorem dFloating_number_5 : decode cFloating_number 5 = .ok (.lstore_n 3, 1) := by decide +kernel
theorem dFloating_number_6 : decode cFloating_number 6 = .ok (.aload_n 0, 1) := by decide +kernel
theorem dFloating_number_7 : decode cFloating_number 7 = .ok (.lload_n 1, 1) := by decide +kernel
theorem dFloating_number_8 : decode cFloating_number 8 = .ok (.invokevirtual 33, 3) := by decide +kernel
theorem dFloating_number_11 : decode cFloating_number 11 = .ok (.ifCond .eq 8, 3) := by decide +kernel
theorem dFloating_number_14 : decode cFloating_number 14 = .ok (.lload_n 3, 1) := by decide +kernel
theorem dFloating_number_15 : decode cFloating_number 15 = .ok (.lneg, 1) := by decide +kernel
theorem dFloating_number_16 : decode cFloating_number 16 = .ok (.goto 4, 3) := by decide +kernel
theorem dFloating_number_19 : decode cFloating_number 19 = .ok (.lload_n 3, 1) := by decide +kernel
theorem dFloating_number_20 : decode cFloating_number 20 = .ok (.lreturn, 1) := by decide +kernel
theorem dFloating_test_0 : decode cFloating_test 0 = .ok (.aload_n 1, 1) := by decide +kernel
theorem dFloating_test_1 : decode cFloating_test 1 = .ok (.lload_n 2, 1) := by decide +kernel
theorem dFloating_test_2 : decode cFloating_test 2 = .ok (.invokevirtual 7, 3) := by decide +kernel
theorem dFloating_test_5 : decode cFloating_test 5 = .ok (.ifCond .ne 12, 3) := by decide +kernel
theorem dFloating_test_8 : decode cFloating_test 8 = .ok (.aload_n 1, 1) := by decide +kernel
theorem dFloating_test_9 : decode cFloating_test 9 = .ok (.lload 4, 2) := by decide +kernel
theorem dFloating_test_11 : decode cFloating_test 11 = .ok (.invokevirtual 7, 3) := by decide +kernel
theorem dFloating_test_14 : decode cFloating_test 14 = .ok (.ifCond .eq 14, 3) := by decide +kernel
theorem dFloating_test_17 : decode cFloating_test 17 = .ok (.iload_n 0, 1) := by decide +kernel
theorem dFloating_test_18 : decode cFloating_test 18 = .ok (.iconst 1, 1) := by decide +kernel
theorem dFloating_test_19 : decode cFloating_test 19 = .ok (.if_icmp .ne 7, 3) := by decide +kernel
theorem dFloating_test_22 : decode cFloating_test 22 = .ok (.iconst 1, 1) := by decide +kernel
theorem dFloating_test_23 : decode cFloating_test 23 = .ok (.goto 4, 3) := by decide +kernel
theorem dFloating_test_26 : decode cFloating_test 26 = .ok (.iconst 0, 1) := by decide +kernel
theorem dFloating_test_27 : decode cFloating_test 27 = .ok (.ireturn, 1) := by decide +kernel
theorem dFloating_test_28 : decode cFloating_test 28 = .ok (.aload_n 1, 1) := by decide +kernel
theorem dFloating_test_29 : decode cFloating_test 29 = .ok (.lload_n 2, 1) := by decide +kernel
theorem dFloating_test_30 : decode cFloating_test 30 = .ok (.invokestatic 15, 3) := by decide +kernel
theorem dFloating_test_33 : decode cFloating_test 33 = .ok (.aload_n 1, 1) := by decide +kernel
theorem dFloating_test_34 : decode cFloating_test 34 = .ok (.lload 4, 2) := by decide +kernel
theorem dFloating_test_36 : decode cFloating_test 36 = .ok (.invokestatic 15, 3) := by decide +kernel
theorem dFloating_test_39 : decode cFloating_test 39 = .ok (.invokestatic 19, 3) := by decide +kernel
theorem dFloating_test_42 : decode cFloating_test 42 = .ok (.istore 6, 2) := by decide +kernel
theorem dFloating_test_44 : decode cFloating_test 44 = .ok (.iload_n 0, 1) := by decide +kernel
theorem dFloating_test_45 : decode cFloating_test 45 = .ok (.tableswitch 105 0 5 #[39, 50, 61, 72, 83, 94], 39) := by decide +kernel
theorem dFloating_test_84 : decode cFloating_test 84 = .ok (.iload 6, 2) := by decide +kernel
theorem dFloating_test_86 : decode cFloating_test 86 = .ok (.ifCond .ne 7, 3) := by decide +kernel
theorem dFloating_test_89 : decode cFloating_test 89 = .ok (.iconst 1, 1) := by decide +kernel
theorem dFloating_test_90 : decode cFloating_test 90 = .ok (.goto 4, 3) := by decide +kernel
theorem dFloating_test_93 : decode cFloating_test 93 = .ok (.iconst 0, 1) := by decide +kernel
theorem dFloating_test_94 : decode cFloating_test 94 = .ok (.ireturn, 1) := by decide +kernel
theorem dFloating_test_95 : decode cFloating_test 95 = .ok (.iload 6, 2) := by decide +kernel
theorem dFloating_test_97 : decode cFloating_test 97 = .ok (.ifCond .eq 7, 3) := by decide +kernel
theorem dFloating_test_100 : decode cFloating_test 100 = .ok (.iconst 1, 1) := by decide +kernel
theorem dFloating_test_101 : decode cFloating_test 101 = .ok (.goto 4, 3) := by decide +kernel
theorem dFloating_test_104 : decode cFloating_test 104 = .ok (.iconst 0, 1) := by decide +kernel
theorem dFloating_test_105 : decode cFloating_test 105 = .ok (.ireturn, 1) := by decide +kernel
theorem dFloating_test_106 : decode cFloating_test 106 = .ok (.iload 6, 2) := by decide +kernel
theorem dFloating_test_108 : decode cFloating_test 108 = .ok (.ifCond .ge 7, 3) := by decide +kernel
theorem dFloating_test_111 : decode cFloating_test 111 = .ok (.iconst 1, 1) := by decide +kernel
theorem dFloating_test_112 : decode cFloating_test 112 = .ok (.goto 4, 3) := by decide +kernel
theorem dFloating_test_115 : decode cFloating_test 115 = .ok (.iconst 0, 1) := by decide +kernel
theorem dFloating_test_116 : decode cFloating_test 116 = .ok (.ireturn, 1) := by decide +kernel
theorem dFloating_test_117 : decode cFloating_test 117 = .ok (.iload 6, 2) := by decide +kernel
theorem dFloating_test_119 : decode cFloating_test 119 = .ok (.ifCond .le 7, 3) := by decide +kernel
theorem dFloating_test_122 : decode cFloating_test 122 = .ok (.iconst 1, 1) := by decide +kernel
theorem dFloating_test_123 : decode cFloating_test 123 = .ok (.goto 4, 3) := by decide +kernel
theorem dFloating_test_126 : decode cFloating_test 126 = .ok (.iconst 0, 1) := by decide +kernel
theorem dFloating_test_127 : decode cFloating_test 127 = .ok (.ireturn, 1) := by decide +kernel
theorem dFloating_test_128 : decode cFloating_test 128 = .ok (.iload 6, 2) := by decide +kernel
theorem dFloating_test_130 : decode cFloating_test 130 = .ok (.ifCond .gt 7, 3) := by decide +kernel
theorem dFloating_test_133 : decode cFloating_test 133 = .ok (.iconst 1, 1) := by decide +kernel
theorem dFloating_test_134 : decode cFloating_test 134 = .ok (.goto 4, 3) := by decide +kernel
theorem dFloating_test_137 : decode cFloating_test 137 = .ok (.iconst 0, 1) := by decide +kernel
theorem dFloating_test_138 : decode cFloating_test 138 = .ok (.ireturn, 1) := by decide +kernel
theorem dFloating_test_139 : decode cFloating_test 139 = .ok (.iload 6, 2) := by decide +kernel
theorem dFloating_test_141 : decode cFloating_test 141 = .ok (.ifCond .lt 7, 3) := by decide +kernel
theorem dFloating_test_144 : decode cFloating_test 144 = .ok (.iconst 1, 1) := by decide +kernel
theorem dFloating_test_145 : decode cFloating_test 145 = .ok (.goto 4, 3) := by decide +kernel
theorem dFloating_test_148 : decode cFloating_test 148 = .ok (.iconst 0, 1) := by decide +kernel
theorem dFloating_test_149 : decode cFloating_test 149 = .ok (.ireturn, 1) := by decide +kernel
theorem dFloating_test_150 : decode cFloating_test 150 = .ok (.iconst 0, 1) := by decide +kernel
theorem dFloating_test_151 : decode cFloating_test 151 = .ok (.ireturn, 1) := by decide +kernel
theorem dMath_min_0 : decode cMath_min 0 = .ok (.iload_n 0, 1) := by decide +kernel
theorem dMath_min_1 : decode cMath_min 1 = .ok (.iload_n 1, 1) := by decide +kernel
theorem dMath_min_2 : decode cMath_min 2 = .ok (.if_icmp .gt 7, 3) := by decide +kernel
theorem dMath_min_5 : decode cMath_min 5 = .ok (.iload_n 0, 1) := by decide +kernel
theorem dMath_min_6 : decode cMath_min 6 = .ok (.goto 4, 3) := by decide +kernel
theorem dMath_min_9 : decode cMath_min 9 = .ok (.iload_n 1, 1) := by decide +kernel
theorem dMath_min_10 : decode cMath_min 10 = .ok (.ireturn, 1) := by decide +kernel
theorem dFloating_wholeNumber_0 : decode cFloating_wholeNumber 0 = .ok (.aload_n 1, 1) := by decide +kernel
theorem dFloating_wholeNumber_1 : decode cFloating_wholeNumber 1 = .ok (.lload_n 2, 1) := by decide +kernel
theorem dFloating_wholeNumber_2 : decode cFloating_wholeNumber 2 = .ok (.invokevirtual 69, 3) := by decide +kernel
theorem dFloating_wholeNumber_5 : decode cFloating_wholeNumber 5 = .ok (.ineg, 1) := by decide +kernel
theorem dFloating_wholeNumber_6 : decode cFloating_wholeNumber 6 = .ok (.istore 4, 2) := by decide +kernel
theorem dFloating_wholeNumber_8 : decode cFloating_wholeNumber 8 = .ok (.iload 4, 2) := by decide +kernel
theorem dFloating_wholeNumber_10 : decode cFloating_wholeNumber 10 = .ok (.ifCond .gt 5, 3) := by decide +kernel
theorem dFloating_wholeNumber_13 : decode cFloating_wholeNumber 13 = .ok (.lload_n 2, 1) := by decide +kernel
theorem dFloating_wholeNumber_14 : decode cFloating_wholeNumber 14 = .ok (.lreturn, 1) := by decide +kernel
theorem dFloating_wholeNumber_15 : decode cFloating_wholeNumber 15 = .ok (.aload_n 1, 1) := by decide +kernel
theorem dFloating_wholeNumber_16 : decode cFloating_wholeNumber 16 = .ok (.lload_n 2, 1) := by decide +kernel
theorem dFloating_wholeNumber_17 : decode cFloating_wholeNumber 17 = .ok (.invokevirtual 33, 3) := by decide +kernel
theorem dFloating_wholeNumber_20 : decode cFloating_wholeNumber 20 = .ok (.istore 5, 2) := by decide +kernel
theorem dFloating_wholeNumber_22 : decode cFloating_wholeNumber 22 = .ok (.aload_n 1, 1) := by decide +kernel
theorem dFloating_wholeNumber_23 : decode cFloating_wholeNumber 23 = .ok (.lload_n 2, 1) := by decide +kernel
theorem dFloating_wholeNumber_24 : decode cFloating_wholeNumber 24 = .ok (.invokevirtual 73, 3) := by decide +kernel
theorem dFloating_wholeNumber_27 : decode cFloating_wholeNumber 27 = .ok (.lstore 6, 2) := by decide +kernel
theorem dFloating_wholeNumber_29 : decode cFloating_wholeNumber 29 = .ok (.iload_n 0, 1) := by decide +kernel
theorem dFloating_wholeNumber_30 : decode cFloating_wholeNumber 30 = .ok (.iconst 5, 1) := by decide +kernel
theorem dFloating_wholeNumber_31 : decode cFloating_wholeNumber 31 = .ok (.if_icmp .ne 18, 3) := by decide +kernel
theorem dFloating_wholeNumber_34 : decode cFloating_wholeNumber 34 = .ok (.aload_n 1, 1) := by decide +kernel
theorem dFloating_wholeNumber_35 : decode cFloating_wholeNumber 35 = .ok (.iload 5, 2) := by decide +kernel
theorem dFloating_wholeNumber_37 : decode cFloating_wholeNumber 37 = .ok (.lload 6, 2) := by decide +kernel
theorem dFloating_wholeNumber_39 : decode cFloating_wholeNumber 39 = .ok (.iload 4, 2) := by decide +kernel
theorem dFloating_wholeNumber_41 : decode cFloating_wholeNumber 41 = .ok (.invokestatic 76, 3) := by decide +kernel
theorem dFloating_wholeNumber_44 : decode cFloating_wholeNumber 44 = .ok (.iconst 0, 1) := by decide +kernel
theorem dFloating_wholeNumber_45 : decode cFloating_wholeNumber 45 = .ok (.invokevirtual 80, 3) := by decide +kernel
theorem dFloating_wholeNumber_48 : decode cFloating_wholeNumber 48 = .ok (.lreturn, 1) := by decide +kernel
theorem dFloating_wholeNumber_49 : decode cFloating_wholeNumber 49 = .ok (.iload 4, 2) := by decide +kernel
theorem dFloating_wholeNumber_51 : decode cFloating_wholeNumber 51 = .ok (.bipush 63, 2) := by decide +kernel
theorem dFloating_wholeNumber_53 : decode cFloating_wholeNumber 53 = .ok (.invokestatic 84, 3) := by decide +kernel
theorem dFloating_wholeNumber_56 : decode cFloating_wholeNumber 56 = .ok (.istore 8, 2) := by decide +kernel
theorem dFloating_wholeNumber_58 : decode cFloating_wholeNumber 58 = .ok (.lload 6, 2) := by decide +kernel
theorem dFloating_wholeNumber_60 : decode cFloating_wholeNumber 60 = .ok (.iload 8, 2) := by decide +kernel
theorem dFloating_wholeNumber_62 : decode cFloating_wholeNumber 62 = .ok (.lushr, 1) := by decide +kernel
theorem dFloating_wholeNumber_63 : decode cFloating_wholeNumber 63 = .ok (.lstore 9, 2) := by decide +kernel
theorem dFloating_wholeNumber_65 : decode cFloating_wholeNumber 65 = .ok (.lload 9, 2) := by decide +kernel
theorem dFloating_wholeNumber_67 : decode cFloating_wholeNumber 67 = .ok (.iload 8, 2) := by decide +kernel
theorem dFloating_wholeNumber_69 : decode cFloating_wholeNumber 69 = .ok (.lshl, 1) := by decide +kernel
theorem dFloating_wholeNumber_70 : decode cFloating_wholeNumber 70 = .ok (.lload 6, 2) := by decide +kernel
theorem dFloating_wholeNumber_72 : decode cFloating_wholeNumber 72 = .ok (.lcmp, 1) := by decide +kernel
theorem dFloating_wholeNumber_73 : decode cFloating_wholeNumber 73 = .ok (.ifCond .eq 7, 3) := by decide +kernel
theorem dFloating_wholeNumber_76 : decode cFloating_wholeNumber 76 = .ok (.iconst 1, 1) := by decide +kernel
theorem dFloating_wholeNumber_77 : decode cFloating_wholeNumber 77 = .ok (.goto 4, 3) := by decide +kernel
theorem dFloating_wholeNumber_80 : decode cFloating_wholeNumber 80 = .ok (.iconst 0, 1) := by decide +kernel
theorem dFloating_wholeNumber_81 : decode cFloating_wholeNumber 81 = .ok (.istore 11, 2) := by decide +kernel
theorem dFloating_wholeNumber_83 : decode cFloating_wholeNumber 83 = .ok (.iload_n 0, 1) := by decide +kernel
theorem dFloating_wholeNumber_84 : decode cFloating_wholeNumber 84 = .ok (.iconst 2, 1) := by decide +kernel
theorem dFloating_wholeNumber_85 : decode cFloating_wholeNumber 85 = .ok (.if_icmp .ne 8, 3) := by decide +kernel
theorem dFloating_wholeNumber_88 : decode cFloating_wholeNumber 88 = .ok (.iload 5, 2) := by decide +kernel
theorem dFloating_wholeNumber_90 : decode cFloating_wholeNumber 90 = .ok (.ifCond .eq 13, 3) := by decide +kernel
theorem dFloating_wholeNumber_93 : decode cFloating_wholeNumber 93 = .ok (.iload_n 0, 1) := by decide +kernel
theorem dFloating_wholeNumber_94 : decode cFloating_wholeNumber 94 = .ok (.iconst 3, 1) := by decide +kernel
theorem dFloating_wholeNumber_95 : decode cFloating_wholeNumber 95 = .ok (.if_icmp .ne 12, 3) := by decide +kernel
theorem dFloating_wholeNumber_98 : decode cFloating_wholeNumber 98 = .ok (.iload 5, 2) := by decide +kernel
theorem dFloating_wholeNumber_100 : decode cFloating_wholeNumber 100 = .ok (.ifCond .eq 7, 3) := by decide +kernel
theorem dFloating_wholeNumber_103 : decode cFloating_wholeNumber 103 = .ok (.iconst 1, 1) := by decide +kernel
theorem dFloating_wholeNumber_104 : decode cFloating_wholeNumber 104 = .ok (.goto 4, 3) := by decide +kernel
theorem dFloating_wholeNumber_107 : decode cFloating_wholeNumber 107 = .ok (.iconst 0, 1) := by decide +kernel
theorem dFloating_wholeNumber_108 : decode cFloating_wholeNumber 108 = .ok (.istore 12, 2) := by decide +kernel
theorem dFloating_wholeNumber_110 : decode cFloating_wholeNumber 110 = .ok (.aload_n 1, 1) := by decide +kernel
theorem dFloating_wholeNumber_111 : decode cFloating_wholeNumber 111 = .ok (.iload 5, 2) := by decide +kernel
theorem dFloating_wholeNumber_113 : decode cFloating_wholeNumber 113 = .ok (.iload 11, 2) := by decide +kernel
theorem dFloating_wholeNumber_115 : decode cFloating_wholeNumber 115 = .ok (.ifCond .eq 15, 3) := by decide +kernel
theorem dFloating_wholeNumber_118 : decode cFloating_wholeNumber 118 = .ok (.iload 12, 2) := by decide +kernel
theorem dFloating_wholeNumber_120 : decode cFloating_wholeNumber 120 = .ok (.ifCond .eq 10, 3) := by decide +kernel
theorem dFloating_wholeNumber_123 : decode cFloating_wholeNumber 123 = .ok (.lload 9, 2) := by decide +kernel
theorem dFloating_wholeNumber_125 : decode cFloating_wholeNumber 125 = .ok (.lconst 1, 1) := by decide +kernel
theorem dFloating_wholeNumber_126 : decode cFloating_wholeNumber 126 = .ok (.ladd, 1) := by decide +kernel
theorem dFloating_wholeNumber_127 : decode cFloating_wholeNumber 127 = .ok (.goto 5, 3) := by decide +kernel
theorem dFloating_wholeNumber_130 : decode cFloating_wholeNumber 130 = .ok (.lload 9, 2) := by decide +kernel
theorem dFloating_wholeNumber_132 : decode cFloating_wholeNumber 132 = .ok (.iconst 0, 1) := by decide +kernel
theorem dFloating_wholeNumber_133 : decode cFloating_wholeNumber 133 = .ok (.invokevirtual 80, 3) := by decide +kernel
theorem dFloating_wholeNumber_136 : decode cFloating_wholeNumber 136 = .ok (.lreturn, 1) := by decide +kernel
theorem dFormat_isZero_0 : decode cFormat_isZero 0 = .ok (.lload_n 1, 1) := by decide +kernel
theorem dFormat_isZero_1 : decode cFormat_isZero 1 = .ok (.aload_n 0, 1) := by decide +kernel
theorem dFormat_isZero_2 : decode cFormat_isZero 2 = .ok (.getfield 41, 3) := by decide +kernel
theorem dFormat_isZero_5 : decode cFormat_isZero 5 = .ok (.ldc2_w 56, 3) := by decide +kernel
theorem dFormat_isZero_8 : decode cFormat_isZero 8 = .ok (.lxor, 1) := by decide +kernel
theorem dFormat_isZero_9 : decode cFormat_isZero 9 = .ok (.land, 1) := by decide +kernel
theorem dFormat_isZero_10 : decode cFormat_isZero 10 = .ok (.lconst 0, 1) := by decide +kernel
theorem dFormat_isZero_11 : decode cFormat_isZero 11 = .ok (.lcmp, 1) := by decide +kernel
theorem dFormat_isZero_12 : decode cFormat_isZero 12 = .ok (.ifCond .ne 7, 3) := by decide +kernel
theorem dFormat_isZero_15 : decode cFormat_isZero 15 = .ok (.iconst 1, 1) := by decide +kernel
theorem dFormat_isZero_16 : decode cFormat_isZero 16 = .ok (.goto 4, 3) := by decide +kernel
theorem dFormat_isZero_19 : decode cFormat_isZero 19 = .ok (.iconst 0, 1) := by decide +kernel
theorem dFormat_isZero_20 : decode cFormat_isZero 20 = .ok (.ireturn, 1) := by decide +kernel
theorem dFloating_lift_0 : decode cFloating_lift 0 = .ok (.bipush 62, 2) := by decide +kernel
theorem dFloating_lift_2 : decode cFloating_lift 2 = .ok (.lload_n 0, 1) := by decide +kernel
theorem dFloating_lift_3 : decode cFloating_lift 3 = .ok (.invokestatic 120, 3) := by decide +kernel
theorem dFloating_lift_6 : decode cFloating_lift 6 = .ok (.isub, 1) := by decide +kernel
theorem dFloating_lift_7 : decode cFloating_lift 7 = .ok (.ireturn, 1) := by decide +kernel
theorem dFloating_root_0 : decode cFloating_root 0 = .ok (.aload_n 0, 1) := by decide +kernel
theorem dFloating_root_1 : decode cFloating_root 1 = .ok (.lload_n 1, 1) := by decide +kernel
theorem dFloating_root_2 : decode cFloating_root 2 = .ok (.invokevirtual 90, 3) := by decide +kernel
theorem dFloating_root_5 : decode cFloating_root 5 = .ok (.ifCond .eq 5, 3) := by decide +kernel
theorem dFloating_root_8 : decode cFloating_root 8 = .ok (.lload_n 1, 1) := by decide +kernel
theorem dFloating_root_9 : decode cFloating_root 9 = .ok (.lreturn, 1) := by decide +kernel
theorem dFloating_root_10 : decode cFloating_root 10 = .ok (.aload_n 0, 1) := by decide +kernel
theorem dFloating_root_11 : decode cFloating_root 11 = .ok (.lload_n 1, 1) := by decide +kernel
theorem dFloating_root_12 : decode cFloating_root 12 = .ok (.invokevirtual 33, 3) := by decide +kernel
theorem dFloating_root_15 : decode cFloating_root 15 = .ok (.ifCond .eq 8, 3) := by decide +kernel
theorem dFloating_root_18 : decode cFloating_root 18 = .ok (.aload_n 0, 1) := by decide +kernel
theorem dFloating_root_19 : decode cFloating_root 19 = .ok (.getfield 40, 3) := by decide +kernel
theorem dFloating_root_22 : decode cFloating_root 22 = .ok (.lreturn, 1) := by decide +kernel
theorem dFloating_root_23 : decode cFloating_root 23 = .ok (.aload_n 0, 1) := by decide +kernel
theorem dFloating_root_24 : decode cFloating_root 24 = .ok (.lload_n 1, 1) := by decide +kernel
theorem dFloating_root_25 : decode cFloating_root 25 = .ok (.invokevirtual 93, 3) := by decide +kernel
theorem dFloating_root_28 : decode cFloating_root 28 = .ok (.ifCond .eq 5, 3) := by decide +kernel
theorem dFloating_root_31 : decode cFloating_root 31 = .ok (.lload_n 1, 1) := by decide +kernel
theorem dFloating_root_32 : decode cFloating_root 32 = .ok (.lreturn, 1) := by decide +kernel
theorem dFloating_root_33 : decode cFloating_root 33 = .ok (.aload_n 0, 1) := by decide +kernel
theorem dFloating_root_34 : decode cFloating_root 34 = .ok (.lload_n 1, 1) := by decide +kernel
theorem dFloating_root_35 : decode cFloating_root 35 = .ok (.invokevirtual 73, 3) := by decide +kernel
theorem dFloating_root_38 : decode cFloating_root 38 = .ok (.invokestatic 96, 3) := by decide +kernel
theorem dFloating_root_41 : decode cFloating_root 41 = .ok (.istore_n 3, 1) := by decide +kernel
theorem dFloating_root_42 : decode cFloating_root 42 = .ok (.iload_n 3, 1) := by decide +kernel
theorem dFloating_root_43 : decode cFloating_root 43 = .ok (.aload_n 0, 1) := by decide +kernel
theorem dFloating_root_44 : decode cFloating_root 44 = .ok (.lload_n 1, 1) := by decide +kernel
theorem dFloating_root_45 : decode cFloating_root 45 = .ok (.invokevirtual 69, 3) := by decide +kernel
theorem dFloating_root_48 : decode cFloating_root 48 = .ok (.iload_n 3, 1) := by decide +kernel
theorem dFloating_root_49 : decode cFloating_root 49 = .ok (.isub, 1) := by decide +kernel
theorem dFloating_root_50 : decode cFloating_root 50 = .ok (.iconst 1, 1) := by decide +kernel
theorem dFloating_root_51 : decode cFloating_root 51 = .ok (.iand, 1) := by decide +kernel
theorem dFloating_root_52 : decode cFloating_root 52 = .ok (.isub, 1) := by decide +kernel
theorem dFloating_root_53 : decode cFloating_root 53 = .ok (.istore_n 3, 1) := by decide +kernel
theorem dFloating_root_54 : decode cFloating_root 54 = .ok (.aload_n 0, 1) := by decide +kernel
theorem dFloating_root_55 : decode cFloating_root 55 = .ok (.lload_n 1, 1) := by decide +kernel
theorem dFloating_root_56 : decode cFloating_root 56 = .ok (.invokevirtual 73, 3) := by decide +kernel
theorem dFloating_root_59 : decode cFloating_root 59 = .ok (.iload_n 3, 1) := by decide +kernel
theorem dFloating_root_60 : decode cFloating_root 60 = .ok (.lshl, 1) := by decide +kernel
theorem dFloating_root_61 : decode cFloating_root 61 = .ok (.lstore 4, 2) := by decide +kernel
theorem dFloating_root_63 : decode cFloating_root 63 = .ok (.lconst 0, 1) := by decide +kernel
theorem dFloating_root_64 : decode cFloating_root 64 = .ok (.lstore 6, 2) := by decide +kernel
theorem dFloating_root_66 : decode cFloating_root 66 = .ok (.lconst 0, 1) := by decide +kernel
theorem dFloating_root_67 : decode cFloating_root 67 = .ok (.lstore 8, 2) := by decide +kernel
theorem dFloating_root_69 : decode cFloating_root 69 = .ok (.iconst 0, 1) := by decide +kernel
theorem dFloating_root_70 : decode cFloating_root 70 = .ok (.istore 10, 2) := by decide +kernel
theorem dFloating_root_72 : decode cFloating_root 72 = .ok (.iload 10, 2) := by decide +kernel
theorem dFloating_root_74 : decode cFloating_root 74 = .ok (.bipush 57, 2) := by decide +kernel
theorem dFloating_root_76 : decode cFloating_root 76 = .ok (.if_icmp .ge 66, 3) := by decide +kernel
theorem dFloating_root_79 : decode cFloating_root 79 = .ok (.lload 8, 2) := by decide +kernel
theorem dFloating_root_81 : decode cFloating_root 81 = .ok (.iconst 2, 1) := by decide +kernel
theorem dFloating_root_82 : decode cFloating_root 82 = .ok (.lshl, 1) := by decide +kernel
theorem dFloating_root_83 : decode cFloating_root 83 = .ok (.lload 4, 2) := by decide +kernel
theorem dFloating_root_85 : decode cFloating_root 85 = .ok (.bipush 60, 2) := by decide +kernel
theorem dFloating_root_87 : decode cFloating_root 87 = .ok (.lushr, 1) := by decide +kernel
theorem dFloating_root_88 : decode cFloating_root 88 = .ok (.ldc2_w 99, 3) := by decide +kernel
theorem dFloating_root_91 : decode cFloating_root 91 = .ok (.land, 1) := by decide +kernel
theorem dFloating_root_92 : decode cFloating_root 92 = .ok (.lor, 1) := by decide +kernel
theorem dFloating_root_93 : decode cFloating_root 93 = .ok (.lstore 8, 2) := by decide +kernel
theorem dFloating_root_95 : decode cFloating_root 95 = .ok (.lload 4, 2) := by decide +kernel
theorem dFloating_root_97 : decode cFloating_root 97 = .ok (.iconst 2, 1) := by decide +kernel
theorem dFloating_root_98 : decode cFloating_root 98 = .ok (.lshl, 1) := by decide +kernel
theorem dFloating_root_99 : decode cFloating_root 99 = .ok (.lstore 4, 2) := by decide +kernel
theorem dFloating_root_101 : decode cFloating_root 101 = .ok (.lload 6, 2) := by decide +kernel
theorem dFloating_root_103 : decode cFloating_root 103 = .ok (.iconst 2, 1) := by decide +kernel
theorem dFloating_root_104 : decode cFloating_root 104 = .ok (.lshl, 1) := by decide +kernel
theorem dFloating_root_105 : decode cFloating_root 105 = .ok (.lconst 1, 1) := by decide +kernel
theorem dFloating_root_106 : decode cFloating_root 106 = .ok (.lor, 1) := by decide +kernel
theorem dFloating_root_107 : decode cFloating_root 107 = .ok (.lstore 11, 2) := by decide +kernel
theorem dFloating_root_109 : decode cFloating_root 109 = .ok (.lload 6, 2) := by decide +kernel
theorem dFloating_root_111 : decode cFloating_root 111 = .ok (.iconst 1, 1) := by decide +kernel
theorem dFloating_root_112 : decode cFloating_root 112 = .ok (.lshl, 1) := by decide +kernel
theorem dFloating_root_113 : decode cFloating_root 113 = .ok (.lstore 6, 2) := by decide +kernel
theorem dFloating_root_115 : decode cFloating_root 115 = .ok (.lload 8, 2) := by decide +kernel
theorem dFloating_root_117 : decode cFloating_root 117 = .ok (.lload 11, 2) := by decide +kernel
theorem dFloating_root_119 : decode cFloating_root 119 = .ok (.lcmp, 1) := by decide +kernel
theorem dFloating_root_120 : decode cFloating_root 120 = .ok (.ifCond .lt 16, 3) := by decide +kernel
theorem dFloating_root_123 : decode cFloating_root 123 = .ok (.lload 8, 2) := by decide +kernel
theorem dFloating_root_125 : decode cFloating_root 125 = .ok (.lload 11, 2) := by decide +kernel
theorem dFloating_root_127 : decode cFloating_root 127 = .ok (.lsub, 1) := by decide +kernel
theorem dFloating_root_128 : decode cFloating_root 128 = .ok (.lstore 8, 2) := by decide +kernel
theorem dFloating_root_130 : decode cFloating_root 130 = .ok (.lload 6, 2) := by decide +kernel
theorem dFloating_root_132 : decode cFloating_root 132 = .ok (.lconst 1, 1) := by decide +kernel
theorem dFloating_root_133 : decode cFloating_root 133 = .ok (.lor, 1) := by decide +kernel
theorem dFloating_root_134 : decode cFloating_root 134 = .ok (.lstore 6, 2) := by decide +kernel
theorem dFloating_root_136 : decode cFloating_root 136 = .ok (.iinc 10 1, 3) := by decide +kernel
theorem dFloating_root_139 : decode cFloating_root 139 = .ok (.goto (-67), 3) := by decide +kernel
theorem dFloating_root_142 : decode cFloating_root 142 = .ok (.aload_n 0, 1) := by decide +kernel
theorem dFloating_root_143 : decode cFloating_root 143 = .ok (.lload_n 1, 1) := by decide +kernel
theorem dFloating_root_144 : decode cFloating_root 144 = .ok (.invokevirtual 69, 3) := by decide +kernel
theorem dFloating_root_147 : decode cFloating_root 147 = .ok (.iload_n 3, 1) := by decide +kernel
theorem dFloating_root_148 : decode cFloating_root 148 = .ok (.isub, 1) := by decide +kernel
theorem dFloating_root_149 : decode cFloating_root 149 = .ok (.iconst 2, 1) := by decide +kernel
theorem dFloating_root_150 : decode cFloating_root 150 = .ok (.idiv, 1) := by decide +kernel
theorem dFloating_root_151 : decode cFloating_root 151 = .ok (.bipush 31, 2) := by decide +kernel
theorem dFloating_root_153 : decode cFloating_root 153 = .ok (.iadd, 1) := by decide +kernel
theorem dFloating_root_154 : decode cFloating_root 154 = .ok (.bipush 57, 2) := by decide +kernel
theorem dFloating_root_156 : decode cFloating_root 156 = .ok (.isub, 1) := by decide +kernel
theorem dFloating_root_157 : decode cFloating_root 157 = .ok (.istore 10, 2) := by decide +kernel
theorem dFloating_root_159 : decode cFloating_root 159 = .ok (.aload_n 0, 1) := by decide +kernel
theorem dFloating_root_160 : decode cFloating_root 160 = .ok (.iconst 0, 1) := by decide +kernel
theorem dFloating_root_161 : decode cFloating_root 161 = .ok (.lload 8, 2) := by decide +kernel
theorem dFloating_root_163 : decode cFloating_root 163 = .ok (.lconst 0, 1) := by decide +kernel
theorem dFloating_root_164 : decode cFloating_root 164 = .ok (.lcmp, 1) := by decide +kernel
theorem dFloating_root_165 : decode cFloating_root 165 = .ok (.ifCond .ne 8, 3) := by decide +kernel
theorem dFloating_root_168 : decode cFloating_root 168 = .ok (.lload 6, 2) := by decide +kernel
theorem dFloating_root_170 : decode cFloating_root 170 = .ok (.goto 7, 3) := by decide +kernel
theorem dFloating_root_173 : decode cFloating_root 173 = .ok (.lload 6, 2) := by decide +kernel
theorem dFloating_root_175 : decode cFloating_root 175 = .ok (.lconst 1, 1) := by decide +kernel
theorem dFloating_root_176 : decode cFloating_root 176 = .ok (.lor, 1) := by decide +kernel
theorem dFloating_root_177 : decode cFloating_root 177 = .ok (.iload 10, 2) := by decide +kernel
theorem dFloating_root_179 : decode cFloating_root 179 = .ok (.invokevirtual 80, 3) := by decide +kernel
theorem dFloating_root_182 : decode cFloating_root 182 = .ok (.lreturn, 1) := by decide +kernel
theorem dFloating_sumWithInfinite_0 : decode cFloating_sumWithInfinite 0 = .ok (.aload_n 0, 1) := by decide +kernel
theorem dFloating_sumWithInfinite_1 : decode cFloating_sumWithInfinite 1 = .ok (.lload_n 1, 1) := by decide +kernel
theorem dFloating_sumWithInfinite_2 : decode cFloating_sumWithInfinite 2 = .ok (.invokevirtual 93, 3) := by decide +kernel
theorem dFloating_sumWithInfinite_5 : decode cFloating_sumWithInfinite 5 = .ok (.ifCond .eq 15, 3) := by decide +kernel
theorem dFloating_sumWithInfinite_8 : decode cFloating_sumWithInfinite 8 = .ok (.aload_n 0, 1) := by decide +kernel
theorem dFloating_sumWithInfinite_9 : decode cFloating_sumWithInfinite 9 = .ok (.lload_n 3, 1) := by decide +kernel
theorem dFloating_sumWithInfinite_10 : decode cFloating_sumWithInfinite 10 = .ok (.invokevirtual 93, 3) := by decide +kernel
theorem dFloating_sumWithInfinite_13 : decode cFloating_sumWithInfinite 13 = .ok (.ifCond .eq 7, 3) := by decide +kernel
theorem dFloating_sumWithInfinite_16 : decode cFloating_sumWithInfinite 16 = .ok (.iconst 1, 1) := by decide +kernel
theorem dFloating_sumWithInfinite_17 : decode cFloating_sumWithInfinite 17 = .ok (.goto 4, 3) := by decide +kernel
theorem dFloating_sumWithInfinite_20 : decode cFloating_sumWithInfinite 20 = .ok (.iconst 0, 1) := by decide +kernel
theorem dFloating_sumWithInfinite_21 : decode cFloating_sumWithInfinite 21 = .ok (.istore 5, 2) := by decide +kernel
theorem dFloating_sumWithInfinite_23 : decode cFloating_sumWithInfinite 23 = .ok (.iload 5, 2) := by decide +kernel
theorem dFloating_sumWithInfinite_25 : decode cFloating_sumWithInfinite 25 = .ok (.ifCond .eq 21, 3) := by decide +kernel
theorem dFloating_sumWithInfinite_28 : decode cFloating_sumWithInfinite 28 = .ok (.aload_n 0, 1) := by decide +kernel
theorem dFloating_sumWithInfinite_29 : decode cFloating_sumWithInfinite 29 = .ok (.lload_n 1, 1) := by decide +kernel
theorem dFloating_sumWithInfinite_30 : decode cFloating_sumWithInfinite 30 = .ok (.invokevirtual 33, 3) := by decide +kernel
theorem dFloating_sumWithInfinite_33 : decode cFloating_sumWithInfinite 33 = .ok (.aload_n 0, 1) := by decide +kernel
theorem dFloating_sumWithInfinite_34 : decode cFloating_sumWithInfinite 34 = .ok (.lload_n 3, 1) := by decide +kernel
theorem dFloating_sumWithInfinite_35 : decode cFloating_sumWithInfinite 35 = .ok (.invokevirtual 33, 3) := by decide +kernel
theorem dFloating_sumWithInfinite_38 : decode cFloating_sumWithInfinite 38 = .ok (.if_icmp .eq 8, 3) := by decide +kernel
theorem dFloating_sumWithInfinite_41 : decode cFloating_sumWithInfinite 41 = .ok (.aload_n 0, 1) := by decide +kernel
theorem dFloating_sumWithInfinite_42 : decode cFloating_sumWithInfinite 42 = .ok (.getfield 40, 3) := by decide +kernel
theorem dFloating_sumWithInfinite_45 : decode cFloating_sumWithInfinite 45 = .ok (.lreturn, 1) := by decide +kernel
theorem dFloating_sumWithInfinite_46 : decode cFloating_sumWithInfinite 46 = .ok (.aload_n 0, 1) := by decide +kernel
theorem dFloating_sumWithInfinite_47 : decode cFloating_sumWithInfinite 47 = .ok (.lload_n 1, 1) := by decide +kernel
theorem dFloating_sumWithInfinite_48 : decode cFloating_sumWithInfinite 48 = .ok (.invokevirtual 93, 3) := by decide +kernel
theorem dFloating_sumWithInfinite_51 : decode cFloating_sumWithInfinite 51 = .ok (.ifCond .eq 7, 3) := by decide +kernel
theorem dFloating_sumWithInfinite_54 : decode cFloating_sumWithInfinite 54 = .ok (.lload_n 1, 1) := by decide +kernel
theorem dFloating_sumWithInfinite_55 : decode cFloating_sumWithInfinite 55 = .ok (.goto 4, 3) := by decide +kernel
theorem dFloating_sumWithInfinite_58 : decode cFloating_sumWithInfinite 58 = .ok (.lload_n 3, 1) := by decide +kernel
theorem dFloating_sumWithInfinite_59 : decode cFloating_sumWithInfinite 59 = .ok (.lreturn, 1) := by decide +kernel
theorem dFloating_shiftedWithTrace_0 : decode cFloating_shiftedWithTrace 0 = .ok (.iload_n 2, 1) := by decide +kernel
theorem dFloating_shiftedWithTrace_1 : decode cFloating_shiftedWithTrace 1 = .ok (.bipush 63, 2) := by decide +kernel
theorem dFloating_shiftedWithTrace_3 : decode cFloating_shiftedWithTrace 3 = .ok (.if_icmp .le 15, 3) := by decide +kernel
theorem dFloating_shiftedWithTrace_6 : decode cFloating_shiftedWithTrace 6 = .ok (.lload_n 0, 1) := by decide +kernel
theorem dFloating_shiftedWithTrace_7 : decode cFloating_shiftedWithTrace 7 = .ok (.lconst 0, 1) := by decide +kernel
theorem dFloating_shiftedWithTrace_8 : decode cFloating_shiftedWithTrace 8 = .ok (.lcmp, 1) := by decide +kernel
theorem dFloating_shiftedWithTrace_9 : decode cFloating_shiftedWithTrace 9 = .ok (.ifCond .ne 7, 3) := by decide +kernel
theorem dFloating_shiftedWithTrace_12 : decode cFloating_shiftedWithTrace 12 = .ok (.lconst 0, 1) := by decide +kernel
theorem dFloating_shiftedWithTrace_13 : decode cFloating_shiftedWithTrace 13 = .ok (.goto 4, 3) := by decide +kernel
theorem dFloating_shiftedWithTrace_16 : decode cFloating_shiftedWithTrace 16 = .ok (.lconst 1, 1) := by decide +kernel
theorem dFloating_shiftedWithTrace_17 : decode cFloating_shiftedWithTrace 17 = .ok (.lreturn, 1) := by decide +kernel
theorem dFloating_shiftedWithTrace_18 : decode cFloating_shiftedWithTrace 18 = .ok (.lload_n 0, 1) := by decide +kernel
theorem dFloating_shiftedWithTrace_19 : decode cFloating_shiftedWithTrace 19 = .ok (.iload_n 2, 1) := by decide +kernel
theorem dFloating_shiftedWithTrace_20 : decode cFloating_shiftedWithTrace 20 = .ok (.lushr, 1) := by decide +kernel
theorem dFloating_shiftedWithTrace_21 : decode cFloating_shiftedWithTrace 21 = .ok (.lstore_n 3, 1) := by decide +kernel
theorem dFloating_shiftedWithTrace_22 : decode cFloating_shiftedWithTrace 22 = .ok (.lload_n 3, 1) := by decide +kernel
theorem dFloating_shiftedWithTrace_23 : decode cFloating_shiftedWithTrace 23 = .ok (.iload_n 2, 1) := by decide +kernel
theorem dFloating_shiftedWithTrace_24 : decode cFloating_shiftedWithTrace 24 = .ok (.lshl, 1) := by decide +kernel
theorem dFloating_shiftedWithTrace_25 : decode cFloating_shiftedWithTrace 25 = .ok (.lload_n 0, 1) := by decide +kernel
theorem dFloating_shiftedWithTrace_26 : decode cFloating_shiftedWithTrace 26 = .ok (.lcmp, 1) := by decide +kernel
theorem dFloating_shiftedWithTrace_27 : decode cFloating_shiftedWithTrace 27 = .ok (.ifCond .ne 7, 3) := by decide +kernel
theorem dFloating_shiftedWithTrace_30 : decode cFloating_shiftedWithTrace 30 = .ok (.lload_n 3, 1) := by decide +kernel
theorem dFloating_shiftedWithTrace_31 : decode cFloating_shiftedWithTrace 31 = .ok (.goto 6, 3) := by decide +kernel
theorem dFloating_shiftedWithTrace_34 : decode cFloating_shiftedWithTrace 34 = .ok (.lload_n 3, 1) := by decide +kernel
theorem dFloating_shiftedWithTrace_35 : decode cFloating_shiftedWithTrace 35 = .ok (.lconst 1, 1) := by decide +kernel
theorem dFloating_shiftedWithTrace_36 : decode cFloating_shiftedWithTrace 36 = .ok (.lor, 1) := by decide +kernel
theorem dFloating_shiftedWithTrace_37 : decode cFloating_shiftedWithTrace 37 = .ok (.lreturn, 1) := by decide +kernel
theorem dFloating_sum_0 : decode cFloating_sum 0 = .ok (.aload_n 0, 1) := by decide +kernel
theorem dFloating_sum_1 : decode cFloating_sum 1 = .ok (.lload_n 1, 1) := by decide +kernel
theorem dFloating_sum_2 : decode cFloating_sum 2 = .ok (.invokevirtual 93, 3) := by decide +kernel
theorem dFloating_sum_5 : decode cFloating_sum 5 = .ok (.ifCond .ne 11, 3) := by decide +kernel
theorem dFloating_sum_8 : decode cFloating_sum 8 = .ok (.aload_n 0, 1) := by decide +kernel
theorem dFloating_sum_9 : decode cFloating_sum 9 = .ok (.lload_n 3, 1) := by decide +kernel
theorem dFloating_sum_10 : decode cFloating_sum 10 = .ok (.invokevirtual 93, 3) := by decide +kernel
theorem dFloating_sum_13 : decode cFloating_sum 13 = .ok (.ifCond .eq 10, 3) := by decide +kernel
theorem dFloating_sum_16 : decode cFloating_sum 16 = .ok (.aload_n 0, 1) := by decide +kernel
theorem dFloating_sum_17 : decode cFloating_sum 17 = .ok (.lload_n 1, 1) := by decide +kernel
theorem dFloating_sum_18 : decode cFloating_sum 18 = .ok (.lload_n 3, 1) := by decide +kernel
theorem dFloating_sum_19 : decode cFloating_sum 19 = .ok (.invokestatic 101, 3) := by decide +kernel
theorem dFloating_sum_22 : decode cFloating_sum 22 = .ok (.lreturn, 1) := by decide +kernel
theorem dFloating_sum_23 : decode cFloating_sum 23 = .ok (.aload_n 0, 1) := by decide +kernel
theorem dFloating_sum_24 : decode cFloating_sum 24 = .ok (.lload_n 1, 1) := by decide +kernel
theorem dFloating_sum_25 : decode cFloating_sum 25 = .ok (.invokevirtual 25, 3) := by decide +kernel
theorem dFloating_sum_28 : decode cFloating_sum 28 = .ok (.aload_n 0, 1) := by decide +kernel
theorem dFloating_sum_29 : decode cFloating_sum 29 = .ok (.lload_n 3, 1) := by decide +kernel
theorem dFloating_sum_30 : decode cFloating_sum 30 = .ok (.invokevirtual 25, 3) := by decide +kernel
theorem dFloating_sum_33 : decode cFloating_sum 33 = .ok (.lcmp, 1) := by decide +kernel
theorem dFloating_sum_34 : decode cFloating_sum 34 = .ok (.ifCond .lt 7, 3) := by decide +kernel
theorem dFloating_sum_37 : decode cFloating_sum 37 = .ok (.iconst 1, 1) := by decide +kernel
theorem dFloating_sum_38 : decode cFloating_sum 38 = .ok (.goto 4, 3) := by decide +kernel
theorem dFloating_sum_41 : decode cFloating_sum 41 = .ok (.iconst 0, 1) := by decide +kernel
theorem dFloating_sum_42 : decode cFloating_sum 42 = .ok (.istore 5, 2) := by decide +kernel
theorem dFloating_sum_44 : decode cFloating_sum 44 = .ok (.iload 5, 2) := by decide +kernel
theorem dFloating_sum_46 : decode cFloating_sum 46 = .ok (.ifCond .eq 7, 3) := by decide +kernel
theorem dFloating_sum_49 : decode cFloating_sum 49 = .ok (.lload_n 1, 1) := by decide +kernel
theorem dFloating_sum_50 : decode cFloating_sum 50 = .ok (.goto 4, 3) := by decide +kernel
theorem dFloating_sum_53 : decode cFloating_sum 53 = .ok (.lload_n 3, 1) := by decide +kernel
theorem dFloating_sum_54 : decode cFloating_sum 54 = .ok (.lstore 6, 2) := by decide +kernel
theorem dFloating_sum_56 : decode cFloating_sum 56 = .ok (.iload 5, 2) := by decide +kernel
theorem dFloating_sum_58 : decode cFloating_sum 58 = .ok (.ifCond .eq 7, 3) := by decide +kernel
theorem dFloating_sum_61 : decode cFloating_sum 61 = .ok (.lload_n 3, 1) := by decide +kernel
theorem dFloating_sum_62 : decode cFloating_sum 62 = .ok (.goto 4, 3) := by decide +kernel
theorem dFloating_sum_65 : decode cFloating_sum 65 = .ok (.lload_n 1, 1) := by decide +kernel
theorem dFloating_sum_66 : decode cFloating_sum 66 = .ok (.lstore 8, 2) := by decide +kernel
theorem dFloating_sum_68 : decode cFloating_sum 68 = .ok (.bipush 62, 2) := by decide +kernel
theorem dFloating_sum_70 : decode cFloating_sum 70 = .ok (.aload_n 0, 1) := by decide +kernel
theorem dFloating_sum_71 : decode cFloating_sum 71 = .ok (.getfield 104, 3) := by decide +kernel
theorem dFloating_sum_74 : decode cFloating_sum 74 = .ok (.isub, 1) := by decide +kernel
theorem dFloating_sum_75 : decode cFloating_sum 75 = .ok (.istore 10, 2) := by decide +kernel
theorem dFloating_sum_77 : decode cFloating_sum 77 = .ok (.aload_n 0, 1) := by decide +kernel
theorem dFloating_sum_78 : decode cFloating_sum 78 = .ok (.lload 6, 2) := by decide +kernel
theorem dFloating_sum_80 : decode cFloating_sum 80 = .ok (.invokevirtual 73, 3) := by decide +kernel
theorem dFloating_sum_83 : decode cFloating_sum 83 = .ok (.iload 10, 2) := by decide +kernel
theorem dFloating_sum_85 : decode cFloating_sum 85 = .ok (.lshl, 1) := by decide +kernel
theorem dFloating_sum_86 : decode cFloating_sum 86 = .ok (.lstore 11, 2) := by decide +kernel
theorem dFloating_sum_88 : decode cFloating_sum 88 = .ok (.aload_n 0, 1) := by decide +kernel
theorem dFloating_sum_89 : decode cFloating_sum 89 = .ok (.lload 8, 2) := by decide +kernel
theorem dFloating_sum_91 : decode cFloating_sum 91 = .ok (.invokevirtual 73, 3) := by decide +kernel
theorem dFloating_sum_94 : decode cFloating_sum 94 = .ok (.iload 10, 2) := by decide +kernel
theorem dFloating_sum_96 : decode cFloating_sum 96 = .ok (.lshl, 1) := by decide +kernel
theorem dFloating_sum_97 : decode cFloating_sum 97 = .ok (.aload_n 0, 1) := by decide +kernel
theorem dFloating_sum_98 : decode cFloating_sum 98 = .ok (.lload 6, 2) := by decide +kernel
theorem dFloating_sum_100 : decode cFloating_sum 100 = .ok (.invokevirtual 69, 3) := by decide +kernel
theorem dFloating_sum_103 : decode cFloating_sum 103 = .ok (.aload_n 0, 1) := by decide +kernel
theorem dFloating_sum_104 : decode cFloating_sum 104 = .ok (.lload 8, 2) := by decide +kernel
theorem dFloating_sum_106 : decode cFloating_sum 106 = .ok (.invokevirtual 69, 3) := by decide +kernel
theorem dFloating_sum_109 : decode cFloating_sum 109 = .ok (.isub, 1) := by decide +kernel
theorem dFloating_sum_110 : decode cFloating_sum 110 = .ok (.invokestatic 108, 3) := by decide +kernel
theorem dFloating_sum_113 : decode cFloating_sum 113 = .ok (.lstore 13, 2) := by decide +kernel
theorem dFloating_sum_115 : decode cFloating_sum 115 = .ok (.aload_n 0, 1) := by decide +kernel
theorem dFloating_sum_116 : decode cFloating_sum 116 = .ok (.lload_n 1, 1) := by decide +kernel
theorem dFloating_sum_117 : decode cFloating_sum 117 = .ok (.invokevirtual 33, 3) := by decide +kernel
theorem dFloating_sum_120 : decode cFloating_sum 120 = .ok (.aload_n 0, 1) := by decide +kernel
theorem dFloating_sum_121 : decode cFloating_sum 121 = .ok (.lload_n 3, 1) := by decide +kernel
theorem dFloating_sum_122 : decode cFloating_sum 122 = .ok (.invokevirtual 33, 3) := by decide +kernel
theorem dFloating_sum_125 : decode cFloating_sum 125 = .ok (.if_icmp .ne 7, 3) := by decide +kernel
theorem dFloating_sum_128 : decode cFloating_sum 128 = .ok (.iconst 1, 1) := by decide +kernel
theorem dFloating_sum_129 : decode cFloating_sum 129 = .ok (.goto 4, 3) := by decide +kernel
theorem dFloating_sum_132 : decode cFloating_sum 132 = .ok (.iconst 0, 1) := by decide +kernel
theorem dFloating_sum_133 : decode cFloating_sum 133 = .ok (.istore 15, 2) := by decide +kernel
theorem dFloating_sum_135 : decode cFloating_sum 135 = .ok (.iload 15, 2) := by decide +kernel
theorem dFloating_sum_137 : decode cFloating_sum 137 = .ok (.ifCond .eq 11, 3) := by decide +kernel
theorem dFloating_sum_140 : decode cFloating_sum 140 = .ok (.lload 11, 2) := by decide +kernel
theorem dFloating_sum_142 : decode cFloating_sum 142 = .ok (.lload 13, 2) := by decide +kernel
theorem dFloating_sum_144 : decode cFloating_sum 144 = .ok (.ladd, 1) := by decide +kernel
theorem dFloating_sum_145 : decode cFloating_sum 145 = .ok (.goto 8, 3) := by decide +kernel
theorem dFloating_sum_148 : decode cFloating_sum 148 = .ok (.lload 11, 2) := by decide +kernel
theorem dFloating_sum_150 : decode cFloating_sum 150 = .ok (.lload 13, 2) := by decide +kernel
theorem dFloating_sum_152 : decode cFloating_sum 152 = .ok (.lsub, 1) := by decide +kernel
theorem dFloating_sum_153 : decode cFloating_sum 153 = .ok (.lstore 16, 2) := by decide +kernel
theorem dFloating_sum_155 : decode cFloating_sum 155 = .ok (.lload 16, 2) := by decide +kernel
theorem dFloating_sum_157 : decode cFloating_sum 157 = .ok (.lconst 0, 1) := by decide +kernel
theorem dFloating_sum_158 : decode cFloating_sum 158 = .ok (.lcmp, 1) := by decide +kernel
theorem dFloating_sum_159 : decode cFloating_sum 159 = .ok (.ifCond .ne 24, 3) := by decide +kernel
theorem dFloating_sum_162 : decode cFloating_sum 162 = .ok (.iload 15, 2) := by decide +kernel
theorem dFloating_sum_164 : decode cFloating_sum 164 = .ok (.ifCond .eq 15, 3) := by decide +kernel
theorem dFloating_sum_167 : decode cFloating_sum 167 = .ok (.aload_n 0, 1) := by decide +kernel
theorem dFloating_sum_168 : decode cFloating_sum 168 = .ok (.lload_n 1, 1) := by decide +kernel
theorem dFloating_sum_169 : decode cFloating_sum 169 = .ok (.invokevirtual 33, 3) := by decide +kernel
theorem dFloating_sum_172 : decode cFloating_sum 172 = .ok (.ifCond .eq 7, 3) := by decide +kernel
theorem dFloating_sum_175 : decode cFloating_sum 175 = .ok (.iconst 1, 1) := by decide +kernel
theorem dFloating_sum_176 : decode cFloating_sum 176 = .ok (.goto 13, 3) := by decide +kernel
theorem dFloating_sum_179 : decode cFloating_sum 179 = .ok (.iconst 0, 1) := by decide +kernel
theorem dFloating_sum_180 : decode cFloating_sum 180 = .ok (.goto 9, 3) := by decide +kernel
theorem dFloating_sum_183 : decode cFloating_sum 183 = .ok (.aload_n 0, 1) := by decide +kernel
theorem dFloating_sum_184 : decode cFloating_sum 184 = .ok (.lload 6, 2) := by decide +kernel
theorem dFloating_sum_186 : decode cFloating_sum 186 = .ok (.invokevirtual 33, 3) := by decide +kernel
theorem dFloating_sum_189 : decode cFloating_sum 189 = .ok (.istore 18, 2) := by decide +kernel
theorem dFloating_sum_191 : decode cFloating_sum 191 = .ok (.aload_n 0, 1) := by decide +kernel
theorem dFloating_sum_192 : decode cFloating_sum 192 = .ok (.iload 18, 2) := by decide +kernel
theorem dFloating_sum_194 : decode cFloating_sum 194 = .ok (.lload 16, 2) := by decide +kernel
theorem dFloating_sum_196 : decode cFloating_sum 196 = .ok (.aload_n 0, 1) := by decide +kernel
theorem dFloating_sum_197 : decode cFloating_sum 197 = .ok (.lload 6, 2) := by decide +kernel
theorem dFloating_sum_199 : decode cFloating_sum 199 = .ok (.invokevirtual 69, 3) := by decide +kernel
theorem dFloating_sum_202 : decode cFloating_sum 202 = .ok (.iload 10, 2) := by decide +kernel
theorem dFloating_sum_204 : decode cFloating_sum 204 = .ok (.isub, 1) := by decide +kernel
theorem dFloating_sum_205 : decode cFloating_sum 205 = .ok (.invokevirtual 80, 3) := by decide +kernel
theorem dFloating_sum_208 : decode cFloating_sum 208 = .ok (.lreturn, 1) := by decide +kernel
theorem dFloating_highProduct_0 : decode cFloating_highProduct 0 = .ok (.lload_n 0, 1) := by decide +kernel
theorem dFloating_highProduct_1 : decode cFloating_highProduct 1 = .ok (.ldc2_w 118, 3) := by decide +kernel
theorem dFloating_highProduct_4 : decode cFloating_highProduct 4 = .ok (.land, 1) := by decide +kernel
theorem dFloating_highProduct_5 : decode cFloating_highProduct 5 = .ok (.lstore 4, 2) := by decide +kernel
theorem dFloating_highProduct_7 : decode cFloating_highProduct 7 = .ok (.lload_n 2, 1) := by decide +kernel
theorem dFloating_highProduct_8 : decode cFloating_highProduct 8 = .ok (.ldc2_w 118, 3) := by decide +kernel
theorem dFloating_highProduct_11 : decode cFloating_highProduct 11 = .ok (.land, 1) := by decide +kernel
theorem dFloating_highProduct_12 : decode cFloating_highProduct 12 = .ok (.lstore 6, 2) := by decide +kernel
theorem dFloating_highProduct_14 : decode cFloating_highProduct 14 = .ok (.lload_n 0, 1) := by decide +kernel
theorem dFloating_highProduct_15 : decode cFloating_highProduct 15 = .ok (.bipush 32, 2) := by decide +kernel
theorem dFloating_highProduct_17 : decode cFloating_highProduct 17 = .ok (.lushr, 1) := by decide +kernel
theorem dFloating_highProduct_18 : decode cFloating_highProduct 18 = .ok (.lstore 8, 2) := by decide +kernel
theorem dFloating_highProduct_20 : decode cFloating_highProduct 20 = .ok (.lload_n 2, 1) := by decide +kernel
theorem dFloating_highProduct_21 : decode cFloating_highProduct 21 = .ok (.bipush 32, 2) := by decide +kernel
theorem dFloating_highProduct_23 : decode cFloating_highProduct 23 = .ok (.lushr, 1) := by decide +kernel
theorem dFloating_highProduct_24 : decode cFloating_highProduct 24 = .ok (.lstore 10, 2) := by decide +kernel
theorem dFloating_highProduct_26 : decode cFloating_highProduct 26 = .ok (.lload 8, 2) := by decide +kernel
theorem dFloating_highProduct_28 : decode cFloating_highProduct 28 = .ok (.lload 6, 2) := by decide +kernel
theorem dFloating_highProduct_30 : decode cFloating_highProduct 30 = .ok (.lmul, 1) := by decide +kernel
theorem dFloating_highProduct_31 : decode cFloating_highProduct 31 = .ok (.lload 4, 2) := by decide +kernel
theorem dFloating_highProduct_33 : decode cFloating_highProduct 33 = .ok (.lload 6, 2) := by decide +kernel
theorem dFloating_highProduct_35 : decode cFloating_highProduct 35 = .ok (.lmul, 1) := by decide +kernel
theorem dFloating_highProduct_36 : decode cFloating_highProduct 36 = .ok (.bipush 32, 2) := by decide +kernel
theorem dFloating_highProduct_38 : decode cFloating_highProduct 38 = .ok (.lushr, 1) := by decide +kernel
theorem dFloating_highProduct_39 : decode cFloating_highProduct 39 = .ok (.ladd, 1) := by decide +kernel
theorem dFloating_highProduct_40 : decode cFloating_highProduct 40 = .ok (.lstore 12, 2) := by decide +kernel
theorem dFloating_highProduct_42 : decode cFloating_highProduct 42 = .ok (.lload 4, 2) := by decide +kernel
theorem dFloating_highProduct_44 : decode cFloating_highProduct 44 = .ok (.lload 10, 2) := by decide +kernel
theorem dFloating_highProduct_46 : decode cFloating_highProduct 46 = .ok (.lmul, 1) := by decide +kernel
theorem dFloating_highProduct_47 : decode cFloating_highProduct 47 = .ok (.lload 12, 2) := by decide +kernel
theorem dFloating_highProduct_49 : decode cFloating_highProduct 49 = .ok (.ldc2_w 118, 3) := by decide +kernel
theorem dFloating_highProduct_52 : decode cFloating_highProduct 52 = .ok (.land, 1) := by decide +kernel
theorem dFloating_highProduct_53 : decode cFloating_highProduct 53 = .ok (.ladd, 1) := by decide +kernel
theorem dFloating_highProduct_54 : decode cFloating_highProduct 54 = .ok (.lstore 14, 2) := by decide +kernel
theorem dFloating_highProduct_56 : decode cFloating_highProduct 56 = .ok (.lload 8, 2) := by decide +kernel
theorem dFloating_highProduct_58 : decode cFloating_highProduct 58 = .ok (.lload 10, 2) := by decide +kernel
theorem dFloating_highProduct_60 : decode cFloating_highProduct 60 = .ok (.lmul, 1) := by decide +kernel
theorem dFloating_highProduct_61 : decode cFloating_highProduct 61 = .ok (.lload 12, 2) := by decide +kernel
theorem dFloating_highProduct_63 : decode cFloating_highProduct 63 = .ok (.bipush 32, 2) := by decide +kernel
theorem dFloating_highProduct_65 : decode cFloating_highProduct 65 = .ok (.lushr, 1) := by decide +kernel
theorem dFloating_highProduct_66 : decode cFloating_highProduct 66 = .ok (.ladd, 1) := by decide +kernel
theorem dFloating_highProduct_67 : decode cFloating_highProduct 67 = .ok (.lload 14, 2) := by decide +kernel
theorem dFloating_highProduct_69 : decode cFloating_highProduct 69 = .ok (.bipush 32, 2) := by decide +kernel
theorem dFloating_highProduct_71 : decode cFloating_highProduct 71 = .ok (.lushr, 1) := by decide +kernel
theorem dFloating_highProduct_72 : decode cFloating_highProduct 72 = .ok (.ladd, 1) := by decide +kernel
theorem dFloating_highProduct_73 : decode cFloating_highProduct 73 = .ok (.lreturn, 1) := by decide +kernel
theorem dFloating_product_0 : decode cFloating_product 0 = .ok (.aload_n 0, 1) := by decide +kernel
theorem dFloating_product_1 : decode cFloating_product 1 = .ok (.lload_n 1, 1) := by decide +kernel
theorem dFloating_product_2 : decode cFloating_product 2 = .ok (.invokevirtual 33, 3) := by decide +kernel
theorem dFloating_product_5 : decode cFloating_product 5 = .ok (.aload_n 0, 1) := by decide +kernel
theorem dFloating_product_6 : decode cFloating_product 6 = .ok (.lload_n 3, 1) := by decide +kernel
theorem dFloating_product_7 : decode cFloating_product 7 = .ok (.invokevirtual 33, 3) := by decide +kernel
theorem dFloating_product_10 : decode cFloating_product 10 = .ok (.if_icmp .eq 7, 3) := by decide +kernel
theorem dFloating_product_13 : decode cFloating_product 13 = .ok (.iconst 1, 1) := by decide +kernel
theorem dFloating_product_14 : decode cFloating_product 14 = .ok (.goto 4, 3) := by decide +kernel
theorem dFloating_product_17 : decode cFloating_product 17 = .ok (.iconst 0, 1) := by decide +kernel
theorem dFloating_product_18 : decode cFloating_product 18 = .ok (.istore 5, 2) := by decide +kernel
theorem dFloating_product_20 : decode cFloating_product 20 = .ok (.aload_n 0, 1) := by decide +kernel
theorem dFloating_product_21 : decode cFloating_product 21 = .ok (.lload_n 1, 1) := by decide +kernel
theorem dFloating_product_22 : decode cFloating_product 22 = .ok (.invokevirtual 90, 3) := by decide +kernel
theorem dFloating_product_25 : decode cFloating_product 25 = .ok (.ifCond .ne 11, 3) := by decide +kernel
theorem dFloating_product_28 : decode cFloating_product 28 = .ok (.aload_n 0, 1) := by decide +kernel
theorem dFloating_product_29 : decode cFloating_product 29 = .ok (.lload_n 3, 1) := by decide +kernel
theorem dFloating_product_30 : decode cFloating_product 30 = .ok (.invokevirtual 90, 3) := by decide +kernel
theorem dFloating_product_33 : decode cFloating_product 33 = .ok (.ifCond .eq 7, 3) := by decide +kernel
theorem dFloating_product_36 : decode cFloating_product 36 = .ok (.iconst 1, 1) := by decide +kernel
theorem dFloating_product_37 : decode cFloating_product 37 = .ok (.goto 4, 3) := by decide +kernel
theorem dFloating_product_40 : decode cFloating_product 40 = .ok (.iconst 0, 1) := by decide +kernel
theorem dFloating_product_41 : decode cFloating_product 41 = .ok (.istore 6, 2) := by decide +kernel
theorem dFloating_product_43 : decode cFloating_product 43 = .ok (.aload_n 0, 1) := by decide +kernel
theorem dFloating_product_44 : decode cFloating_product 44 = .ok (.lload_n 1, 1) := by decide +kernel
theorem dFloating_product_45 : decode cFloating_product 45 = .ok (.invokevirtual 93, 3) := by decide +kernel
theorem dFloating_product_48 : decode cFloating_product 48 = .ok (.ifCond .ne 11, 3) := by decide +kernel
theorem dFloating_product_51 : decode cFloating_product 51 = .ok (.aload_n 0, 1) := by decide +kernel
theorem dFloating_product_52 : decode cFloating_product 52 = .ok (.lload_n 3, 1) := by decide +kernel
theorem dFloating_product_53 : decode cFloating_product 53 = .ok (.invokevirtual 93, 3) := by decide +kernel
theorem dFloating_product_56 : decode cFloating_product 56 = .ok (.ifCond .eq 26, 3) := by decide +kernel
theorem dFloating_product_59 : decode cFloating_product 59 = .ok (.iload 6, 2) := by decide +kernel
theorem dFloating_product_61 : decode cFloating_product 61 = .ok (.ifCond .eq 10, 3) := by decide +kernel
theorem dFloating_product_64 : decode cFloating_product 64 = .ok (.aload_n 0, 1) := by decide +kernel
theorem dFloating_product_65 : decode cFloating_product 65 = .ok (.getfield 40, 3) := by decide +kernel
theorem dFloating_product_68 : decode cFloating_product 68 = .ok (.goto 13, 3) := by decide +kernel
theorem dFloating_product_71 : decode cFloating_product 71 = .ok (.aload_n 0, 1) := by decide +kernel
theorem dFloating_product_72 : decode cFloating_product 72 = .ok (.iload 5, 2) := by decide +kernel
theorem dFloating_product_74 : decode cFloating_product 74 = .ok (.aload_n 0, 1) := by decide +kernel
theorem dFloating_product_75 : decode cFloating_product 75 = .ok (.getfield 111, 3) := by decide +kernel
theorem dFloating_product_78 : decode cFloating_product 78 = .ok (.invokevirtual 36, 3) := by decide +kernel
theorem dFloating_product_81 : decode cFloating_product 81 = .ok (.lreturn, 1) := by decide +kernel
theorem dFloating_product_82 : decode cFloating_product 82 = .ok (.iload 6, 2) := by decide +kernel
theorem dFloating_product_84 : decode cFloating_product 84 = .ok (.ifCond .eq 11, 3) := by decide +kernel
theorem dFloating_product_87 : decode cFloating_product 87 = .ok (.aload_n 0, 1) := by decide +kernel
theorem dFloating_product_88 : decode cFloating_product 88 = .ok (.iload 5, 2) := by decide +kernel
theorem dFloating_product_90 : decode cFloating_product 90 = .ok (.lconst 0, 1) := by decide +kernel
theorem dFloating_product_91 : decode cFloating_product 91 = .ok (.invokevirtual 36, 3) := by decide +kernel
theorem dFloating_product_94 : decode cFloating_product 94 = .ok (.lreturn, 1) := by decide +kernel
theorem dFloating_product_95 : decode cFloating_product 95 = .ok (.aload_n 0, 1) := by decide +kernel
theorem dFloating_product_96 : decode cFloating_product 96 = .ok (.lload_n 1, 1) := by decide +kernel
theorem dFloating_product_97 : decode cFloating_product 97 = .ok (.invokevirtual 73, 3) := by decide +kernel
theorem dFloating_product_100 : decode cFloating_product 100 = .ok (.invokestatic 96, 3) := by decide +kernel
theorem dFloating_product_103 : decode cFloating_product 103 = .ok (.istore 7, 2) := by decide +kernel
theorem dFloating_product_105 : decode cFloating_product 105 = .ok (.aload_n 0, 1) := by decide +kernel
theorem dFloating_product_106 : decode cFloating_product 106 = .ok (.lload_n 3, 1) := by decide +kernel
theorem dFloating_product_107 : decode cFloating_product 107 = .ok (.invokevirtual 73, 3) := by decide +kernel
theorem dFloating_product_110 : decode cFloating_product 110 = .ok (.invokestatic 96, 3) := by decide +kernel
theorem dFloating_product_113 : decode cFloating_product 113 = .ok (.istore 8, 2) := by decide +kernel
theorem dFloating_product_115 : decode cFloating_product 115 = .ok (.aload_n 0, 1) := by decide +kernel
theorem dFloating_product_116 : decode cFloating_product 116 = .ok (.lload_n 1, 1) := by decide +kernel
theorem dFloating_product_117 : decode cFloating_product 117 = .ok (.invokevirtual 73, 3) := by decide +kernel
theorem dFloating_product_120 : decode cFloating_product 120 = .ok (.iload 7, 2) := by decide +kernel
theorem dFloating_product_122 : decode cFloating_product 122 = .ok (.lshl, 1) := by decide +kernel
theorem dFloating_product_123 : decode cFloating_product 123 = .ok (.lstore 9, 2) := by decide +kernel
theorem dFloating_product_125 : decode cFloating_product 125 = .ok (.aload_n 0, 1) := by decide +kernel
theorem dFloating_product_126 : decode cFloating_product 126 = .ok (.lload_n 3, 1) := by decide +kernel
theorem dFloating_product_127 : decode cFloating_product 127 = .ok (.invokevirtual 73, 3) := by decide +kernel
theorem dFloating_product_130 : decode cFloating_product 130 = .ok (.iload 8, 2) := by decide +kernel
theorem dFloating_product_132 : decode cFloating_product 132 = .ok (.lshl, 1) := by decide +kernel
theorem dFloating_product_133 : decode cFloating_product 133 = .ok (.lstore 11, 2) := by decide +kernel
theorem dFloating_product_135 : decode cFloating_product 135 = .ok (.lload 9, 2) := by decide +kernel
theorem dFloating_product_137 : decode cFloating_product 137 = .ok (.lload 11, 2) := by decide +kernel
theorem dFloating_product_139 : decode cFloating_product 139 = .ok (.invokestatic 114, 3) := by decide +kernel
theorem dFloating_product_142 : decode cFloating_product 142 = .ok (.lstore 13, 2) := by decide +kernel
theorem dFloating_product_144 : decode cFloating_product 144 = .ok (.aload_n 0, 1) := by decide +kernel
theorem dFloating_product_145 : decode cFloating_product 145 = .ok (.lload_n 1, 1) := by decide +kernel
theorem dFloating_product_146 : decode cFloating_product 146 = .ok (.invokevirtual 69, 3) := by decide +kernel
theorem dFloating_product_149 : decode cFloating_product 149 = .ok (.iload 7, 2) := by decide +kernel
theorem dFloating_product_151 : decode cFloating_product 151 = .ok (.isub, 1) := by decide +kernel
theorem dFloating_product_152 : decode cFloating_product 152 = .ok (.aload_n 0, 1) := by decide +kernel
theorem dFloating_product_153 : decode cFloating_product 153 = .ok (.lload_n 3, 1) := by decide +kernel
theorem dFloating_product_154 : decode cFloating_product 154 = .ok (.invokevirtual 69, 3) := by decide +kernel
theorem dFloating_product_157 : decode cFloating_product 157 = .ok (.iadd, 1) := by decide +kernel
theorem dFloating_product_158 : decode cFloating_product 158 = .ok (.iload 8, 2) := by decide +kernel
theorem dFloating_product_160 : decode cFloating_product 160 = .ok (.isub, 1) := by decide +kernel
theorem dFloating_product_161 : decode cFloating_product 161 = .ok (.bipush 64, 2) := by decide +kernel
theorem dFloating_product_163 : decode cFloating_product 163 = .ok (.iadd, 1) := by decide +kernel
theorem dFloating_product_164 : decode cFloating_product 164 = .ok (.istore 15, 2) := by decide +kernel
theorem dFloating_product_166 : decode cFloating_product 166 = .ok (.aload_n 0, 1) := by decide +kernel
theorem dFloating_product_167 : decode cFloating_product 167 = .ok (.iload 5, 2) := by decide +kernel
theorem dFloating_product_169 : decode cFloating_product 169 = .ok (.lload 9, 2) := by decide +kernel
theorem dFloating_product_171 : decode cFloating_product 171 = .ok (.lload 11, 2) := by decide +kernel
theorem dFloating_product_173 : decode cFloating_product 173 = .ok (.lmul, 1) := by decide +kernel
theorem dFloating_product_174 : decode cFloating_product 174 = .ok (.lconst 0, 1) := by decide +kernel
theorem dFloating_product_175 : decode cFloating_product 175 = .ok (.lcmp, 1) := by decide +kernel
theorem dFloating_product_176 : decode cFloating_product 176 = .ok (.ifCond .ne 8, 3) := by decide +kernel
theorem dFloating_product_179 : decode cFloating_product 179 = .ok (.lload 13, 2) := by decide +kernel
theorem dFloating_product_181 : decode cFloating_product 181 = .ok (.goto 7, 3) := by decide +kernel
theorem dFloating_product_184 : decode cFloating_product 184 = .ok (.lload 13, 2) := by decide +kernel
theorem dFloating_product_186 : decode cFloating_product 186 = .ok (.lconst 1, 1) := by decide +kernel
theorem dFloating_product_187 : decode cFloating_product 187 = .ok (.lor, 1) := by decide +kernel
theorem dFloating_product_188 : decode cFloating_product 188 = .ok (.iload 15, 2) := by decide +kernel
theorem dFloating_product_190 : decode cFloating_product 190 = .ok (.invokevirtual 80, 3) := by decide +kernel
theorem dFloating_product_193 : decode cFloating_product 193 = .ok (.lreturn, 1) := by decide +kernel
theorem dFloating_quotient_0 : decode cFloating_quotient 0 = .ok (.aload_n 0, 1) := by decide +kernel
theorem dFloating_quotient_1 : decode cFloating_quotient 1 = .ok (.lload_n 1, 1) := by decide +kernel
theorem dFloating_quotient_2 : decode cFloating_quotient 2 = .ok (.invokevirtual 33, 3) := by decide +kernel
theorem dFloating_quotient_5 : decode cFloating_quotient 5 = .ok (.aload_n 0, 1) := by decide +kernel
theorem dFloating_quotient_6 : decode cFloating_quotient 6 = .ok (.lload_n 3, 1) := by decide +kernel
theorem dFloating_quotient_7 : decode cFloating_quotient 7 = .ok (.invokevirtual 33, 3) := by decide +kernel
theorem dFloating_quotient_10 : decode cFloating_quotient 10 = .ok (.if_icmp .eq 7, 3) := by decide +kernel
theorem dFloating_quotient_13 : decode cFloating_quotient 13 = .ok (.iconst 1, 1) := by decide +kernel
theorem dFloating_quotient_14 : decode cFloating_quotient 14 = .ok (.goto 4, 3) := by decide +kernel
theorem dFloating_quotient_17 : decode cFloating_quotient 17 = .ok (.iconst 0, 1) := by decide +kernel
theorem dFloating_quotient_18 : decode cFloating_quotient 18 = .ok (.istore 5, 2) := by decide +kernel
theorem dFloating_quotient_20 : decode cFloating_quotient 20 = .ok (.aload_n 0, 1) := by decide +kernel
theorem dFloating_quotient_21 : decode cFloating_quotient 21 = .ok (.lload_n 1, 1) := by decide +kernel
theorem dFloating_quotient_22 : decode cFloating_quotient 22 = .ok (.invokevirtual 90, 3) := by decide +kernel
theorem dFloating_quotient_25 : decode cFloating_quotient 25 = .ok (.ifCond .eq 11, 3) := by decide +kernel
theorem dFloating_quotient_28 : decode cFloating_quotient 28 = .ok (.aload_n 0, 1) := by decide +kernel
theorem dFloating_quotient_29 : decode cFloating_quotient 29 = .ok (.lload_n 3, 1) := by decide +kernel
theorem dFloating_quotient_30 : decode cFloating_quotient 30 = .ok (.invokevirtual 90, 3) := by decide +kernel
theorem dFloating_quotient_33 : decode cFloating_quotient 33 = .ok (.ifCond .ne 19, 3) := by decide +kernel
theorem dFloating_quotient_36 : decode cFloating_quotient 36 = .ok (.aload_n 0, 1) := by decide +kernel
theorem dFloating_quotient_37 : decode cFloating_quotient 37 = .ok (.lload_n 1, 1) := by decide +kernel
theorem dFloating_quotient_38 : decode cFloating_quotient 38 = .ok (.invokevirtual 93, 3) := by decide +kernel
theorem dFloating_quotient_41 : decode cFloating_quotient 41 = .ok (.ifCond .eq 15, 3) := by decide +kernel
theorem dFloating_quotient_44 : decode cFloating_quotient 44 = .ok (.aload_n 0, 1) := by decide +kernel
theorem dFloating_quotient_45 : decode cFloating_quotient 45 = .ok (.lload_n 3, 1) := by decide +kernel
theorem dFloating_quotient_46 : decode cFloating_quotient 46 = .ok (.invokevirtual 93, 3) := by decide +kernel
theorem dFloating_quotient_49 : decode cFloating_quotient 49 = .ok (.ifCond .eq 7, 3) := by decide +kernel
theorem dFloating_quotient_52 : decode cFloating_quotient 52 = .ok (.iconst 1, 1) := by decide +kernel
theorem dFloating_quotient_53 : decode cFloating_quotient 53 = .ok (.goto 4, 3) := by decide +kernel
theorem dFloating_quotient_56 : decode cFloating_quotient 56 = .ok (.iconst 0, 1) := by decide +kernel
theorem dFloating_quotient_57 : decode cFloating_quotient 57 = .ok (.istore 6, 2) := by decide +kernel
theorem dFloating_quotient_59 : decode cFloating_quotient 59 = .ok (.iload 6, 2) := by decide +kernel
theorem dFloating_quotient_61 : decode cFloating_quotient 61 = .ok (.ifCond .eq 8, 3) := by decide +kernel
theorem dFloating_quotient_64 : decode cFloating_quotient 64 = .ok (.aload_n 0, 1) := by decide +kernel
theorem dFloating_quotient_65 : decode cFloating_quotient 65 = .ok (.getfield 40, 3) := by decide +kernel
theorem dFloating_quotient_68 : decode cFloating_quotient 68 = .ok (.lreturn, 1) := by decide +kernel
theorem dFloating_quotient_69 : decode cFloating_quotient 69 = .ok (.aload_n 0, 1) := by decide +kernel
theorem dFloating_quotient_70 : decode cFloating_quotient 70 = .ok (.lload_n 1, 1) := by decide +kernel
theorem dFloating_quotient_71 : decode cFloating_quotient 71 = .ok (.invokevirtual 93, 3) := by decide +kernel
theorem dFloating_quotient_74 : decode cFloating_quotient 74 = .ok (.ifCond .ne 11, 3) := by decide +kernel
theorem dFloating_quotient_77 : decode cFloating_quotient 77 = .ok (.aload_n 0, 1) := by decide +kernel
theorem dFloating_quotient_78 : decode cFloating_quotient 78 = .ok (.lload_n 3, 1) := by decide +kernel
theorem dFloating_quotient_79 : decode cFloating_quotient 79 = .ok (.invokevirtual 90, 3) := by decide +kernel
theorem dFloating_quotient_82 : decode cFloating_quotient 82 = .ok (.ifCond .eq 14, 3) := by decide +kernel
theorem dFloating_quotient_85 : decode cFloating_quotient 85 = .ok (.aload_n 0, 1) := by decide +kernel
theorem dFloating_quotient_86 : decode cFloating_quotient 86 = .ok (.iload 5, 2) := by decide +kernel
theorem dFloating_quotient_88 : decode cFloating_quotient 88 = .ok (.aload_n 0, 1) := by decide +kernel
theorem dFloating_quotient_89 : decode cFloating_quotient 89 = .ok (.getfield 111, 3) := by decide +kernel
theorem dFloating_quotient_92 : decode cFloating_quotient 92 = .ok (.invokevirtual 36, 3) := by decide +kernel
theorem dFloating_quotient_95 : decode cFloating_quotient 95 = .ok (.lreturn, 1) := by decide +kernel
theorem dFloating_quotient_96 : decode cFloating_quotient 96 = .ok (.aload_n 0, 1) := by decide +kernel
theorem dFloating_quotient_97 : decode cFloating_quotient 97 = .ok (.lload_n 1, 1) := by decide +kernel
theorem dFloating_quotient_98 : decode cFloating_quotient 98 = .ok (.invokevirtual 90, 3) := by decide +kernel
theorem dFloating_quotient_101 : decode cFloating_quotient 101 = .ok (.ifCond .ne 11, 3) := by decide +kernel
theorem dFloating_quotient_104 : decode cFloating_quotient 104 = .ok (.aload_n 0, 1) := by decide +kernel
theorem dFloating_quotient_105 : decode cFloating_quotient 105 = .ok (.lload_n 3, 1) := by decide +kernel
theorem dFloating_quotient_106 : decode cFloating_quotient 106 = .ok (.invokevirtual 93, 3) := by decide +kernel
theorem dFloating_quotient_109 : decode cFloating_quotient 109 = .ok (.ifCond .eq 11, 3) := by decide +kernel
theorem dFloating_quotient_112 : decode cFloating_quotient 112 = .ok (.aload_n 0, 1) := by decide +kernel
theorem dFloating_quotient_113 : decode cFloating_quotient 113 = .ok (.iload 5, 2) := by decide +kernel
theorem dFloating_quotient_115 : decode cFloating_quotient 115 = .ok (.lconst 0, 1) := by decide +kernel
theorem dFloating_quotient_116 : decode cFloating_quotient 116 = .ok (.invokevirtual 36, 3) := by decide +kernel
theorem dFloating_quotient_119 : decode cFloating_quotient 119 = .ok (.lreturn, 1) := by decide +kernel
theorem dFloating_quotient_120 : decode cFloating_quotient 120 = .ok (.aload_n 0, 1) := by decide +kernel
theorem dFloating_quotient_121 : decode cFloating_quotient 121 = .ok (.lload_n 1, 1) := by decide +kernel
theorem dFloating_quotient_122 : decode cFloating_quotient 122 = .ok (.invokevirtual 73, 3) := by decide +kernel
theorem dFloating_quotient_125 : decode cFloating_quotient 125 = .ok (.invokestatic 96, 3) := by decide +kernel
theorem dFloating_quotient_128 : decode cFloating_quotient 128 = .ok (.istore 7, 2) := by decide +kernel
theorem dFloating_quotient_130 : decode cFloating_quotient 130 = .ok (.aload_n 0, 1) := by decide +kernel
theorem dFloating_quotient_131 : decode cFloating_quotient 131 = .ok (.lload_n 3, 1) := by decide +kernel
theorem dFloating_quotient_132 : decode cFloating_quotient 132 = .ok (.invokevirtual 73, 3) := by decide +kernel
theorem dFloating_quotient_135 : decode cFloating_quotient 135 = .ok (.invokestatic 96, 3) := by decide +kernel
theorem dFloating_quotient_138 : decode cFloating_quotient 138 = .ok (.istore 8, 2) := by decide +kernel
theorem dFloating_quotient_140 : decode cFloating_quotient 140 = .ok (.aload_n 0, 1) := by decide +kernel
theorem dFloating_quotient_141 : decode cFloating_quotient 141 = .ok (.lload_n 1, 1) := by decide +kernel
theorem dFloating_quotient_142 : decode cFloating_quotient 142 = .ok (.invokevirtual 73, 3) := by decide +kernel
theorem dFloating_quotient_145 : decode cFloating_quotient 145 = .ok (.iload 7, 2) := by decide +kernel
theorem dFloating_quotient_147 : decode cFloating_quotient 147 = .ok (.lshl, 1) := by decide +kernel
theorem dFloating_quotient_148 : decode cFloating_quotient 148 = .ok (.lstore 9, 2) := by decide +kernel
theorem dFloating_quotient_150 : decode cFloating_quotient 150 = .ok (.aload_n 0, 1) := by decide +kernel
theorem dFloating_quotient_151 : decode cFloating_quotient 151 = .ok (.lload_n 3, 1) := by decide +kernel
theorem dFloating_quotient_152 : decode cFloating_quotient 152 = .ok (.invokevirtual 73, 3) := by decide +kernel
theorem dFloating_quotient_155 : decode cFloating_quotient 155 = .ok (.iload 8, 2) := by decide +kernel
theorem dFloating_quotient_157 : decode cFloating_quotient 157 = .ok (.lshl, 1) := by decide +kernel
theorem dFloating_quotient_158 : decode cFloating_quotient 158 = .ok (.lstore 11, 2) := by decide +kernel
theorem dFloating_quotient_160 : decode cFloating_quotient 160 = .ok (.lconst 0, 1) := by decide +kernel
theorem dFloating_quotient_161 : decode cFloating_quotient 161 = .ok (.lstore 13, 2) := by decide +kernel
theorem dFloating_quotient_163 : decode cFloating_quotient 163 = .ok (.iconst 0, 1) := by decide +kernel
theorem dFloating_quotient_164 : decode cFloating_quotient 164 = .ok (.istore 15, 2) := by decide +kernel
theorem dFloating_quotient_166 : decode cFloating_quotient 166 = .ok (.iload 15, 2) := by decide +kernel
theorem dFloating_quotient_168 : decode cFloating_quotient 168 = .ok (.bipush 57, 2) := by decide +kernel
theorem dFloating_quotient_170 : decode cFloating_quotient 170 = .ok (.if_icmp .ge 42, 3) := by decide +kernel
theorem dFloating_quotient_173 : decode cFloating_quotient 173 = .ok (.lload 13, 2) := by decide +kernel
theorem dFloating_quotient_175 : decode cFloating_quotient 175 = .ok (.iconst 1, 1) := by decide +kernel
theorem dFloating_quotient_176 : decode cFloating_quotient 176 = .ok (.lshl, 1) := by decide +kernel
theorem dFloating_quotient_177 : decode cFloating_quotient 177 = .ok (.lstore 13, 2) := by decide +kernel
theorem dFloating_quotient_179 : decode cFloating_quotient 179 = .ok (.lload 9, 2) := by decide +kernel
theorem dFloating_quotient_181 : decode cFloating_quotient 181 = .ok (.lload 11, 2) := by decide +kernel
theorem dFloating_quotient_183 : decode cFloating_quotient 183 = .ok (.lcmp, 1) := by decide +kernel
theorem dFloating_quotient_184 : decode cFloating_quotient 184 = .ok (.ifCond .lt 16, 3) := by decide +kernel
theorem dFloating_quotient_187 : decode cFloating_quotient 187 = .ok (.lload 9, 2) := by decide +kernel
theorem dFloating_quotient_189 : decode cFloating_quotient 189 = .ok (.lload 11, 2) := by decide +kernel
theorem dFloating_quotient_191 : decode cFloating_quotient 191 = .ok (.lsub, 1) := by decide +kernel
theorem dFloating_quotient_192 : decode cFloating_quotient 192 = .ok (.lstore 9, 2) := by decide +kernel
theorem dFloating_quotient_194 : decode cFloating_quotient 194 = .ok (.lload 13, 2) := by decide +kernel
theorem dFloating_quotient_196 : decode cFloating_quotient 196 = .ok (.lconst 1, 1) := by decide +kernel
theorem dFloating_quotient_197 : decode cFloating_quotient 197 = .ok (.lor, 1) := by decide +kernel
theorem dFloating_quotient_198 : decode cFloating_quotient 198 = .ok (.lstore 13, 2) := by decide +kernel
theorem dFloating_quotient_200 : decode cFloating_quotient 200 = .ok (.lload 9, 2) := by decide +kernel
theorem dFloating_quotient_202 : decode cFloating_quotient 202 = .ok (.iconst 1, 1) := by decide +kernel
theorem dFloating_quotient_203 : decode cFloating_quotient 203 = .ok (.lshl, 1) := by decide +kernel
theorem dFloating_quotient_204 : decode cFloating_quotient 204 = .ok (.lstore 9, 2) := by decide +kernel
theorem dFloating_quotient_206 : decode cFloating_quotient 206 = .ok (.iinc 15 1, 3) := by decide +kernel
theorem dFloating_quotient_209 : decode cFloating_quotient 209 = .ok (.goto (-43), 3) := by decide +kernel
theorem dFloating_quotient_212 : decode cFloating_quotient 212 = .ok (.aload_n 0, 1) := by decide +kernel
theorem dFloating_quotient_213 : decode cFloating_quotient 213 = .ok (.lload_n 1, 1) := by decide +kernel
theorem dFloating_quotient_214 : decode cFloating_quotient 214 = .ok (.invokevirtual 69, 3) := by decide +kernel
theorem dFloating_quotient_217 : decode cFloating_quotient 217 = .ok (.iload 7, 2) := by decide +kernel
theorem dFloating_quotient_219 : decode cFloating_quotient 219 = .ok (.isub, 1) := by decide +kernel
theorem dFloating_quotient_220 : decode cFloating_quotient 220 = .ok (.aload_n 0, 1) := by decide +kernel
theorem dFloating_quotient_221 : decode cFloating_quotient 221 = .ok (.lload_n 3, 1) := by decide +kernel
theorem dFloating_quotient_222 : decode cFloating_quotient 222 = .ok (.invokevirtual 69, 3) := by decide +kernel
theorem dFloating_quotient_225 : decode cFloating_quotient 225 = .ok (.iload 8, 2) := by decide +kernel
theorem dFloating_quotient_227 : decode cFloating_quotient 227 = .ok (.isub, 1) := by decide +kernel
theorem dFloating_quotient_228 : decode cFloating_quotient 228 = .ok (.isub, 1) := by decide +kernel
theorem dFloating_quotient_229 : decode cFloating_quotient 229 = .ok (.bipush 56, 2) := by decide +kernel
theorem dFloating_quotient_231 : decode cFloating_quotient 231 = .ok (.isub, 1) := by decide +kernel
theorem dFloating_quotient_232 : decode cFloating_quotient 232 = .ok (.istore 15, 2) := by decide +kernel
theorem dFloating_quotient_234 : decode cFloating_quotient 234 = .ok (.aload_n 0, 1) := by decide +kernel
theorem dFloating_quotient_235 : decode cFloating_quotient 235 = .ok (.iload 5, 2) := by decide +kernel
theorem dFloating_quotient_237 : decode cFloating_quotient 237 = .ok (.lload 9, 2) := by decide +kernel
theorem dFloating_quotient_239 : decode cFloating_quotient 239 = .ok (.lconst 0, 1) := by decide +kernel
theorem dFloating_quotient_240 : decode cFloating_quotient 240 = .ok (.lcmp, 1) := by decide +kernel
theorem dFloating_quotient_241 : decode cFloating_quotient 241 = .ok (.ifCond .ne 8, 3) := by decide +kernel
theorem dFloating_quotient_244 : decode cFloating_quotient 244 = .ok (.lload 13, 2) := by decide +kernel
theorem dFloating_quotient_246 : decode cFloating_quotient 246 = .ok (.goto 7, 3) := by decide +kernel
theorem dFloating_quotient_249 : decode cFloating_quotient 249 = .ok (.lload 13, 2) := by decide +kernel
theorem dFloating_quotient_251 : decode cFloating_quotient 251 = .ok (.lconst 1, 1) := by decide +kernel
theorem dFloating_quotient_252 : decode cFloating_quotient 252 = .ok (.lor, 1) := by decide +kernel
theorem dFloating_quotient_253 : decode cFloating_quotient 253 = .ok (.iload 15, 2) := by decide +kernel
theorem dFloating_quotient_255 : decode cFloating_quotient 255 = .ok (.invokevirtual 80, 3) := by decide +kernel
theorem dFloating_quotient_258 : decode cFloating_quotient 258 = .ok (.lreturn, 1) := by decide +kernel
theorem dFloating_orderWithZeros_0 : decode cFloating_orderWithZeros 0 = .ok (.aload_n 0, 1) := by decide +kernel
theorem dFloating_orderWithZeros_1 : decode cFloating_orderWithZeros 1 = .ok (.lload_n 1, 1) := by decide +kernel
theorem dFloating_orderWithZeros_2 : decode cFloating_orderWithZeros 2 = .ok (.invokevirtual 25, 3) := by decide +kernel
theorem dFloating_orderWithZeros_5 : decode cFloating_orderWithZeros 5 = .ok (.lstore_n 3, 1) := by decide +kernel
theorem dFloating_orderWithZeros_6 : decode cFloating_orderWithZeros 6 = .ok (.aload_n 0, 1) := by decide +kernel
theorem dFloating_orderWithZeros_7 : decode cFloating_orderWithZeros 7 = .ok (.lload_n 1, 1) := by decide +kernel
theorem dFloating_orderWithZeros_8 : decode cFloating_orderWithZeros 8 = .ok (.invokevirtual 33, 3) := by decide +kernel
theorem dFloating_orderWithZeros_11 : decode cFloating_orderWithZeros 11 = .ok (.ifCond .eq 11, 3) := by decide +kernel
theorem dFloating_orderWithZeros_14 : decode cFloating_orderWithZeros 14 = .ok (.lload_n 3, 1) := by decide +kernel
theorem dFloating_orderWithZeros_15 : decode cFloating_orderWithZeros 15 = .ok (.ldc2_w 67, 3) := by decide +kernel
theorem dFloating_orderWithZeros_18 : decode cFloating_orderWithZeros 18 = .ok (.lxor, 1) := by decide +kernel
theorem dFloating_orderWithZeros_19 : decode cFloating_orderWithZeros 19 = .ok (.goto 4, 3) := by decide +kernel
theorem dFloating_orderWithZeros_22 : decode cFloating_orderWithZeros 22 = .ok (.lload_n 3, 1) := by decide +kernel
theorem dFloating_orderWithZeros_23 : decode cFloating_orderWithZeros 23 = .ok (.lreturn, 1) := by decide +kernel
theorem dFloating_calculated_0 : decode cFloating_calculated 0 = .ok (.iload_n 0, 1) := by decide +kernel
theorem dFloating_calculated_1 : decode cFloating_calculated 1 = .ok (.tableswitch 153 2 12 #[59, 59, 59, 59, 66, 72, 80, 93, 101, 109, 131], 59) := by decide +kernel
theorem dFloating_calculated_60 : decode cFloating_calculated 60 = .ok (.iload_n 0, 1) := by decide +kernel
theorem dFloating_calculated_61 : decode cFloating_calculated 61 = .ok (.aload_n 1, 1) := by decide +kernel
theorem dFloating_calculated_62 : decode cFloating_calculated 62 = .ok (.lload_n 2, 1) := by decide +kernel
theorem dFloating_calculated_63 : decode cFloating_calculated 63 = .ok (.invokestatic 47, 3) := by decide +kernel
theorem dFloating_calculated_66 : decode cFloating_calculated 66 = .ok (.lreturn, 1) := by decide +kernel
theorem dFloating_calculated_67 : decode cFloating_calculated 67 = .ok (.aload_n 1, 1) := by decide +kernel
theorem dFloating_calculated_68 : decode cFloating_calculated 68 = .ok (.lload_n 2, 1) := by decide +kernel
theorem dFloating_calculated_69 : decode cFloating_calculated 69 = .ok (.invokestatic 51, 3) := by decide +kernel
theorem dFloating_calculated_72 : decode cFloating_calculated 72 = .ok (.lreturn, 1) := by decide +kernel
theorem dFloating_calculated_73 : decode cFloating_calculated 73 = .ok (.aload_n 1, 1) := by decide +kernel
theorem dFloating_calculated_74 : decode cFloating_calculated 74 = .ok (.lload_n 2, 1) := by decide +kernel
theorem dFloating_calculated_75 : decode cFloating_calculated 75 = .ok (.lload 4, 2) := by decide +kernel
theorem dFloating_calculated_77 : decode cFloating_calculated 77 = .ok (.invokestatic 54, 3) := by decide +kernel
theorem dFloating_calculated_80 : decode cFloating_calculated 80 = .ok (.lreturn, 1) := by decide +kernel
theorem dFloating_calculated_81 : decode cFloating_calculated 81 = .ok (.aload_n 1, 1) := by decide +kernel
theorem dFloating_calculated_82 : decode cFloating_calculated 82 = .ok (.lload_n 2, 1) := by decide +kernel
theorem dFloating_calculated_83 : decode cFloating_calculated 83 = .ok (.lload 4, 2) := by decide +kernel
theorem dFloating_calculated_85 : decode cFloating_calculated 85 = .ok (.aload_n 1, 1) := by decide +kernel
theorem dFloating_calculated_86 : decode cFloating_calculated 86 = .ok (.getfield 29, 3) := by decide +kernel
theorem dFloating_calculated_89 : decode cFloating_calculated 89 = .ok (.lxor, 1) := by decide +kernel
theorem dFloating_calculated_90 : decode cFloating_calculated 90 = .ok (.invokestatic 54, 3) := by decide +kernel
theorem dFloating_calculated_93 : decode cFloating_calculated 93 = .ok (.lreturn, 1) := by decide +kernel
theorem dFloating_calculated_94 : decode cFloating_calculated 94 = .ok (.aload_n 1, 1) := by decide +kernel
theorem dFloating_calculated_95 : decode cFloating_calculated 95 = .ok (.lload_n 2, 1) := by decide +kernel
theorem dFloating_calculated_96 : decode cFloating_calculated 96 = .ok (.lload 4, 2) := by decide +kernel
theorem dFloating_calculated_98 : decode cFloating_calculated 98 = .ok (.invokestatic 58, 3) := by decide +kernel
theorem dFloating_calculated_101 : decode cFloating_calculated 101 = .ok (.lreturn, 1) := by decide +kernel
theorem dFloating_calculated_102 : decode cFloating_calculated 102 = .ok (.aload_n 1, 1) := by decide +kernel
theorem dFloating_calculated_103 : decode cFloating_calculated 103 = .ok (.lload_n 2, 1) := by decide +kernel
theorem dFloating_calculated_104 : decode cFloating_calculated 104 = .ok (.lload 4, 2) := by decide +kernel
theorem dFloating_calculated_106 : decode cFloating_calculated 106 = .ok (.invokestatic 61, 3) := by decide +kernel
theorem dFloating_calculated_109 : decode cFloating_calculated 109 = .ok (.lreturn, 1) := by decide +kernel
theorem dFloating_calculated_110 : decode cFloating_calculated 110 = .ok (.aload_n 1, 1) := by decide +kernel
theorem dFloating_calculated_111 : decode cFloating_calculated 111 = .ok (.lload_n 2, 1) := by decide +kernel
theorem dFloating_calculated_112 : decode cFloating_calculated 112 = .ok (.invokestatic 64, 3) := by decide +kernel
theorem dFloating_calculated_115 : decode cFloating_calculated 115 = .ok (.aload_n 1, 1) := by decide +kernel
theorem dFloating_calculated_116 : decode cFloating_calculated 116 = .ok (.lload 4, 2) := by decide +kernel
theorem dFloating_calculated_118 : decode cFloating_calculated 118 = .ok (.invokestatic 64, 3) := by decide +kernel
theorem dFloating_calculated_121 : decode cFloating_calculated 121 = .ok (.lcmp, 1) := by decide +kernel
theorem dFloating_calculated_122 : decode cFloating_calculated 122 = .ok (.ifCond .gt 7, 3) := by decide +kernel
theorem dFloating_calculated_125 : decode cFloating_calculated 125 = .ok (.lload_n 2, 1) := by decide +kernel
theorem dFloating_calculated_126 : decode cFloating_calculated 126 = .ok (.goto 5, 3) := by decide +kernel
theorem dFloating_calculated_129 : decode cFloating_calculated 129 = .ok (.lload 4, 2) := by decide +kernel
theorem dFloating_calculated_131 : decode cFloating_calculated 131 = .ok (.lreturn, 1) := by decide +kernel
theorem dFloating_calculated_132 : decode cFloating_calculated 132 = .ok (.aload_n 1, 1) := by decide +kernel
theorem dFloating_calculated_133 : decode cFloating_calculated 133 = .ok (.lload_n 2, 1) := by decide +kernel
theorem dFloating_calculated_134 : decode cFloating_calculated 134 = .ok (.invokestatic 64, 3) := by decide +kernel
theorem dFloating_calculated_137 : decode cFloating_calculated 137 = .ok (.aload_n 1, 1) := by decide +kernel
theorem dFloating_calculated_138 : decode cFloating_calculated 138 = .ok (.lload 4, 2) := by decide +kernel
theorem dFloating_calculated_140 : decode cFloating_calculated 140 = .ok (.invokestatic 64, 3) := by decide +kernel
theorem dFloating_calculated_143 : decode cFloating_calculated 143 = .ok (.lcmp, 1) := by decide +kernel
theorem dFloating_calculated_144 : decode cFloating_calculated 144 = .ok (.ifCond .lt 7, 3) := by decide +kernel
theorem dFloating_calculated_147 : decode cFloating_calculated 147 = .ok (.lload_n 2, 1) := by decide +kernel
theorem dFloating_calculated_148 : decode cFloating_calculated 148 = .ok (.goto 5, 3) := by decide +kernel
theorem dFloating_calculated_151 : decode cFloating_calculated 151 = .ok (.lload 4, 2) := by decide +kernel
theorem dFloating_calculated_153 : decode cFloating_calculated 153 = .ok (.lreturn, 1) := by decide +kernel
theorem dFloating_calculated_154 : decode cFloating_calculated 154 = .ok (.lload_n 2, 1) := by decide +kernel
theorem dFloating_calculated_155 : decode cFloating_calculated 155 = .ok (.lreturn, 1) := by decide +kernel
theorem dFloating_result_0 : decode cFloating_result 0 = .ok (.iload_n 0, 1) := by decide +kernel
theorem dFloating_result_1 : decode cFloating_result 1 = .ok (.lookupswitch 64 #[(0, 35), (1, 41), (13, 48)], 35) := by decide +kernel
theorem dFloating_result_36 : decode cFloating_result 36 = .ok (.aload_n 1, 1) := by decide +kernel
theorem dFloating_result_37 : decode cFloating_result 37 = .ok (.lload_n 2, 1) := by decide +kernel
theorem dFloating_result_38 : decode cFloating_result 38 = .ok (.invokevirtual 25, 3) := by decide +kernel
theorem dFloating_result_41 : decode cFloating_result 41 = .ok (.lreturn, 1) := by decide +kernel
theorem dFloating_result_42 : decode cFloating_result 42 = .ok (.lload_n 2, 1) := by decide +kernel
theorem dFloating_result_43 : decode cFloating_result 43 = .ok (.aload_n 1, 1) := by decide +kernel
theorem dFloating_result_44 : decode cFloating_result 44 = .ok (.getfield 29, 3) := by decide +kernel
theorem dFloating_result_47 : decode cFloating_result 47 = .ok (.lxor, 1) := by decide +kernel
theorem dFloating_result_48 : decode cFloating_result 48 = .ok (.lreturn, 1) := by decide +kernel
theorem dFloating_result_49 : decode cFloating_result 49 = .ok (.aload_n 1, 1) := by decide +kernel
theorem dFloating_result_50 : decode cFloating_result 50 = .ok (.aload_n 1, 1) := by decide +kernel
theorem dFloating_result_51 : decode cFloating_result 51 = .ok (.lload 4, 2) := by decide +kernel
theorem dFloating_result_53 : decode cFloating_result 53 = .ok (.invokevirtual 33, 3) := by decide +kernel
theorem dFloating_result_56 : decode cFloating_result 56 = .ok (.aload_n 1, 1) := by decide +kernel
theorem dFloating_result_57 : decode cFloating_result 57 = .ok (.lload_n 2, 1) := by decide +kernel
theorem dFloating_result_58 : decode cFloating_result 58 = .ok (.invokevirtual 25, 3) := by decide +kernel
theorem dFloating_result_61 : decode cFloating_result 61 = .ok (.invokevirtual 36, 3) := by decide +kernel
theorem dFloating_result_64 : decode cFloating_result 64 = .ok (.lreturn, 1) := by decide +kernel
theorem dFloating_result_65 : decode cFloating_result 65 = .ok (.aload_n 1, 1) := by decide +kernel
theorem dFloating_result_66 : decode cFloating_result 66 = .ok (.lload_n 2, 1) := by decide +kernel
theorem dFloating_result_67 : decode cFloating_result 67 = .ok (.invokevirtual 7, 3) := by decide +kernel
theorem dFloating_result_70 : decode cFloating_result 70 = .ok (.ifCond .ne 12, 3) := by decide +kernel
theorem dFloating_result_73 : decode cFloating_result 73 = .ok (.aload_n 1, 1) := by decide +kernel
theorem dFloating_result_74 : decode cFloating_result 74 = .ok (.lload 4, 2) := by decide +kernel
theorem dFloating_result_76 : decode cFloating_result 76 = .ok (.invokevirtual 7, 3) := by decide +kernel
theorem dFloating_result_79 : decode cFloating_result 79 = .ok (.ifCond .eq 10, 3) := by decide +kernel
theorem dFloating_result_82 : decode cFloating_result 82 = .ok (.aload_n 1, 1) := by decide +kernel
theorem dFloating_result_83 : decode cFloating_result 83 = .ok (.getfield 40, 3) := by decide +kernel
theorem dFloating_result_86 : decode cFloating_result 86 = .ok (.goto 11, 3) := by decide +kernel
theorem dFloating_result_89 : decode cFloating_result 89 = .ok (.iload_n 0, 1) := by decide +kernel
theorem dFloating_result_90 : decode cFloating_result 90 = .ok (.aload_n 1, 1) := by decide +kernel
theorem dFloating_result_91 : decode cFloating_result 91 = .ok (.lload_n 2, 1) := by decide +kernel
theorem dFloating_result_92 : decode cFloating_result 92 = .ok (.lload 4, 2) := by decide +kernel
theorem dFloating_result_94 : decode cFloating_result 94 = .ok (.invokestatic 43, 3) := by decide +kernel
theorem dFloating_result_97 : decode cFloating_result 97 = .ok (.lreturn, 1) := by decide +kernel
theorem dFormat_kind_0 : decode cFormat_kind 0 = .ok (.aload_n 0, 1) := by decide +kernel
theorem dFormat_kind_1 : decode cFormat_kind 1 = .ok (.lload_n 1, 1) := by decide +kernel
theorem dFormat_kind_2 : decode cFormat_kind 2 = .ok (.invokevirtual 58, 3) := by decide +kernel
theorem dFormat_kind_5 : decode cFormat_kind 5 = .ok (.ifCond .eq 5, 3) := by decide +kernel
theorem dFormat_kind_8 : decode cFormat_kind 8 = .ok (.iconst 4, 1) := by decide +kernel
theorem dFormat_kind_9 : decode cFormat_kind 9 = .ok (.ireturn, 1) := by decide +kernel
theorem dFormat_kind_10 : decode cFormat_kind 10 = .ok (.aload_n 0, 1) := by decide +kernel
theorem dFormat_kind_11 : decode cFormat_kind 11 = .ok (.lload_n 1, 1) := by decide +kernel
theorem dFormat_kind_12 : decode cFormat_kind 12 = .ok (.invokevirtual 62, 3) := by decide +kernel
theorem dFormat_kind_15 : decode cFormat_kind 15 = .ok (.ifCond .eq 5, 3) := by decide +kernel
theorem dFormat_kind_18 : decode cFormat_kind 18 = .ok (.iconst 3, 1) := by decide +kernel
theorem dFormat_kind_19 : decode cFormat_kind 19 = .ok (.ireturn, 1) := by decide +kernel
theorem dFormat_kind_20 : decode cFormat_kind 20 = .ok (.aload_n 0, 1) := by decide +kernel
theorem dFormat_kind_21 : decode cFormat_kind 21 = .ok (.lload_n 1, 1) := by decide +kernel
theorem dFormat_kind_22 : decode cFormat_kind 22 = .ok (.invokevirtual 65, 3) := by decide +kernel
theorem dFormat_kind_25 : decode cFormat_kind 25 = .ok (.ifCond .eq 5, 3) := by decide +kernel
theorem dFormat_kind_28 : decode cFormat_kind 28 = .ok (.iconst 0, 1) := by decide +kernel
theorem dFormat_kind_29 : decode cFormat_kind 29 = .ok (.ireturn, 1) := by decide +kernel
theorem dFormat_kind_30 : decode cFormat_kind 30 = .ok (.aload_n 0, 1) := by decide +kernel
theorem dFormat_kind_31 : decode cFormat_kind 31 = .ok (.lload_n 1, 1) := by decide +kernel
theorem dFormat_kind_32 : decode cFormat_kind 32 = .ok (.invokevirtual 68, 3) := by decide +kernel
theorem dFormat_kind_35 : decode cFormat_kind 35 = .ok (.ifCond .ne 7, 3) := by decide +kernel
theorem dFormat_kind_38 : decode cFormat_kind 38 = .ok (.iconst 1, 1) := by decide +kernel
theorem dFormat_kind_39 : decode cFormat_kind 39 = .ok (.goto 4, 3) := by decide +kernel
theorem dFormat_kind_42 : decode cFormat_kind 42 = .ok (.iconst 2, 1) := by decide +kernel
theorem dFormat_kind_43 : decode cFormat_kind 43 = .ok (.ireturn, 1) := by decide +kernel
theorem dOperators_exists_0 : decode cOperators_exists 0 = .ok (.iload_n 0, 1) := by decide +kernel
theorem dOperators_exists_1 : decode cOperators_exists 1 = .ok (.getstatic 9, 3) := by decide +kernel
theorem dOperators_exists_4 : decode cOperators_exists 4 = .ok (.iconst 0, 1) := by decide +kernel
theorem dOperators_exists_5 : decode cOperators_exists 5 = .ok (.iaload, 1) := by decide +kernel
theorem dOperators_exists_6 : decode cOperators_exists 6 = .ok (.if_icmp .lt 10, 3) := by decide +kernel
theorem dOperators_exists_9 : decode cOperators_exists 9 = .ok (.iload_n 0, 1) := by decide +kernel
theorem dOperators_exists_10 : decode cOperators_exists 10 = .ok (.sipush 196, 3) := by decide +kernel
theorem dOperators_exists_13 : decode cOperators_exists 13 = .ok (.if_icmp .le 17, 3) := by decide +kernel
theorem dOperators_exists_16 : decode cOperators_exists 16 = .ok (.iload_n 0, 1) := by decide +kernel
theorem dOperators_exists_17 : decode cOperators_exists 17 = .ok (.sipush 200, 3) := by decide +kernel
theorem dOperators_exists_20 : decode cOperators_exists 20 = .ok (.if_icmp .lt 14, 3) := by decide +kernel
theorem dOperators_exists_23 : decode cOperators_exists 23 = .ok (.iload_n 0, 1) := by decide +kernel
theorem dOperators_exists_24 : decode cOperators_exists 24 = .ok (.sipush 207, 3) := by decide +kernel
theorem dOperators_exists_27 : decode cOperators_exists 27 = .ok (.if_icmp .gt 7, 3) := by decide +kernel
theorem dOperators_exists_30 : decode cOperators_exists 30 = .ok (.iconst 1, 1) := by decide +kernel
theorem dOperators_exists_31 : decode cOperators_exists 31 = .ok (.goto 4, 3) := by decide +kernel
theorem dOperators_exists_34 : decode cOperators_exists 34 = .ok (.iconst 0, 1) := by decide +kernel
theorem dOperators_exists_35 : decode cOperators_exists 35 = .ok (.ireturn, 1) := by decide +kernel
theorem dOperators_family_0 : decode cOperators_family 0 = .ok (.iconst 0, 1) := by decide +kernel
theorem dOperators_family_1 : decode cOperators_family 1 = .ok (.istore_n 1, 1) := by decide +kernel
theorem dOperators_family_2 : decode cOperators_family 2 = .ok (.iconst 1, 1) := by decide +kernel
theorem dOperators_family_3 : decode cOperators_family 3 = .ok (.istore_n 2, 1) := by decide +kernel
theorem dOperators_family_4 : decode cOperators_family 4 = .ok (.iload_n 2, 1) := by decide +kernel
theorem dOperators_family_5 : decode cOperators_family 5 = .ok (.getstatic 9, 3) := by decide +kernel
theorem dOperators_family_8 : decode cOperators_family 8 = .ok (.arraylength, 1) := by decide +kernel
theorem dOperators_family_9 : decode cOperators_family 9 = .ok (.if_icmp .ge 20, 3) := by decide +kernel
theorem dOperators_family_12 : decode cOperators_family 12 = .ok (.iload_n 0, 1) := by decide +kernel
theorem dOperators_family_13 : decode cOperators_family 13 = .ok (.getstatic 9, 3) := by decide +kernel
theorem dOperators_family_16 : decode cOperators_family 16 = .ok (.iload_n 2, 1) := by decide +kernel
theorem dOperators_family_17 : decode cOperators_family 17 = .ok (.iaload, 1) := by decide +kernel
theorem dOperators_family_18 : decode cOperators_family 18 = .ok (.if_icmp .lt 5, 3) := by decide +kernel
theorem dOperators_family_21 : decode cOperators_family 21 = .ok (.iload_n 2, 1) := by decide +kernel
theorem dOperators_family_22 : decode cOperators_family 22 = .ok (.istore_n 1, 1) := by decide +kernel
theorem dOperators_family_23 : decode cOperators_family 23 = .ok (.iinc 2 1, 3) := by decide +kernel
theorem dOperators_family_26 : decode cOperators_family 26 = .ok (.goto (-22), 3) := by decide +kernel
theorem dOperators_family_29 : decode cOperators_family 29 = .ok (.iload_n 1, 1) := by decide +kernel
theorem dOperators_family_30 : decode cOperators_family 30 = .ok (.ireturn, 1) := by decide +kernel
theorem dOperators_operands_0 : decode cOperators_operands 0 = .ok (.iload_n 0, 1) := by decide +kernel
theorem dOperators_operands_1 : decode cOperators_operands 1 = .ok (.invokestatic 15, 3) := by decide +kernel
theorem dOperators_operands_4 : decode cOperators_operands 4 = .ok (.istore_n 1, 1) := by decide +kernel
theorem dOperators_operands_5 : decode cOperators_operands 5 = .ok (.iload_n 0, 1) := by decide +kernel
theorem dOperators_operands_6 : decode cOperators_operands 6 = .ok (.getstatic 9, 3) := by decide +kernel
theorem dOperators_operands_9 : decode cOperators_operands 9 = .ok (.iload_n 1, 1) := by decide +kernel
theorem dOperators_operands_10 : decode cOperators_operands 10 = .ok (.iaload, 1) := by decide +kernel
theorem dOperators_operands_11 : decode cOperators_operands 11 = .ok (.isub, 1) := by decide +kernel
theorem dOperators_operands_12 : decode cOperators_operands 12 = .ok (.getstatic 19, 3) := by decide +kernel
theorem dOperators_operands_15 : decode cOperators_operands 15 = .ok (.iload_n 1, 1) := by decide +kernel
theorem dOperators_operands_16 : decode cOperators_operands 16 = .ok (.iaload, 1) := by decide +kernel
theorem dOperators_operands_17 : decode cOperators_operands 17 = .ok (.if_icmp .ge 7, 3) := by decide +kernel
theorem dOperators_operands_20 : decode cOperators_operands 20 = .ok (.iconst 1, 1) := by decide +kernel
theorem dOperators_operands_21 : decode cOperators_operands 21 = .ok (.goto 4, 3) := by decide +kernel
theorem dOperators_operands_24 : decode cOperators_operands 24 = .ok (.iconst 2, 1) := by decide +kernel
theorem dOperators_operands_25 : decode cOperators_operands 25 = .ok (.ireturn, 1) := by decide +kernel
theorem dOperators_typeIn_0 : decode cOperators_typeIn 0 = .ok (.iload_n 1, 1) := by decide +kernel
theorem dOperators_typeIn_1 : decode cOperators_typeIn 1 = .ok (.getstatic 9, 3) := by decide +kernel
theorem dOperators_typeIn_4 : decode cOperators_typeIn 4 = .ok (.bipush 8, 2) := by decide +kernel
theorem dOperators_typeIn_6 : decode cOperators_typeIn 6 = .ok (.iaload, 1) := by decide +kernel
theorem dOperators_typeIn_7 : decode cOperators_typeIn 7 = .ok (.isub, 1) := by decide +kernel
theorem dOperators_typeIn_8 : decode cOperators_typeIn 8 = .ok (.istore_n 2, 1) := by decide +kernel
theorem dOperators_typeIn_9 : decode cOperators_typeIn 9 = .ok (.iload_n 2, 1) := by decide +kernel
theorem dOperators_typeIn_10 : decode cOperators_typeIn 10 = .ok (.ifCond .lt 15, 3) := by decide +kernel
theorem dOperators_typeIn_13 : decode cOperators_typeIn 13 = .ok (.iload_n 2, 1) := by decide +kernel
theorem dOperators_typeIn_14 : decode cOperators_typeIn 14 = .ok (.aload_n 0, 1) := by decide +kernel
theorem dOperators_typeIn_15 : decode cOperators_typeIn 15 = .ok (.arraylength, 1) := by decide +kernel
theorem dOperators_typeIn_16 : decode cOperators_typeIn 16 = .ok (.if_icmp .ge 9, 3) := by decide +kernel
theorem dOperators_typeIn_19 : decode cOperators_typeIn 19 = .ok (.aload_n 0, 1) := by decide +kernel
theorem dOperators_typeIn_20 : decode cOperators_typeIn 20 = .ok (.iload_n 2, 1) := by decide +kernel
theorem dOperators_typeIn_21 : decode cOperators_typeIn 21 = .ok (.iaload, 1) := by decide +kernel
theorem dOperators_typeIn_22 : decode cOperators_typeIn 22 = .ok (.goto 4, 3) := by decide +kernel
theorem dOperators_typeIn_25 : decode cOperators_typeIn 25 = .ok (.iconst (-1), 1) := by decide +kernel
theorem dOperators_typeIn_26 : decode cOperators_typeIn 26 = .ok (.ireturn, 1) := by decide +kernel
theorem dOperators_operandType_0 : decode cOperators_operandType 0 = .ok (.iload_n 0, 1) := by decide +kernel
theorem dOperators_operandType_1 : decode cOperators_operandType 1 = .ok (.invokestatic 15, 3) := by decide +kernel
theorem dOperators_operandType_4 : decode cOperators_operandType 4 = .ok (.istore_n 1, 1) := by decide +kernel
theorem dOperators_operandType_5 : decode cOperators_operandType 5 = .ok (.iload_n 1, 1) := by decide +kernel
theorem dOperators_operandType_6 : decode cOperators_operandType 6 = .ok (.bipush 8, 2) := by decide +kernel
theorem dOperators_operandType_8 : decode cOperators_operandType 8 = .ok (.if_icmp .ge 9, 3) := by decide +kernel
theorem dOperators_operandType_11 : decode cOperators_operandType 11 = .ok (.iload_n 1, 1) := by decide +kernel
theorem dOperators_operandType_12 : decode cOperators_operandType 12 = .ok (.iconst 4, 1) := by decide +kernel
theorem dOperators_operandType_13 : decode cOperators_operandType 13 = .ok (.irem, 1) := by decide +kernel
theorem dOperators_operandType_14 : decode cOperators_operandType 14 = .ok (.goto 10, 3) := by decide +kernel
theorem dOperators_operandType_17 : decode cOperators_operandType 17 = .ok (.getstatic 22, 3) := by decide +kernel
theorem dOperators_operandType_20 : decode cOperators_operandType 20 = .ok (.iload_n 0, 1) := by decide +kernel
theorem dOperators_operandType_21 : decode cOperators_operandType 21 = .ok (.invokestatic 25, 3) := by decide +kernel
theorem dOperators_operandType_24 : decode cOperators_operandType 24 = .ok (.ireturn, 1) := by decide +kernel
theorem dOperators_resultType_0 : decode cOperators_resultType 0 = .ok (.iload_n 0, 1) := by decide +kernel
theorem dOperators_resultType_1 : decode cOperators_resultType 1 = .ok (.invokestatic 15, 3) := by decide +kernel
theorem dOperators_resultType_4 : decode cOperators_resultType 4 = .ok (.istore_n 1, 1) := by decide +kernel
theorem dOperators_resultType_5 : decode cOperators_resultType 5 = .ok (.iload_n 1, 1) := by decide +kernel
theorem dOperators_resultType_6 : decode cOperators_resultType 6 = .ok (.iconst 4, 1) := by decide +kernel
theorem dOperators_resultType_7 : decode cOperators_resultType 7 = .ok (.if_icmp .ge 5, 3) := by decide +kernel
theorem dOperators_resultType_10 : decode cOperators_resultType 10 = .ok (.iconst 0, 1) := by decide +kernel
theorem dOperators_resultType_11 : decode cOperators_resultType 11 = .ok (.ireturn, 1) := by decide +kernel
theorem dOperators_resultType_12 : decode cOperators_resultType 12 = .ok (.iload_n 1, 1) := by decide +kernel
theorem dOperators_resultType_13 : decode cOperators_resultType 13 = .ok (.bipush 8, 2) := by decide +kernel
theorem dOperators_resultType_15 : decode cOperators_resultType 15 = .ok (.if_icmp .ge 9, 3) := by decide +kernel
theorem dOperators_resultType_18 : decode cOperators_resultType 18 = .ok (.iload_n 1, 1) := by decide +kernel
theorem dOperators_resultType_19 : decode cOperators_resultType 19 = .ok (.iconst 4, 1) := by decide +kernel
theorem dOperators_resultType_20 : decode cOperators_resultType 20 = .ok (.irem, 1) := by decide +kernel
theorem dOperators_resultType_21 : decode cOperators_resultType 21 = .ok (.goto 10, 3) := by decide +kernel
theorem dOperators_resultType_24 : decode cOperators_resultType 24 = .ok (.getstatic 29, 3) := by decide +kernel
theorem dOperators_resultType_27 : decode cOperators_resultType 27 = .ok (.iload_n 0, 1) := by decide +kernel
theorem dOperators_resultType_28 : decode cOperators_resultType 28 = .ok (.invokestatic 25, 3) := by decide +kernel
theorem dOperators_resultType_31 : decode cOperators_resultType 31 = .ok (.ireturn, 1) := by decide +kernel
theorem dWhole_withoutSign_0 : decode cWhole_withoutSign 0 = .ok (.iload_n 0, 1) := by decide +kernel
theorem dWhole_withoutSign_1 : decode cWhole_withoutSign 1 = .ok (.ifCond .ne 11, 3) := by decide +kernel
theorem dWhole_withoutSign_4 : decode cWhole_withoutSign 4 = .ok (.lload_n 1, 1) := by decide +kernel
theorem dWhole_withoutSign_5 : decode cWhole_withoutSign 5 = .ok (.ldc2_w 9, 3) := by decide +kernel
theorem dWhole_withoutSign_8 : decode cWhole_withoutSign 8 = .ok (.land, 1) := by decide +kernel
theorem dWhole_withoutSign_9 : decode cWhole_withoutSign 9 = .ok (.goto 4, 3) := by decide +kernel
theorem dWhole_withoutSign_12 : decode cWhole_withoutSign 12 = .ok (.lload_n 1, 1) := by decide +kernel
theorem dWhole_withoutSign_13 : decode cWhole_withoutSign 13 = .ok (.lreturn, 1) := by decide +kernel
theorem dWhole_trapOf_0 : decode cWhole_trapOf 0 = .ok (.iload_n 0, 1) := by decide +kernel
theorem dWhole_trapOf_1 : decode cWhole_trapOf 1 = .ok (.bipush 6, 2) := by decide +kernel
theorem dWhole_trapOf_3 : decode cWhole_trapOf 3 = .ok (.if_icmp .lt 9, 3) := by decide +kernel
theorem dWhole_trapOf_6 : decode cWhole_trapOf 6 = .ok (.iload_n 0, 1) := by decide +kernel
theorem dWhole_trapOf_7 : decode cWhole_trapOf 7 = .ok (.bipush 9, 2) := by decide +kernel
theorem dWhole_trapOf_9 : decode cWhole_trapOf 9 = .ok (.if_icmp .le 5, 3) := by decide +kernel
theorem dWhole_trapOf_12 : decode cWhole_trapOf 12 = .ok (.iconst 0, 1) := by decide +kernel
theorem dWhole_trapOf_13 : decode cWhole_trapOf 13 = .ok (.ireturn, 1) := by decide +kernel
theorem dWhole_trapOf_14 : decode cWhole_trapOf 14 = .ok (.lload 4, 2) := by decide +kernel
theorem dWhole_trapOf_16 : decode cWhole_trapOf 16 = .ok (.lconst 0, 1) := by decide +kernel
theorem dWhole_trapOf_17 : decode cWhole_trapOf 17 = .ok (.lcmp, 1) := by decide +kernel
theorem dWhole_trapOf_18 : decode cWhole_trapOf 18 = .ok (.ifCond .ne 5, 3) := by decide +kernel
theorem dWhole_trapOf_21 : decode cWhole_trapOf 21 = .ok (.iconst 1, 1) := by decide +kernel
theorem dWhole_trapOf_22 : decode cWhole_trapOf 22 = .ok (.ireturn, 1) := by decide +kernel
theorem dWhole_trapOf_23 : decode cWhole_trapOf 23 = .ok (.iload_n 1, 1) := by decide +kernel
theorem dWhole_trapOf_24 : decode cWhole_trapOf 24 = .ok (.iload_n 1, 1) := by decide +kernel
theorem dWhole_trapOf_25 : decode cWhole_trapOf 25 = .ok (.iconst 1, 1) := by decide +kernel
theorem dWhole_trapOf_26 : decode cWhole_trapOf 26 = .ok (.invokestatic 38, 3) := by decide +kernel
theorem dWhole_trapOf_29 : decode cWhole_trapOf 29 = .ok (.lconst 1, 1) := by decide +kernel
theorem dWhole_trapOf_30 : decode cWhole_trapOf 30 = .ok (.ladd, 1) := by decide +kernel
theorem dWhole_trapOf_31 : decode cWhole_trapOf 31 = .ok (.invokestatic 42, 3) := by decide +kernel
theorem dWhole_trapOf_34 : decode cWhole_trapOf 34 = .ok (.lstore 6, 2) := by decide +kernel
theorem dWhole_trapOf_36 : decode cWhole_trapOf 36 = .ok (.iload_n 0, 1) := by decide +kernel
theorem dWhole_trapOf_37 : decode cWhole_trapOf 37 = .ok (.bipush 6, 2) := by decide +kernel
theorem dWhole_trapOf_39 : decode cWhole_trapOf 39 = .ok (.if_icmp .ne 27, 3) := by decide +kernel
theorem dWhole_trapOf_42 : decode cWhole_trapOf 42 = .ok (.lload_n 2, 1) := by decide +kernel
theorem dWhole_trapOf_43 : decode cWhole_trapOf 43 = .ok (.lload 6, 2) := by decide +kernel
theorem dWhole_trapOf_45 : decode cWhole_trapOf 45 = .ok (.lcmp, 1) := by decide +kernel
theorem dWhole_trapOf_46 : decode cWhole_trapOf 46 = .ok (.ifCond .ne 20, 3) := by decide +kernel
theorem dWhole_trapOf_49 : decode cWhole_trapOf 49 = .ok (.iload_n 1, 1) := by decide +kernel
theorem dWhole_trapOf_50 : decode cWhole_trapOf 50 = .ok (.lload 4, 2) := by decide +kernel
theorem dWhole_trapOf_52 : decode cWhole_trapOf 52 = .ok (.invokestatic 31, 3) := by decide +kernel
theorem dWhole_trapOf_55 : decode cWhole_trapOf 55 = .ok (.ldc2_w 11, 3) := by decide +kernel
theorem dWhole_trapOf_58 : decode cWhole_trapOf 58 = .ok (.lcmp, 1) := by decide +kernel
theorem dWhole_trapOf_59 : decode cWhole_trapOf 59 = .ok (.ifCond .ne 7, 3) := by decide +kernel
theorem dWhole_trapOf_62 : decode cWhole_trapOf 62 = .ok (.iconst 1, 1) := by decide +kernel
theorem dWhole_trapOf_63 : decode cWhole_trapOf 63 = .ok (.goto 4, 3) := by decide +kernel
theorem dWhole_trapOf_66 : decode cWhole_trapOf 66 = .ok (.iconst 0, 1) := by decide +kernel
theorem dWhole_trapOf_67 : decode cWhole_trapOf 67 = .ok (.istore 8, 2) := by decide +kernel
theorem dWhole_trapOf_69 : decode cWhole_trapOf 69 = .ok (.iload 8, 2) := by decide +kernel
theorem dWhole_trapOf_71 : decode cWhole_trapOf 71 = .ok (.ifCond .eq 7, 3) := by decide +kernel
theorem dWhole_trapOf_74 : decode cWhole_trapOf 74 = .ok (.iconst 2, 1) := by decide +kernel
theorem dWhole_trapOf_75 : decode cWhole_trapOf 75 = .ok (.goto 4, 3) := by decide +kernel
theorem dWhole_trapOf_78 : decode cWhole_trapOf 78 = .ok (.iconst 0, 1) := by decide +kernel
theorem dWhole_trapOf_79 : decode cWhole_trapOf 79 = .ok (.ireturn, 1) := by decide +kernel
theorem dOperators_trapOf_0 : decode cOperators_trapOf 0 = .ok (.iload_n 0, 1) := by decide +kernel
theorem dOperators_trapOf_1 : decode cOperators_trapOf 1 = .ok (.invokestatic 15, 3) := by decide +kernel
theorem dOperators_trapOf_4 : decode cOperators_trapOf 4 = .ok (.istore 5, 2) := by decide +kernel
theorem dOperators_trapOf_6 : decode cOperators_trapOf 6 = .ok (.iload_n 0, 1) := by decide +kernel
theorem dOperators_trapOf_7 : decode cOperators_trapOf 7 = .ok (.invokestatic 32, 3) := by decide +kernel
theorem dOperators_trapOf_10 : decode cOperators_trapOf 10 = .ok (.istore 6, 2) := by decide +kernel
theorem dOperators_trapOf_12 : decode cOperators_trapOf 12 = .ok (.iload 5, 2) := by decide +kernel
theorem dOperators_trapOf_14 : decode cOperators_trapOf 14 = .ok (.iconst 4, 1) := by decide +kernel
theorem dOperators_trapOf_15 : decode cOperators_trapOf 15 = .ok (.if_icmp .eq 9, 3) := by decide +kernel
theorem dOperators_trapOf_18 : decode cOperators_trapOf 18 = .ok (.iload 5, 2) := by decide +kernel
theorem dOperators_trapOf_20 : decode cOperators_trapOf 20 = .ok (.iconst 5, 1) := by decide +kernel
theorem dOperators_trapOf_21 : decode cOperators_trapOf 21 = .ok (.if_icmp .ne 19, 3) := by decide +kernel
theorem dOperators_trapOf_24 : decode cOperators_trapOf 24 = .ok (.iload_n 0, 1) := by decide +kernel
theorem dOperators_trapOf_25 : decode cOperators_trapOf 25 = .ok (.getstatic 9, 3) := by decide +kernel
theorem dOperators_trapOf_28 : decode cOperators_trapOf 28 = .ok (.iload 5, 2) := by decide +kernel
theorem dOperators_trapOf_30 : decode cOperators_trapOf 30 = .ok (.iaload, 1) := by decide +kernel
theorem dOperators_trapOf_31 : decode cOperators_trapOf 31 = .ok (.isub, 1) := by decide +kernel
theorem dOperators_trapOf_32 : decode cOperators_trapOf 32 = .ok (.iload 6, 2) := by decide +kernel
theorem dOperators_trapOf_34 : decode cOperators_trapOf 34 = .ok (.lload_n 1, 1) := by decide +kernel
theorem dOperators_trapOf_35 : decode cOperators_trapOf 35 = .ok (.lload_n 3, 1) := by decide +kernel
theorem dOperators_trapOf_36 : decode cOperators_trapOf 36 = .ok (.invokestatic 35, 3) := by decide +kernel
theorem dOperators_trapOf_39 : decode cOperators_trapOf 39 = .ok (.ireturn, 1) := by decide +kernel
theorem dOperators_trapOf_40 : decode cOperators_trapOf 40 = .ok (.iload 5, 2) := by decide +kernel
theorem dOperators_trapOf_42 : decode cOperators_trapOf 42 = .ok (.bipush 8, 2) := by decide +kernel
theorem dOperators_trapOf_44 : decode cOperators_trapOf 44 = .ok (.if_icmp .ne 32, 3) := by decide +kernel
theorem dOperators_trapOf_47 : decode cOperators_trapOf 47 = .ok (.iload_n 0, 1) := by decide +kernel
theorem dOperators_trapOf_48 : decode cOperators_trapOf 48 = .ok (.sipush 200, 3) := by decide +kernel
theorem dOperators_trapOf_51 : decode cOperators_trapOf 51 = .ok (.if_icmp .ge 25, 3) := by decide +kernel
theorem dOperators_trapOf_54 : decode cOperators_trapOf 54 = .ok (.iload_n 0, 1) := by decide +kernel
theorem dOperators_trapOf_55 : decode cOperators_trapOf 55 = .ok (.invokestatic 41, 3) := by decide +kernel
theorem dOperators_trapOf_58 : decode cOperators_trapOf 58 = .ok (.ifCond .eq 18, 3) := by decide +kernel
theorem dOperators_trapOf_61 : decode cOperators_trapOf 61 = .ok (.iload_n 0, 1) := by decide +kernel
theorem dOperators_trapOf_62 : decode cOperators_trapOf 62 = .ok (.iload 6, 2) := by decide +kernel
theorem dOperators_trapOf_64 : decode cOperators_trapOf 64 = .ok (.invokestatic 47, 3) := by decide +kernel
theorem dOperators_trapOf_67 : decode cOperators_trapOf 67 = .ok (.iload_n 0, 1) := by decide +kernel
theorem dOperators_trapOf_68 : decode cOperators_trapOf 68 = .ok (.invokestatic 53, 3) := by decide +kernel
theorem dOperators_trapOf_71 : decode cOperators_trapOf 71 = .ok (.lload_n 1, 1) := by decide +kernel
theorem dOperators_trapOf_72 : decode cOperators_trapOf 72 = .ok (.invokestatic 56, 3) := by decide +kernel
theorem dOperators_trapOf_75 : decode cOperators_trapOf 75 = .ok (.ireturn, 1) := by decide +kernel
theorem dOperators_trapOf_76 : decode cOperators_trapOf 76 = .ok (.iconst 0, 1) := by decide +kernel
theorem dOperators_trapOf_77 : decode cOperators_trapOf 77 = .ok (.ireturn, 1) := by decide +kernel
theorem dWhole_test_0 : decode cWhole_test 0 = .ok (.iload_n 1, 1) := by decide +kernel
theorem dWhole_test_1 : decode cWhole_test 1 = .ok (.lload_n 2, 1) := by decide +kernel
theorem dWhole_test_2 : decode cWhole_test 2 = .ok (.invokestatic 31, 3) := by decide +kernel
theorem dWhole_test_5 : decode cWhole_test 5 = .ok (.iload_n 1, 1) := by decide +kernel
theorem dWhole_test_6 : decode cWhole_test 6 = .ok (.lload 4, 2) := by decide +kernel
theorem dWhole_test_8 : decode cWhole_test 8 = .ok (.invokestatic 31, 3) := by decide +kernel
theorem dWhole_test_11 : decode cWhole_test 11 = .ok (.invokestatic 21, 3) := by decide +kernel
theorem dWhole_test_14 : decode cWhole_test 14 = .ok (.istore 6, 2) := by decide +kernel
theorem dWhole_test_16 : decode cWhole_test 16 = .ok (.lload_n 2, 1) := by decide +kernel
theorem dWhole_test_17 : decode cWhole_test 17 = .ok (.lload 4, 2) := by decide +kernel
theorem dWhole_test_19 : decode cWhole_test 19 = .ok (.invokestatic 35, 3) := by decide +kernel
theorem dWhole_test_22 : decode cWhole_test 22 = .ok (.istore 7, 2) := by decide +kernel
theorem dWhole_test_24 : decode cWhole_test 24 = .ok (.iload_n 0, 1) := by decide +kernel
theorem dWhole_test_25 : decode cWhole_test 25 = .ok (.tableswitch 185 0 10 #[59, 71, 84, 97, 108, 119, 130, 141, 152, 163, 174], 59) := by decide +kernel
theorem dWhole_test_84 : decode cWhole_test 84 = .ok (.lload_n 2, 1) := by decide +kernel
theorem dWhole_test_85 : decode cWhole_test 85 = .ok (.lconst 0, 1) := by decide +kernel
theorem dWhole_test_86 : decode cWhole_test 86 = .ok (.lcmp, 1) := by decide +kernel
theorem dWhole_test_87 : decode cWhole_test 87 = .ok (.ifCond .ne 7, 3) := by decide +kernel
theorem dWhole_test_90 : decode cWhole_test 90 = .ok (.iconst 1, 1) := by decide +kernel
theorem dWhole_test_91 : decode cWhole_test 91 = .ok (.goto 4, 3) := by decide +kernel
theorem dWhole_test_94 : decode cWhole_test 94 = .ok (.iconst 0, 1) := by decide +kernel
theorem dWhole_test_95 : decode cWhole_test 95 = .ok (.ireturn, 1) := by decide +kernel
theorem dWhole_test_96 : decode cWhole_test 96 = .ok (.lload_n 2, 1) := by decide +kernel
theorem dWhole_test_97 : decode cWhole_test 97 = .ok (.lload 4, 2) := by decide +kernel
theorem dWhole_test_99 : decode cWhole_test 99 = .ok (.lcmp, 1) := by decide +kernel
theorem dWhole_test_100 : decode cWhole_test 100 = .ok (.ifCond .ne 7, 3) := by decide +kernel
theorem dWhole_test_103 : decode cWhole_test 103 = .ok (.iconst 1, 1) := by decide +kernel
theorem dWhole_test_104 : decode cWhole_test 104 = .ok (.goto 4, 3) := by decide +kernel
theorem dWhole_test_107 : decode cWhole_test 107 = .ok (.iconst 0, 1) := by decide +kernel
theorem dWhole_test_108 : decode cWhole_test 108 = .ok (.ireturn, 1) := by decide +kernel
theorem dWhole_test_109 : decode cWhole_test 109 = .ok (.lload_n 2, 1) := by decide +kernel
theorem dWhole_test_110 : decode cWhole_test 110 = .ok (.lload 4, 2) := by decide +kernel
theorem dWhole_test_112 : decode cWhole_test 112 = .ok (.lcmp, 1) := by decide +kernel
theorem dWhole_test_113 : decode cWhole_test 113 = .ok (.ifCond .eq 7, 3) := by decide +kernel
theorem dWhole_test_116 : decode cWhole_test 116 = .ok (.iconst 1, 1) := by decide +kernel
theorem dWhole_test_117 : decode cWhole_test 117 = .ok (.goto 4, 3) := by decide +kernel
theorem dWhole_test_120 : decode cWhole_test 120 = .ok (.iconst 0, 1) := by decide +kernel
theorem dWhole_test_121 : decode cWhole_test 121 = .ok (.ireturn, 1) := by decide +kernel
theorem dWhole_test_122 : decode cWhole_test 122 = .ok (.iload 6, 2) := by decide +kernel
theorem dWhole_test_124 : decode cWhole_test 124 = .ok (.ifCond .ge 7, 3) := by decide +kernel
theorem dWhole_test_127 : decode cWhole_test 127 = .ok (.iconst 1, 1) := by decide +kernel
theorem dWhole_test_128 : decode cWhole_test 128 = .ok (.goto 4, 3) := by decide +kernel
theorem dWhole_test_131 : decode cWhole_test 131 = .ok (.iconst 0, 1) := by decide +kernel
theorem dWhole_test_132 : decode cWhole_test 132 = .ok (.ireturn, 1) := by decide +kernel
theorem dWhole_test_133 : decode cWhole_test 133 = .ok (.iload 7, 2) := by decide +kernel
theorem dWhole_test_135 : decode cWhole_test 135 = .ok (.ifCond .ge 7, 3) := by decide +kernel
theorem dWhole_test_138 : decode cWhole_test 138 = .ok (.iconst 1, 1) := by decide +kernel
theorem dWhole_test_139 : decode cWhole_test 139 = .ok (.goto 4, 3) := by decide +kernel
theorem dWhole_test_142 : decode cWhole_test 142 = .ok (.iconst 0, 1) := by decide +kernel
theorem dWhole_test_143 : decode cWhole_test 143 = .ok (.ireturn, 1) := by decide +kernel
theorem dWhole_test_144 : decode cWhole_test 144 = .ok (.iload 6, 2) := by decide +kernel
theorem dWhole_test_146 : decode cWhole_test 146 = .ok (.ifCond .le 7, 3) := by decide +kernel
theorem dWhole_test_149 : decode cWhole_test 149 = .ok (.iconst 1, 1) := by decide +kernel
theorem dWhole_test_150 : decode cWhole_test 150 = .ok (.goto 4, 3) := by decide +kernel
theorem dWhole_test_153 : decode cWhole_test 153 = .ok (.iconst 0, 1) := by decide +kernel
theorem dWhole_test_154 : decode cWhole_test 154 = .ok (.ireturn, 1) := by decide +kernel
theorem dWhole_test_155 : decode cWhole_test 155 = .ok (.iload 7, 2) := by decide +kernel
theorem dWhole_test_157 : decode cWhole_test 157 = .ok (.ifCond .le 7, 3) := by decide +kernel
theorem dWhole_test_160 : decode cWhole_test 160 = .ok (.iconst 1, 1) := by decide +kernel
theorem dWhole_test_161 : decode cWhole_test 161 = .ok (.goto 4, 3) := by decide +kernel
theorem dWhole_test_164 : decode cWhole_test 164 = .ok (.iconst 0, 1) := by decide +kernel
theorem dWhole_test_165 : decode cWhole_test 165 = .ok (.ireturn, 1) := by decide +kernel
theorem dWhole_test_166 : decode cWhole_test 166 = .ok (.iload 6, 2) := by decide +kernel
theorem dWhole_test_168 : decode cWhole_test 168 = .ok (.ifCond .gt 7, 3) := by decide +kernel
theorem dWhole_test_171 : decode cWhole_test 171 = .ok (.iconst 1, 1) := by decide +kernel
theorem dWhole_test_172 : decode cWhole_test 172 = .ok (.goto 4, 3) := by decide +kernel
theorem dWhole_test_175 : decode cWhole_test 175 = .ok (.iconst 0, 1) := by decide +kernel
theorem dWhole_test_176 : decode cWhole_test 176 = .ok (.ireturn, 1) := by decide +kernel
theorem dWhole_test_177 : decode cWhole_test 177 = .ok (.iload 7, 2) := by decide +kernel
theorem dWhole_test_179 : decode cWhole_test 179 = .ok (.ifCond .gt 7, 3) := by decide +kernel
theorem dWhole_test_182 : decode cWhole_test 182 = .ok (.iconst 1, 1) := by decide +kernel
theorem dWhole_test_183 : decode cWhole_test 183 = .ok (.goto 4, 3) := by decide +kernel
theorem dWhole_test_186 : decode cWhole_test 186 = .ok (.iconst 0, 1) := by decide +kernel
theorem dWhole_test_187 : decode cWhole_test 187 = .ok (.ireturn, 1) := by decide +kernel
theorem dWhole_test_188 : decode cWhole_test 188 = .ok (.iload 6, 2) := by decide +kernel
theorem dWhole_test_190 : decode cWhole_test 190 = .ok (.ifCond .lt 7, 3) := by decide +kernel
theorem dWhole_test_193 : decode cWhole_test 193 = .ok (.iconst 1, 1) := by decide +kernel
theorem dWhole_test_194 : decode cWhole_test 194 = .ok (.goto 4, 3) := by decide +kernel
theorem dWhole_test_197 : decode cWhole_test 197 = .ok (.iconst 0, 1) := by decide +kernel
theorem dWhole_test_198 : decode cWhole_test 198 = .ok (.ireturn, 1) := by decide +kernel
theorem dWhole_test_199 : decode cWhole_test 199 = .ok (.iload 7, 2) := by decide +kernel
theorem dWhole_test_201 : decode cWhole_test 201 = .ok (.ifCond .lt 7, 3) := by decide +kernel
theorem dWhole_test_204 : decode cWhole_test 204 = .ok (.iconst 1, 1) := by decide +kernel
theorem dWhole_test_205 : decode cWhole_test 205 = .ok (.goto 4, 3) := by decide +kernel
theorem dWhole_test_208 : decode cWhole_test 208 = .ok (.iconst 0, 1) := by decide +kernel
theorem dWhole_test_209 : decode cWhole_test 209 = .ok (.ireturn, 1) := by decide +kernel
theorem dWhole_test_210 : decode cWhole_test 210 = .ok (.iconst 0, 1) := by decide +kernel
theorem dWhole_test_211 : decode cWhole_test 211 = .ok (.ireturn, 1) := by decide +kernel
theorem dWhole_quotientWithoutSign_0 : decode cWhole_quotientWithoutSign 0 = .ok (.lload_n 2, 1) := by decide +kernel
theorem dWhole_quotientWithoutSign_1 : decode cWhole_quotientWithoutSign 1 = .ok (.lconst 0, 1) := by decide +kernel
theorem dWhole_quotientWithoutSign_2 : decode cWhole_quotientWithoutSign 2 = .ok (.lcmp, 1) := by decide +kernel
theorem dWhole_quotientWithoutSign_3 : decode cWhole_quotientWithoutSign 3 = .ok (.ifCond .gt 17, 3) := by decide +kernel
theorem dWhole_quotientWithoutSign_6 : decode cWhole_quotientWithoutSign 6 = .ok (.lload_n 0, 1) := by decide +kernel
theorem dWhole_quotientWithoutSign_7 : decode cWhole_quotientWithoutSign 7 = .ok (.lload_n 2, 1) := by decide +kernel
theorem dWhole_quotientWithoutSign_8 : decode cWhole_quotientWithoutSign 8 = .ok (.invokestatic 35, 3) := by decide +kernel
theorem dWhole_quotientWithoutSign_11 : decode cWhole_quotientWithoutSign 11 = .ok (.ifCond .ge 7, 3) := by decide +kernel
theorem dWhole_quotientWithoutSign_14 : decode cWhole_quotientWithoutSign 14 = .ok (.lconst 0, 1) := by decide +kernel
theorem dWhole_quotientWithoutSign_15 : decode cWhole_quotientWithoutSign 15 = .ok (.goto 4, 3) := by decide +kernel
theorem dWhole_quotientWithoutSign_18 : decode cWhole_quotientWithoutSign 18 = .ok (.lconst 1, 1) := by decide +kernel
theorem dWhole_quotientWithoutSign_19 : decode cWhole_quotientWithoutSign 19 = .ok (.lreturn, 1) := by decide +kernel
theorem dWhole_quotientWithoutSign_20 : decode cWhole_quotientWithoutSign 20 = .ok (.lload_n 0, 1) := by decide +kernel
theorem dWhole_quotientWithoutSign_21 : decode cWhole_quotientWithoutSign 21 = .ok (.iconst 1, 1) := by decide +kernel
theorem dWhole_quotientWithoutSign_22 : decode cWhole_quotientWithoutSign 22 = .ok (.lushr, 1) := by decide +kernel
theorem dWhole_quotientWithoutSign_23 : decode cWhole_quotientWithoutSign 23 = .ok (.lload_n 2, 1) := by decide +kernel
theorem dWhole_quotientWithoutSign_24 : decode cWhole_quotientWithoutSign 24 = .ok (.ldiv, 1) := by decide +kernel
theorem dWhole_quotientWithoutSign_25 : decode cWhole_quotientWithoutSign 25 = .ok (.ldc2_w 60, 3) := by decide +kernel
theorem dWhole_quotientWithoutSign_28 : decode cWhole_quotientWithoutSign 28 = .ok (.lmul, 1) := by decide +kernel
theorem dWhole_quotientWithoutSign_29 : decode cWhole_quotientWithoutSign 29 = .ok (.lstore 4, 2) := by decide +kernel
theorem dWhole_quotientWithoutSign_31 : decode cWhole_quotientWithoutSign 31 = .ok (.lload_n 0, 1) := by decide +kernel
theorem dWhole_quotientWithoutSign_32 : decode cWhole_quotientWithoutSign 32 = .ok (.lload 4, 2) := by decide +kernel
theorem dWhole_quotientWithoutSign_34 : decode cWhole_quotientWithoutSign 34 = .ok (.lload_n 2, 1) := by decide +kernel
theorem dWhole_quotientWithoutSign_35 : decode cWhole_quotientWithoutSign 35 = .ok (.lmul, 1) := by decide +kernel
theorem dWhole_quotientWithoutSign_36 : decode cWhole_quotientWithoutSign 36 = .ok (.lsub, 1) := by decide +kernel
theorem dWhole_quotientWithoutSign_37 : decode cWhole_quotientWithoutSign 37 = .ok (.lload_n 2, 1) := by decide +kernel
theorem dWhole_quotientWithoutSign_38 : decode cWhole_quotientWithoutSign 38 = .ok (.invokestatic 35, 3) := by decide +kernel
theorem dWhole_quotientWithoutSign_41 : decode cWhole_quotientWithoutSign 41 = .ok (.ifCond .ge 8, 3) := by decide +kernel
theorem dWhole_quotientWithoutSign_44 : decode cWhole_quotientWithoutSign 44 = .ok (.lload 4, 2) := by decide +kernel
theorem dWhole_quotientWithoutSign_46 : decode cWhole_quotientWithoutSign 46 = .ok (.goto 7, 3) := by decide +kernel
theorem dWhole_quotientWithoutSign_49 : decode cWhole_quotientWithoutSign 49 = .ok (.lload 4, 2) := by decide +kernel
theorem dWhole_quotientWithoutSign_51 : decode cWhole_quotientWithoutSign 51 = .ok (.lconst 1, 1) := by decide +kernel
theorem dWhole_quotientWithoutSign_52 : decode cWhole_quotientWithoutSign 52 = .ok (.ladd, 1) := by decide +kernel
theorem dWhole_quotientWithoutSign_53 : decode cWhole_quotientWithoutSign 53 = .ok (.lreturn, 1) := by decide +kernel
theorem dWhole_divided_0 : decode cWhole_divided 0 = .ok (.iload_n 1, 1) := by decide +kernel
theorem dWhole_divided_1 : decode cWhole_divided 1 = .ok (.lload 4, 2) := by decide +kernel
theorem dWhole_divided_3 : decode cWhole_divided 3 = .ok (.invokestatic 31, 3) := by decide +kernel
theorem dWhole_divided_6 : decode cWhole_divided 6 = .ok (.lstore 6, 2) := by decide +kernel
theorem dWhole_divided_8 : decode cWhole_divided 8 = .ok (.lload 4, 2) := by decide +kernel
theorem dWhole_divided_10 : decode cWhole_divided 10 = .ok (.lconst 0, 1) := by decide +kernel
theorem dWhole_divided_11 : decode cWhole_divided 11 = .ok (.lcmp, 1) := by decide +kernel
theorem dWhole_divided_12 : decode cWhole_divided 12 = .ok (.ifCond .eq 10, 3) := by decide +kernel
theorem dWhole_divided_15 : decode cWhole_divided 15 = .ok (.lload 6, 2) := by decide +kernel
theorem dWhole_divided_17 : decode cWhole_divided 17 = .ok (.lconst 0, 1) := by decide +kernel
theorem dWhole_divided_18 : decode cWhole_divided 18 = .ok (.lcmp, 1) := by decide +kernel
theorem dWhole_divided_19 : decode cWhole_divided 19 = .ok (.ifCond .ne 5, 3) := by decide +kernel
theorem dWhole_divided_22 : decode cWhole_divided 22 = .ok (.lconst 0, 1) := by decide +kernel
theorem dWhole_divided_23 : decode cWhole_divided 23 = .ok (.lreturn, 1) := by decide +kernel
theorem dWhole_divided_24 : decode cWhole_divided 24 = .ok (.iload_n 0, 1) := by decide +kernel
theorem dWhole_divided_25 : decode cWhole_divided 25 = .ok (.tableswitch 52 6 8 #[27, 36, 43], 27) := by decide +kernel
theorem dWhole_divided_52 : decode cWhole_divided 52 = .ok (.iload_n 1, 1) := by decide +kernel
theorem dWhole_divided_53 : decode cWhole_divided 53 = .ok (.lload_n 2, 1) := by decide +kernel
theorem dWhole_divided_54 : decode cWhole_divided 54 = .ok (.invokestatic 31, 3) := by decide +kernel
theorem dWhole_divided_57 : decode cWhole_divided 57 = .ok (.lload 6, 2) := by decide +kernel
theorem dWhole_divided_59 : decode cWhole_divided 59 = .ok (.ldiv, 1) := by decide +kernel
theorem dWhole_divided_60 : decode cWhole_divided 60 = .ok (.lreturn, 1) := by decide +kernel
theorem dWhole_divided_61 : decode cWhole_divided 61 = .ok (.lload_n 2, 1) := by decide +kernel
theorem dWhole_divided_62 : decode cWhole_divided 62 = .ok (.lload 4, 2) := by decide +kernel
theorem dWhole_divided_64 : decode cWhole_divided 64 = .ok (.invokestatic 56, 3) := by decide +kernel
theorem dWhole_divided_67 : decode cWhole_divided 67 = .ok (.lreturn, 1) := by decide +kernel
theorem dWhole_divided_68 : decode cWhole_divided 68 = .ok (.iload_n 1, 1) := by decide +kernel
theorem dWhole_divided_69 : decode cWhole_divided 69 = .ok (.lload_n 2, 1) := by decide +kernel
theorem dWhole_divided_70 : decode cWhole_divided 70 = .ok (.invokestatic 31, 3) := by decide +kernel
theorem dWhole_divided_73 : decode cWhole_divided 73 = .ok (.lload 6, 2) := by decide +kernel
theorem dWhole_divided_75 : decode cWhole_divided 75 = .ok (.lrem, 1) := by decide +kernel
theorem dWhole_divided_76 : decode cWhole_divided 76 = .ok (.lreturn, 1) := by decide +kernel
theorem dWhole_divided_77 : decode cWhole_divided 77 = .ok (.lload_n 2, 1) := by decide +kernel
theorem dWhole_divided_78 : decode cWhole_divided 78 = .ok (.lload 4, 2) := by decide +kernel
theorem dWhole_divided_80 : decode cWhole_divided 80 = .ok (.lload_n 2, 1) := by decide +kernel
theorem dWhole_divided_81 : decode cWhole_divided 81 = .ok (.lload 4, 2) := by decide +kernel
theorem dWhole_divided_83 : decode cWhole_divided 83 = .ok (.invokestatic 56, 3) := by decide +kernel
theorem dWhole_divided_86 : decode cWhole_divided 86 = .ok (.lmul, 1) := by decide +kernel
theorem dWhole_divided_87 : decode cWhole_divided 87 = .ok (.lsub, 1) := by decide +kernel
theorem dWhole_divided_88 : decode cWhole_divided 88 = .ok (.lreturn, 1) := by decide +kernel
theorem dWhole_shifted_0 : decode cWhole_shifted 0 = .ok (.iload_n 0, 1) := by decide +kernel
theorem dWhole_shifted_1 : decode cWhole_shifted 1 = .ok (.tableswitch 84 13 17 #[35, 40, 49, 54, 69], 35) := by decide +kernel
theorem dWhole_shifted_36 : decode cWhole_shifted 36 = .ok (.lload_n 2, 1) := by decide +kernel
theorem dWhole_shifted_37 : decode cWhole_shifted 37 = .ok (.iload 4, 2) := by decide +kernel
theorem dWhole_shifted_39 : decode cWhole_shifted 39 = .ok (.lshl, 1) := by decide +kernel
theorem dWhole_shifted_40 : decode cWhole_shifted 40 = .ok (.lreturn, 1) := by decide +kernel
theorem dWhole_shifted_41 : decode cWhole_shifted 41 = .ok (.iload_n 1, 1) := by decide +kernel
theorem dWhole_shifted_42 : decode cWhole_shifted 42 = .ok (.lload_n 2, 1) := by decide +kernel
theorem dWhole_shifted_43 : decode cWhole_shifted 43 = .ok (.invokestatic 31, 3) := by decide +kernel
theorem dWhole_shifted_46 : decode cWhole_shifted 46 = .ok (.iload 4, 2) := by decide +kernel
theorem dWhole_shifted_48 : decode cWhole_shifted 48 = .ok (.lshr, 1) := by decide +kernel
theorem dWhole_shifted_49 : decode cWhole_shifted 49 = .ok (.lreturn, 1) := by decide +kernel
theorem dWhole_shifted_50 : decode cWhole_shifted 50 = .ok (.lload_n 2, 1) := by decide +kernel
theorem dWhole_shifted_51 : decode cWhole_shifted 51 = .ok (.iload 4, 2) := by decide +kernel
theorem dWhole_shifted_53 : decode cWhole_shifted 53 = .ok (.lushr, 1) := by decide +kernel
theorem dWhole_shifted_54 : decode cWhole_shifted 54 = .ok (.lreturn, 1) := by decide +kernel
theorem dWhole_shifted_55 : decode cWhole_shifted 55 = .ok (.lload_n 2, 1) := by decide +kernel
theorem dWhole_shifted_56 : decode cWhole_shifted 56 = .ok (.iload 4, 2) := by decide +kernel
theorem dWhole_shifted_58 : decode cWhole_shifted 58 = .ok (.lshl, 1) := by decide +kernel
theorem dWhole_shifted_59 : decode cWhole_shifted 59 = .ok (.lload_n 2, 1) := by decide +kernel
theorem dWhole_shifted_60 : decode cWhole_shifted 60 = .ok (.iload_n 1, 1) := by decide +kernel
theorem dWhole_shifted_61 : decode cWhole_shifted 61 = .ok (.invokestatic 13, 3) := by decide +kernel
theorem dWhole_shifted_64 : decode cWhole_shifted 64 = .ok (.iload 4, 2) := by decide +kernel
theorem dWhole_shifted_66 : decode cWhole_shifted 66 = .ok (.isub, 1) := by decide +kernel
theorem dWhole_shifted_67 : decode cWhole_shifted 67 = .ok (.lushr, 1) := by decide +kernel
theorem dWhole_shifted_68 : decode cWhole_shifted 68 = .ok (.lor, 1) := by decide +kernel
theorem dWhole_shifted_69 : decode cWhole_shifted 69 = .ok (.lreturn, 1) := by decide +kernel
theorem dWhole_shifted_70 : decode cWhole_shifted 70 = .ok (.lload_n 2, 1) := by decide +kernel
theorem dWhole_shifted_71 : decode cWhole_shifted 71 = .ok (.iload 4, 2) := by decide +kernel
theorem dWhole_shifted_73 : decode cWhole_shifted 73 = .ok (.lushr, 1) := by decide +kernel
theorem dWhole_shifted_74 : decode cWhole_shifted 74 = .ok (.lload_n 2, 1) := by decide +kernel
theorem dWhole_shifted_75 : decode cWhole_shifted 75 = .ok (.iload_n 1, 1) := by decide +kernel
theorem dWhole_shifted_76 : decode cWhole_shifted 76 = .ok (.invokestatic 13, 3) := by decide +kernel
theorem dWhole_shifted_79 : decode cWhole_shifted 79 = .ok (.iload 4, 2) := by decide +kernel
theorem dWhole_shifted_81 : decode cWhole_shifted 81 = .ok (.isub, 1) := by decide +kernel
theorem dWhole_shifted_82 : decode cWhole_shifted 82 = .ok (.lshl, 1) := by decide +kernel
theorem dWhole_shifted_83 : decode cWhole_shifted 83 = .ok (.lor, 1) := by decide +kernel
theorem dWhole_shifted_84 : decode cWhole_shifted 84 = .ok (.lreturn, 1) := by decide +kernel
theorem dWhole_shifted_85 : decode cWhole_shifted 85 = .ok (.lload_n 2, 1) := by decide +kernel
theorem dWhole_shifted_86 : decode cWhole_shifted 86 = .ok (.lreturn, 1) := by decide +kernel
theorem dWhole_result_0 : decode cWhole_result 0 = .ok (.iload_n 0, 1) := by decide +kernel
theorem dWhole_result_1 : decode cWhole_result 1 = .ok (.tableswitch 148 0 12 #[67, 78, 103, 109, 114, 119, 124, 124, 124, 124, 133, 138, 143], 67) := by decide +kernel
theorem dWhole_result_68 : decode cWhole_result 68 = .ok (.iload_n 1, 1) := by decide +kernel
theorem dWhole_result_69 : decode cWhole_result 69 = .ok (.invokestatic 13, 3) := by decide +kernel
theorem dWhole_result_72 : decode cWhole_result 72 = .ok (.lload_n 2, 1) := by decide +kernel
theorem dWhole_result_73 : decode cWhole_result 73 = .ok (.invokestatic 45, 3) := by decide +kernel
theorem dWhole_result_76 : decode cWhole_result 76 = .ok (.isub, 1) := by decide +kernel
theorem dWhole_result_77 : decode cWhole_result 77 = .ok (.i2l, 1) := by decide +kernel
theorem dWhole_result_78 : decode cWhole_result 78 = .ok (.lreturn, 1) := by decide +kernel
theorem dWhole_result_79 : decode cWhole_result 79 = .ok (.lload_n 2, 1) := by decide +kernel
theorem dWhole_result_80 : decode cWhole_result 80 = .ok (.lconst 0, 1) := by decide +kernel
theorem dWhole_result_81 : decode cWhole_result 81 = .ok (.lcmp, 1) := by decide +kernel
theorem dWhole_result_82 : decode cWhole_result 82 = .ok (.ifCond .ne 11, 3) := by decide +kernel
theorem dWhole_result_85 : decode cWhole_result 85 = .ok (.iload_n 1, 1) := by decide +kernel
theorem dWhole_result_86 : decode cWhole_result 86 = .ok (.invokestatic 13, 3) := by decide +kernel
theorem dWhole_result_89 : decode cWhole_result 89 = .ok (.i2l, 1) := by decide +kernel
theorem dWhole_result_90 : decode cWhole_result 90 = .ok (.goto 13, 3) := by decide +kernel
theorem dWhole_result_93 : decode cWhole_result 93 = .ok (.lload_n 2, 1) := by decide +kernel
theorem dWhole_result_94 : decode cWhole_result 94 = .ok (.lload_n 2, 1) := by decide +kernel
theorem dWhole_result_95 : decode cWhole_result 95 = .ok (.lneg, 1) := by decide +kernel
theorem dWhole_result_96 : decode cWhole_result 96 = .ok (.land, 1) := by decide +kernel
theorem dWhole_result_97 : decode cWhole_result 97 = .ok (.lconst 1, 1) := by decide +kernel
theorem dWhole_result_98 : decode cWhole_result 98 = .ok (.lsub, 1) := by decide +kernel
theorem dWhole_result_99 : decode cWhole_result 99 = .ok (.invokestatic 27, 3) := by decide +kernel
theorem dWhole_result_102 : decode cWhole_result 102 = .ok (.i2l, 1) := by decide +kernel
theorem dWhole_result_103 : decode cWhole_result 103 = .ok (.lreturn, 1) := by decide +kernel
theorem dWhole_result_104 : decode cWhole_result 104 = .ok (.lload_n 2, 1) := by decide +kernel
theorem dWhole_result_105 : decode cWhole_result 105 = .ok (.invokestatic 27, 3) := by decide +kernel
theorem dWhole_result_108 : decode cWhole_result 108 = .ok (.i2l, 1) := by decide +kernel
theorem dWhole_result_109 : decode cWhole_result 109 = .ok (.lreturn, 1) := by decide +kernel
theorem dWhole_result_110 : decode cWhole_result 110 = .ok (.lload_n 2, 1) := by decide +kernel
theorem dWhole_result_111 : decode cWhole_result 111 = .ok (.lload 4, 2) := by decide +kernel
theorem dWhole_result_113 : decode cWhole_result 113 = .ok (.ladd, 1) := by decide +kernel
theorem dWhole_result_114 : decode cWhole_result 114 = .ok (.lreturn, 1) := by decide +kernel
theorem dWhole_result_115 : decode cWhole_result 115 = .ok (.lload_n 2, 1) := by decide +kernel
theorem dWhole_result_116 : decode cWhole_result 116 = .ok (.lload 4, 2) := by decide +kernel
theorem dWhole_result_118 : decode cWhole_result 118 = .ok (.lsub, 1) := by decide +kernel
theorem dWhole_result_119 : decode cWhole_result 119 = .ok (.lreturn, 1) := by decide +kernel
theorem dWhole_result_120 : decode cWhole_result 120 = .ok (.lload_n 2, 1) := by decide +kernel
theorem dWhole_result_121 : decode cWhole_result 121 = .ok (.lload 4, 2) := by decide +kernel
theorem dWhole_result_123 : decode cWhole_result 123 = .ok (.lmul, 1) := by decide +kernel
theorem dWhole_result_124 : decode cWhole_result 124 = .ok (.lreturn, 1) := by decide +kernel
theorem dWhole_result_125 : decode cWhole_result 125 = .ok (.iload_n 0, 1) := by decide +kernel
theorem dWhole_result_126 : decode cWhole_result 126 = .ok (.iload_n 1, 1) := by decide +kernel
theorem dWhole_result_127 : decode cWhole_result 127 = .ok (.lload_n 2, 1) := by decide +kernel
theorem dWhole_result_128 : decode cWhole_result 128 = .ok (.lload 4, 2) := by decide +kernel
theorem dWhole_result_130 : decode cWhole_result 130 = .ok (.invokestatic 48, 3) := by decide +kernel
theorem dWhole_result_133 : decode cWhole_result 133 = .ok (.lreturn, 1) := by decide +kernel
theorem dWhole_result_134 : decode cWhole_result 134 = .ok (.lload_n 2, 1) := by decide +kernel
theorem dWhole_result_135 : decode cWhole_result 135 = .ok (.lload 4, 2) := by decide +kernel
theorem dWhole_result_137 : decode cWhole_result 137 = .ok (.land, 1) := by decide +kernel
theorem dWhole_result_138 : decode cWhole_result 138 = .ok (.lreturn, 1) := by decide +kernel
theorem dWhole_result_139 : decode cWhole_result 139 = .ok (.lload_n 2, 1) := by decide +kernel
theorem dWhole_result_140 : decode cWhole_result 140 = .ok (.lload 4, 2) := by decide +kernel
theorem dWhole_result_142 : decode cWhole_result 142 = .ok (.lor, 1) := by decide +kernel
theorem dWhole_result_143 : decode cWhole_result 143 = .ok (.lreturn, 1) := by decide +kernel
theorem dWhole_result_144 : decode cWhole_result 144 = .ok (.lload_n 2, 1) := by decide +kernel
theorem dWhole_result_145 : decode cWhole_result 145 = .ok (.lload 4, 2) := by decide +kernel
theorem dWhole_result_147 : decode cWhole_result 147 = .ok (.lxor, 1) := by decide +kernel
theorem dWhole_result_148 : decode cWhole_result 148 = .ok (.lreturn, 1) := by decide +kernel
theorem dWhole_result_149 : decode cWhole_result 149 = .ok (.iload_n 0, 1) := by decide +kernel
theorem dWhole_result_150 : decode cWhole_result 150 = .ok (.iload_n 1, 1) := by decide +kernel
theorem dWhole_result_151 : decode cWhole_result 151 = .ok (.lload_n 2, 1) := by decide +kernel
theorem dWhole_result_152 : decode cWhole_result 152 = .ok (.lload 4, 2) := by decide +kernel
theorem dWhole_result_154 : decode cWhole_result 154 = .ok (.l2i, 1) := by decide +kernel
theorem dWhole_result_155 : decode cWhole_result 155 = .ok (.iload_n 1, 1) := by decide +kernel
theorem dWhole_result_156 : decode cWhole_result 156 = .ok (.invokestatic 13, 3) := by decide +kernel
theorem dWhole_result_159 : decode cWhole_result 159 = .ok (.iconst 1, 1) := by decide +kernel
theorem dWhole_result_160 : decode cWhole_result 160 = .ok (.isub, 1) := by decide +kernel
theorem dWhole_result_161 : decode cWhole_result 161 = .ok (.iand, 1) := by decide +kernel
theorem dWhole_result_162 : decode cWhole_result 162 = .ok (.invokestatic 52, 3) := by decide +kernel
theorem dWhole_result_165 : decode cWhole_result 165 = .ok (.lreturn, 1) := by decide +kernel
theorem dOperators_result_0 : decode cOperators_result 0 = .ok (.iload_n 0, 1) := by decide +kernel
theorem dOperators_result_1 : decode cOperators_result 1 = .ok (.invokestatic 15, 3) := by decide +kernel
theorem dOperators_result_4 : decode cOperators_result 4 = .ok (.istore 5, 2) := by decide +kernel
theorem dOperators_result_6 : decode cOperators_result 6 = .ok (.iload_n 0, 1) := by decide +kernel
theorem dOperators_result_7 : decode cOperators_result 7 = .ok (.getstatic 9, 3) := by decide +kernel
theorem dOperators_result_10 : decode cOperators_result 10 = .ok (.iload 5, 2) := by decide +kernel
theorem dOperators_result_12 : decode cOperators_result 12 = .ok (.iaload, 1) := by decide +kernel
theorem dOperators_result_13 : decode cOperators_result 13 = .ok (.isub, 1) := by decide +kernel
theorem dOperators_result_14 : decode cOperators_result 14 = .ok (.istore 6, 2) := by decide +kernel
theorem dOperators_result_16 : decode cOperators_result 16 = .ok (.iload_n 0, 1) := by decide +kernel
theorem dOperators_result_17 : decode cOperators_result 17 = .ok (.invokestatic 32, 3) := by decide +kernel
theorem dOperators_result_20 : decode cOperators_result 20 = .ok (.istore 7, 2) := by decide +kernel
theorem dOperators_result_22 : decode cOperators_result 22 = .ok (.iload 5, 2) := by decide +kernel
theorem dOperators_result_24 : decode cOperators_result 24 = .ok (.tableswitch 110 0 7 #[48, 48, 66, 66, 87, 87, 97, 97], 48) := by decide +kernel
theorem dOperators_result_72 : decode cOperators_result 72 = .ok (.iload 6, 2) := by decide +kernel
theorem dOperators_result_74 : decode cOperators_result 74 = .ok (.iload 7, 2) := by decide +kernel
theorem dOperators_result_76 : decode cOperators_result 76 = .ok (.lload_n 1, 1) := by decide +kernel
theorem dOperators_result_77 : decode cOperators_result 77 = .ok (.lload_n 3, 1) := by decide +kernel
theorem dOperators_result_78 : decode cOperators_result 78 = .ok (.invokestatic 59, 3) := by decide +kernel
theorem dOperators_result_81 : decode cOperators_result 81 = .ok (.ifCond .eq 7, 3) := by decide +kernel
theorem dOperators_result_84 : decode cOperators_result 84 = .ok (.lconst 1, 1) := by decide +kernel
theorem dOperators_result_85 : decode cOperators_result 85 = .ok (.goto 4, 3) := by decide +kernel
theorem dOperators_result_88 : decode cOperators_result 88 = .ok (.lconst 0, 1) := by decide +kernel
theorem dOperators_result_89 : decode cOperators_result 89 = .ok (.lreturn, 1) := by decide +kernel
theorem dOperators_result_90 : decode cOperators_result 90 = .ok (.iload 6, 2) := by decide +kernel
theorem dOperators_result_92 : decode cOperators_result 92 = .ok (.iload 7, 2) := by decide +kernel
theorem dOperators_result_94 : decode cOperators_result 94 = .ok (.invokestatic 47, 3) := by decide +kernel
theorem dOperators_result_97 : decode cOperators_result 97 = .ok (.lload_n 1, 1) := by decide +kernel
theorem dOperators_result_98 : decode cOperators_result 98 = .ok (.lload_n 3, 1) := by decide +kernel
theorem dOperators_result_99 : decode cOperators_result 99 = .ok (.invokestatic 63, 3) := by decide +kernel
theorem dOperators_result_102 : decode cOperators_result 102 = .ok (.ifCond .eq 7, 3) := by decide +kernel
theorem dOperators_result_105 : decode cOperators_result 105 = .ok (.lconst 1, 1) := by decide +kernel
theorem dOperators_result_106 : decode cOperators_result 106 = .ok (.goto 4, 3) := by decide +kernel
theorem dOperators_result_109 : decode cOperators_result 109 = .ok (.lconst 0, 1) := by decide +kernel
theorem dOperators_result_110 : decode cOperators_result 110 = .ok (.lreturn, 1) := by decide +kernel
theorem dOperators_result_111 : decode cOperators_result 111 = .ok (.iload 6, 2) := by decide +kernel
theorem dOperators_result_113 : decode cOperators_result 113 = .ok (.iload 7, 2) := by decide +kernel
theorem dOperators_result_115 : decode cOperators_result 115 = .ok (.lload_n 1, 1) := by decide +kernel
theorem dOperators_result_116 : decode cOperators_result 116 = .ok (.lload_n 3, 1) := by decide +kernel
theorem dOperators_result_117 : decode cOperators_result 117 = .ok (.invokestatic 68, 3) := by decide +kernel
theorem dOperators_result_120 : decode cOperators_result 120 = .ok (.lreturn, 1) := by decide +kernel
theorem dOperators_result_121 : decode cOperators_result 121 = .ok (.iload 6, 2) := by decide +kernel
theorem dOperators_result_123 : decode cOperators_result 123 = .ok (.iload 7, 2) := by decide +kernel
theorem dOperators_result_125 : decode cOperators_result 125 = .ok (.invokestatic 47, 3) := by decide +kernel
theorem dOperators_result_128 : decode cOperators_result 128 = .ok (.lload_n 1, 1) := by decide +kernel
theorem dOperators_result_129 : decode cOperators_result 129 = .ok (.lload_n 3, 1) := by decide +kernel
theorem dOperators_result_130 : decode cOperators_result 130 = .ok (.invokestatic 72, 3) := by decide +kernel
theorem dOperators_result_133 : decode cOperators_result 133 = .ok (.lreturn, 1) := by decide +kernel
theorem dOperators_result_134 : decode cOperators_result 134 = .ok (.iload_n 0, 1) := by decide +kernel
theorem dOperators_result_135 : decode cOperators_result 135 = .ok (.iload 7, 2) := by decide +kernel
theorem dOperators_result_137 : decode cOperators_result 137 = .ok (.iload_n 0, 1) := by decide +kernel
theorem dOperators_result_138 : decode cOperators_result 138 = .ok (.invokestatic 53, 3) := by decide +kernel
theorem dOperators_result_141 : decode cOperators_result 141 = .ok (.lload_n 1, 1) := by decide +kernel
theorem dOperators_result_142 : decode cOperators_result 142 = .ok (.invokestatic 75, 3) := by decide +kernel
theorem dOperators_result_145 : decode cOperators_result 145 = .ok (.lreturn, 1) := by decide +kernel
