theorem dXB_scaledSum_35 : decode cXB_scaledSum 35 = .ok (.iload 5, 2) := by decide +kernel
theorem dXB_scaledSum_37 : decode cXB_scaledSum 37 = .ok (.iaload, 1) := by decide +kernel
theorem dXB_scaledSum_38 : decode cXB_scaledSum 38 = .ok (.i2l, 1) := by decide +kernel
theorem dXB_scaledSum_39 : decode cXB_scaledSum 39 = .ok (.ldc2_w 78, 3) := by decide +kernel
theorem dXB_scaledSum_42 : decode cXB_scaledSum 42 = .ok (.iload 6, 2) := by decide +kernel
theorem dXB_scaledSum_44 : decode cXB_scaledSum 44 = .ok (.i2l, 1) := by decide +kernel
theorem dXB_scaledSum_45 : decode cXB_scaledSum 45 = .ok (.ldiv, 1) := by decide +kernel
theorem dXB_scaledSum_46 : decode cXB_scaledSum 46 = .ok (.lmul, 1) := by decide +kernel
theorem dXB_scaledSum_47 : decode cXB_scaledSum 47 = .ok (.ladd, 1) := by decide +kernel
theorem dXB_scaledSum_48 : decode cXB_scaledSum 48 = .ok (.lstore_n 3, 1) := by decide +kernel
theorem dXB_scaledSum_49 : decode cXB_scaledSum 49 = .ok (.iinc 5 1, 3) := by decide +kernel
theorem dXB_scaledSum_52 : decode cXB_scaledSum 52 = .ok (.goto (-47), 3) := by decide +kernel
theorem dXB_scaledSum_55 : decode cXB_scaledSum 55 = .ok (.lload_n 3, 1) := by decide +kernel
theorem dXB_scaledSum_56 : decode cXB_scaledSum 56 = .ok (.lreturn, 1) := by decide +kernel
theorem dXG_inLowestTerms_0 : decode cXG_inLowestTerms 0 = .ok (.lload_n 0, 1) := by decide +kernel
theorem dXG_inLowestTerms_1 : decode cXG_inLowestTerms 1 = .ok (.ldc2_w 180, 3) := by decide +kernel
theorem dXG_inLowestTerms_4 : decode cXG_inLowestTerms 4 = .ok (.invokestatic 182, 3) := by decide +kernel
theorem dXG_inLowestTerms_7 : decode cXG_inLowestTerms 7 = .ok (.lstore_n 3, 1) := by decide +kernel
theorem dXG_inLowestTerms_8 : decode cXG_inLowestTerms 8 = .ok (.lload_n 3, 1) := by decide +kernel
theorem dXG_inLowestTerms_9 : decode cXG_inLowestTerms 9 = .ok (.lconst 1, 1) := by decide +kernel
theorem dXG_inLowestTerms_10 : decode cXG_inLowestTerms 10 = .ok (.lcmp, 1) := by decide +kernel
theorem dXG_inLowestTerms_11 : decode cXG_inLowestTerms 11 = .ok (.ifCond .ge 5, 3) := by decide +kernel
theorem dXG_inLowestTerms_14 : decode cXG_inLowestTerms 14 = .ok (.lconst 0, 1) := by decide +kernel
theorem dXG_inLowestTerms_15 : decode cXG_inLowestTerms 15 = .ok (.lreturn, 1) := by decide +kernel
theorem dXG_inLowestTerms_16 : decode cXG_inLowestTerms 16 = .ok (.iload_n 2, 1) := by decide +kernel
theorem dXG_inLowestTerms_17 : decode cXG_inLowestTerms 17 = .ok (.ifCond .ne 7, 3) := by decide +kernel
theorem dXG_inLowestTerms_20 : decode cXG_inLowestTerms 20 = .ok (.lload_n 0, 1) := by decide +kernel
theorem dXG_inLowestTerms_21 : decode cXG_inLowestTerms 21 = .ok (.goto 6, 3) := by decide +kernel
theorem dXG_inLowestTerms_24 : decode cXG_inLowestTerms 24 = .ok (.ldc2_w 180, 3) := by decide +kernel
theorem dXG_inLowestTerms_27 : decode cXG_inLowestTerms 27 = .ok (.lload_n 3, 1) := by decide +kernel
theorem dXG_inLowestTerms_28 : decode cXG_inLowestTerms 28 = .ok (.ldiv, 1) := by decide +kernel
theorem dXG_inLowestTerms_29 : decode cXG_inLowestTerms 29 = .ok (.lreturn, 1) := by decide +kernel
theorem dXG_greatestDivisor_0 : decode cXG_greatestDivisor 0 = .ok (.lload_n 0, 1) := by decide +kernel
theorem dXG_greatestDivisor_1 : decode cXG_greatestDivisor 1 = .ok (.lstore 4, 2) := by decide +kernel
theorem dXG_greatestDivisor_3 : decode cXG_greatestDivisor 3 = .ok (.lload_n 2, 1) := by decide +kernel
theorem dXG_greatestDivisor_4 : decode cXG_greatestDivisor 4 = .ok (.lstore 6, 2) := by decide +kernel
theorem dXG_greatestDivisor_6 : decode cXG_greatestDivisor 6 = .ok (.iconst 0, 1) := by decide +kernel
theorem dXG_greatestDivisor_7 : decode cXG_greatestDivisor 7 = .ok (.istore 8, 2) := by decide +kernel
theorem dXG_greatestDivisor_9 : decode cXG_greatestDivisor 9 = .ok (.iload 8, 2) := by decide +kernel
theorem dXG_greatestDivisor_11 : decode cXG_greatestDivisor 11 = .ok (.bipush 100, 2) := by decide +kernel
theorem dXG_greatestDivisor_13 : decode cXG_greatestDivisor 13 = .ok (.if_icmp .ge 31, 3) := by decide +kernel
theorem dXG_greatestDivisor_16 : decode cXG_greatestDivisor 16 = .ok (.lload 6, 2) := by decide +kernel
theorem dXG_greatestDivisor_18 : decode cXG_greatestDivisor 18 = .ok (.lconst 0, 1) := by decide +kernel
theorem dXG_greatestDivisor_19 : decode cXG_greatestDivisor 19 = .ok (.lcmp, 1) := by decide +kernel
theorem dXG_greatestDivisor_20 : decode cXG_greatestDivisor 20 = .ok (.ifCond .eq 24, 3) := by decide +kernel
theorem dXG_greatestDivisor_23 : decode cXG_greatestDivisor 23 = .ok (.lload 4, 2) := by decide +kernel
theorem dXG_greatestDivisor_25 : decode cXG_greatestDivisor 25 = .ok (.lload 6, 2) := by decide +kernel
theorem dXG_greatestDivisor_27 : decode cXG_greatestDivisor 27 = .ok (.lrem, 1) := by decide +kernel
theorem dXG_greatestDivisor_28 : decode cXG_greatestDivisor 28 = .ok (.lstore 9, 2) := by decide +kernel
theorem dXG_greatestDivisor_30 : decode cXG_greatestDivisor 30 = .ok (.lload 6, 2) := by decide +kernel
theorem dXG_greatestDivisor_32 : decode cXG_greatestDivisor 32 = .ok (.lstore 4, 2) := by decide +kernel
theorem dXG_greatestDivisor_34 : decode cXG_greatestDivisor 34 = .ok (.lload 9, 2) := by decide +kernel
theorem dXG_greatestDivisor_36 : decode cXG_greatestDivisor 36 = .ok (.lstore 6, 2) := by decide +kernel
theorem dXG_greatestDivisor_38 : decode cXG_greatestDivisor 38 = .ok (.iinc 8 1, 3) := by decide +kernel
theorem dXG_greatestDivisor_41 : decode cXG_greatestDivisor 41 = .ok (.goto (-32), 3) := by decide +kernel
theorem dXG_greatestDivisor_44 : decode cXG_greatestDivisor 44 = .ok (.lload 4, 2) := by decide +kernel
theorem dXG_greatestDivisor_46 : decode cXG_greatestDivisor 46 = .ok (.lreturn, 1) := by decide +kernel
theorem dXL_share_0 : decode cXL_share 0 = .ok (.aload_n 0, 1) := by decide +kernel
theorem dXL_share_1 : decode cXL_share 1 = .ok (.iload_n 1, 1) := by decide +kernel
theorem dXL_share_2 : decode cXL_share 2 = .ok (.iload_n 2, 1) := by decide +kernel
theorem dXL_share_3 : decode cXL_share 3 = .ok (.invokevirtual 33, 3) := by decide +kernel
theorem dXL_share_6 : decode cXL_share 6 = .ok (.goto 9, 3) := by decide +kernel
theorem dXL_share_9 : decode cXL_share 9 = .ok (.astore_n 3, 1) := by decide +kernel
theorem dXL_share_10 : decode cXL_share 10 = .ok (.iconst 1, 1) := by decide +kernel
theorem dXL_share_11 : decode cXL_share 11 = .ok (.ireturn, 1) := by decide +kernel
theorem dXL_share_12 : decode cXL_share 12 = .ok (.astore_n 3, 1) := by decide +kernel
theorem dXL_share_13 : decode cXL_share 13 = .ok (.iconst 2, 1) := by decide +kernel
theorem dXL_share_14 : decode cXL_share 14 = .ok (.ireturn, 1) := by decide +kernel
theorem dXL_share_15 : decode cXL_share 15 = .ok (.iconst 0, 1) := by decide +kernel
theorem dXL_share_16 : decode cXL_share 16 = .ok (.ireturn, 1) := by decide +kernel
theorem dXG_share_0 : decode cXG_share 0 = .ok (.iload_n 1, 1) := by decide +kernel
theorem dXG_share_1 : decode cXG_share 1 = .ok (.bipush 8, 2) := by decide +kernel
theorem dXG_share_3 : decode cXG_share 3 = .ok (.invokestatic 93, 3) := by decide +kernel
theorem dXG_share_6 : decode cXG_share 6 = .ok (.iload_n 2, 1) := by decide +kernel
theorem dXG_share_7 : decode cXG_share 7 = .ok (.ifCond .lt 9, 3) := by decide +kernel
theorem dXG_share_10 : decode cXG_share 10 = .ok (.iload_n 2, 1) := by decide +kernel
theorem dXG_share_11 : decode cXG_share 11 = .ok (.ldc 120, 2) := by decide +kernel
theorem dXG_share_13 : decode cXG_share 13 = .ok (.if_icmp .le 13, 3) := by decide +kernel
theorem dXG_share_16 : decode cXG_share 16 = .ok (.new 49, 3) := by decide +kernel
theorem dXG_share_19 : decode cXG_share 19 = .ok (.dup, 1) := by decide +kernel
theorem dXG_share_20 : decode cXG_share 20 = .ok (.ldc 121, 2) := by decide +kernel
theorem dXG_share_22 : decode cXG_share 22 = .ok (.invokespecial 53, 3) := by decide +kernel
theorem dXG_share_25 : decode cXG_share 25 = .ok (.athrow, 1) := by decide +kernel
theorem dXG_share_26 : decode cXG_share 26 = .ok (.aload_n 0, 1) := by decide +kernel
theorem dXG_share_27 : decode cXG_share 27 = .ok (.getfield 32, 3) := by decide +kernel
theorem dXG_share_30 : decode cXG_share 30 = .ok (.iload_n 1, 1) := by decide +kernel
theorem dXG_share_31 : decode cXG_share 31 = .ok (.iload_n 2, 1) := by decide +kernel
theorem dXG_share_32 : decode cXG_share 32 = .ok (.iastore, 1) := by decide +kernel
theorem dXG_share_33 : decode cXG_share 33 = .ok (.return_, 1) := by decide +kernel
theorem dXL_value_0 : decode cXL_value 0 = .ok (.aload_n 3, 1) := by decide +kernel
theorem dXL_value_1 : decode cXL_value 1 = .ok (.iconst 0, 1) := by decide +kernel
theorem dXL_value_2 : decode cXL_value 2 = .ok (.aload_n 0, 1) := by decide +kernel
theorem dXL_value_3 : decode cXL_value 3 = .ok (.iload_n 1, 1) := by decide +kernel
theorem dXL_value_4 : decode cXL_value 4 = .ok (.iload_n 2, 1) := by decide +kernel
theorem dXL_value_5 : decode cXL_value 5 = .ok (.invokevirtual 37, 3) := by decide +kernel
theorem dXL_value_8 : decode cXL_value 8 = .ok (.lastore, 1) := by decide +kernel
theorem dXL_value_9 : decode cXL_value 9 = .ok (.goto 11, 3) := by decide +kernel
theorem dXL_value_12 : decode cXL_value 12 = .ok (.astore 4, 2) := by decide +kernel
theorem dXL_value_14 : decode cXL_value 14 = .ok (.iconst 1, 1) := by decide +kernel
theorem dXL_value_15 : decode cXL_value 15 = .ok (.ireturn, 1) := by decide +kernel
theorem dXL_value_16 : decode cXL_value 16 = .ok (.astore 4, 2) := by decide +kernel
theorem dXL_value_18 : decode cXL_value 18 = .ok (.iconst 2, 1) := by decide +kernel
theorem dXL_value_19 : decode cXL_value 19 = .ok (.ireturn, 1) := by decide +kernel
theorem dXL_value_20 : decode cXL_value 20 = .ok (.iconst 0, 1) := by decide +kernel
theorem dXL_value_21 : decode cXL_value 21 = .ok (.ireturn, 1) := by decide +kernel
theorem dXG_value_0 : decode cXG_value 0 = .ok (.iload_n 1, 1) := by decide +kernel
theorem dXG_value_1 : decode cXG_value 1 = .ok (.iconst 4, 1) := by decide +kernel
theorem dXG_value_2 : decode cXG_value 2 = .ok (.invokestatic 93, 3) := by decide +kernel
theorem dXG_value_5 : decode cXG_value 5 = .ok (.iload_n 2, 1) := by decide +kernel
theorem dXG_value_6 : decode cXG_value 6 = .ok (.iconst 2, 1) := by decide +kernel
theorem dXG_value_7 : decode cXG_value 7 = .ok (.invokestatic 93, 3) := by decide +kernel
theorem dXG_value_10 : decode cXG_value 10 = .ok (.aload_n 0, 1) := by decide +kernel
theorem dXG_value_11 : decode cXG_value 11 = .ok (.iload_n 1, 1) := by decide +kernel
theorem dXG_value_12 : decode cXG_value 12 = .ok (.invokevirtual 105, 3) := by decide +kernel
theorem dXG_value_15 : decode cXG_value 15 = .ok (.aload_n 0, 1) := by decide +kernel
theorem dXG_value_16 : decode cXG_value 16 = .ok (.getfield 42, 3) := by decide +kernel
theorem dXG_value_19 : decode cXG_value 19 = .ok (.iload_n 1, 1) := by decide +kernel
theorem dXG_value_20 : decode cXG_value 20 = .ok (.aload_n 0, 1) := by decide +kernel
theorem dXG_value_21 : decode cXG_value 21 = .ok (.getfield 32, 3) := by decide +kernel
theorem dXG_value_24 : decode cXG_value 24 = .ok (.invokevirtual 112, 3) := by decide +kernel
theorem dXG_value_27 : decode cXG_value 27 = .ok (.iload_n 2, 1) := by decide +kernel
theorem dXG_value_28 : decode cXG_value 28 = .ok (.invokestatic 116, 3) := by decide +kernel
theorem dXG_value_31 : decode cXG_value 31 = .ok (.lreturn, 1) := by decide +kernel
theorem dXL_fits_0 : decode cXL_fits 0 = .ok (.aload_n 2, 1) := by decide +kernel
theorem dXL_fits_1 : decode cXL_fits 1 = .ok (.iconst 0, 1) := by decide +kernel
theorem dXL_fits_2 : decode cXL_fits 2 = .ok (.aload_n 0, 1) := by decide +kernel
theorem dXL_fits_3 : decode cXL_fits 3 = .ok (.iload_n 1, 1) := by decide +kernel
theorem dXL_fits_4 : decode cXL_fits 4 = .ok (.invokevirtual 41, 3) := by decide +kernel
theorem dXL_fits_7 : decode cXL_fits 7 = .ok (.i2l, 1) := by decide +kernel
theorem dXL_fits_8 : decode cXL_fits 8 = .ok (.lastore, 1) := by decide +kernel
theorem dXL_fits_9 : decode cXL_fits 9 = .ok (.goto 6, 3) := by decide +kernel
theorem dXL_fits_12 : decode cXL_fits 12 = .ok (.astore_n 3, 1) := by decide +kernel
theorem dXL_fits_13 : decode cXL_fits 13 = .ok (.iconst 1, 1) := by decide +kernel
theorem dXL_fits_14 : decode cXL_fits 14 = .ok (.ireturn, 1) := by decide +kernel
theorem dXL_fits_15 : decode cXL_fits 15 = .ok (.iconst 0, 1) := by decide +kernel
theorem dXL_fits_16 : decode cXL_fits 16 = .ok (.ireturn, 1) := by decide +kernel
theorem dXG_fits_0 : decode cXG_fits 0 = .ok (.aload_n 0, 1) := by decide +kernel
theorem dXG_fits_1 : decode cXG_fits 1 = .ok (.iload_n 1, 1) := by decide +kernel
theorem dXG_fits_2 : decode cXG_fits 2 = .ok (.invokevirtual 89, 3) := by decide +kernel
theorem dXG_fits_5 : decode cXG_fits 5 = .ok (.iconst 0, 1) := by decide +kernel
theorem dXG_fits_6 : decode cXG_fits 6 = .ok (.istore_n 2, 1) := by decide +kernel
theorem dXG_fits_7 : decode cXG_fits 7 = .ok (.iload_n 2, 1) := by decide +kernel
theorem dXG_fits_8 : decode cXG_fits 8 = .ok (.bipush 8, 2) := by decide +kernel
theorem dXG_fits_10 : decode cXG_fits 10 = .ok (.if_icmp .ge 46, 3) := by decide +kernel
theorem dXG_fits_13 : decode cXG_fits 13 = .ok (.aload_n 0, 1) := by decide +kernel
theorem dXG_fits_14 : decode cXG_fits 14 = .ok (.getfield 32, 3) := by decide +kernel
theorem dXG_fits_17 : decode cXG_fits 17 = .ok (.iload_n 2, 1) := by decide +kernel
theorem dXG_fits_18 : decode cXG_fits 18 = .ok (.iaload, 1) := by decide +kernel
theorem dXG_fits_19 : decode cXG_fits 19 = .ok (.istore_n 3, 1) := by decide +kernel
theorem dXG_fits_20 : decode cXG_fits 20 = .ok (.iload_n 3, 1) := by decide +kernel
theorem dXG_fits_21 : decode cXG_fits 21 = .ok (.aload_n 0, 1) := by decide +kernel
theorem dXG_fits_22 : decode cXG_fits 22 = .ok (.getfield 42, 3) := by decide +kernel
theorem dXG_fits_25 : decode cXG_fits 25 = .ok (.iload_n 1, 1) := by decide +kernel
theorem dXG_fits_26 : decode cXG_fits 26 = .ok (.iload_n 2, 1) := by decide +kernel
theorem dXG_fits_27 : decode cXG_fits 27 = .ok (.iconst 0, 1) := by decide +kernel
theorem dXG_fits_28 : decode cXG_fits 28 = .ok (.invokevirtual 97, 3) := by decide +kernel
theorem dXG_fits_31 : decode cXG_fits 31 = .ok (.if_icmp .lt 17, 3) := by decide +kernel
theorem dXG_fits_34 : decode cXG_fits 34 = .ok (.iload_n 3, 1) := by decide +kernel
theorem dXG_fits_35 : decode cXG_fits 35 = .ok (.aload_n 0, 1) := by decide +kernel
theorem dXG_fits_36 : decode cXG_fits 36 = .ok (.getfield 42, 3) := by decide +kernel
theorem dXG_fits_39 : decode cXG_fits 39 = .ok (.iload_n 1, 1) := by decide +kernel
theorem dXG_fits_40 : decode cXG_fits 40 = .ok (.iload_n 2, 1) := by decide +kernel
theorem dXG_fits_41 : decode cXG_fits 41 = .ok (.iconst 1, 1) := by decide +kernel
theorem dXG_fits_42 : decode cXG_fits 42 = .ok (.invokevirtual 97, 3) := by decide +kernel
theorem dXG_fits_45 : decode cXG_fits 45 = .ok (.if_icmp .le 5, 3) := by decide +kernel
theorem dXG_fits_48 : decode cXG_fits 48 = .ok (.iload_n 2, 1) := by decide +kernel
theorem dXG_fits_49 : decode cXG_fits 49 = .ok (.ireturn, 1) := by decide +kernel
theorem dXG_fits_50 : decode cXG_fits 50 = .ok (.iinc 2 1, 3) := by decide +kernel
theorem dXG_fits_53 : decode cXG_fits 53 = .ok (.goto (-46), 3) := by decide +kernel
theorem dXG_fits_56 : decode cXG_fits 56 = .ok (.aload_n 0, 1) := by decide +kernel
theorem dXG_fits_57 : decode cXG_fits 57 = .ok (.getfield 42, 3) := by decide +kernel
theorem dXG_fits_60 : decode cXG_fits 60 = .ok (.iload_n 1, 1) := by decide +kernel
theorem dXG_fits_61 : decode cXG_fits 61 = .ok (.aload_n 0, 1) := by decide +kernel
theorem dXG_fits_62 : decode cXG_fits 62 = .ok (.getfield 32, 3) := by decide +kernel
theorem dXG_fits_65 : decode cXG_fits 65 = .ok (.invokevirtual 123, 3) := by decide +kernel
theorem dXG_fits_68 : decode cXG_fits 68 = .ok (.istore_n 2, 1) := by decide +kernel
theorem dXG_fits_69 : decode cXG_fits 69 = .ok (.iload_n 2, 1) := by decide +kernel
theorem dXG_fits_70 : decode cXG_fits 70 = .ok (.iconst (-1), 1) := by decide +kernel
theorem dXG_fits_71 : decode cXG_fits 71 = .ok (.if_icmp .ne 7, 3) := by decide +kernel
theorem dXG_fits_74 : decode cXG_fits 74 = .ok (.iconst (-1), 1) := by decide +kernel
theorem dXG_fits_75 : decode cXG_fits 75 = .ok (.goto 7, 3) := by decide +kernel
theorem dXG_fits_78 : decode cXG_fits 78 = .ok (.bipush 8, 2) := by decide +kernel
theorem dXG_fits_80 : decode cXG_fits 80 = .ok (.iload_n 2, 1) := by decide +kernel
theorem dXG_fits_81 : decode cXG_fits 81 = .ok (.iadd, 1) := by decide +kernel
theorem dXG_fits_82 : decode cXG_fits 82 = .ok (.ireturn, 1) := by decide +kernel
theorem dXB_firstKindAbove_0 : decode cXB_firstKindAbove 0 = .ok (.iconst 0, 1) := by decide +kernel
theorem dXB_firstKindAbove_1 : decode cXB_firstKindAbove 1 = .ok (.istore_n 3, 1) := by decide +kernel
theorem dXB_firstKindAbove_2 : decode cXB_firstKindAbove 2 = .ok (.iload_n 3, 1) := by decide +kernel
theorem dXB_firstKindAbove_3 : decode cXB_firstKindAbove 3 = .ok (.iconst 4, 1) := by decide +kernel
theorem dXB_firstKindAbove_4 : decode cXB_firstKindAbove 4 = .ok (.if_icmp .ge 50, 3) := by decide +kernel
theorem dXB_firstKindAbove_7 : decode cXB_firstKindAbove 7 = .ok (.aload_n 0, 1) := by decide +kernel
theorem dXB_firstKindAbove_8 : decode cXB_firstKindAbove 8 = .ok (.iload_n 1, 1) := by decide +kernel
theorem dXB_firstKindAbove_9 : decode cXB_firstKindAbove 9 = .ok (.iload_n 3, 1) := by decide +kernel
theorem dXB_firstKindAbove_10 : decode cXB_firstKindAbove 10 = .ok (.invokevirtual 80, 3) := by decide +kernel
theorem dXB_firstKindAbove_13 : decode cXB_firstKindAbove 13 = .ok (.istore 4, 2) := by decide +kernel
theorem dXB_firstKindAbove_15 : decode cXB_firstKindAbove 15 = .ok (.aload_n 0, 1) := by decide +kernel
theorem dXB_firstKindAbove_16 : decode cXB_firstKindAbove 16 = .ok (.iload_n 3, 1) := by decide +kernel
theorem dXB_firstKindAbove_17 : decode cXB_firstKindAbove 17 = .ok (.invokevirtual 83, 3) := by decide +kernel
theorem dXB_firstKindAbove_20 : decode cXB_firstKindAbove 20 = .ok (.ifCond .eq 28, 3) := by decide +kernel
theorem dXB_firstKindAbove_23 : decode cXB_firstKindAbove 23 = .ok (.iload 4, 2) := by decide +kernel
theorem dXB_firstKindAbove_25 : decode cXB_firstKindAbove 25 = .ok (.iconst (-1), 1) := by decide +kernel
theorem dXB_firstKindAbove_26 : decode cXB_firstKindAbove 26 = .ok (.if_icmp .eq 22, 3) := by decide +kernel
theorem dXB_firstKindAbove_29 : decode cXB_firstKindAbove 29 = .ok (.aload_n 0, 1) := by decide +kernel
theorem dXB_firstKindAbove_30 : decode cXB_firstKindAbove 30 = .ok (.iload_n 3, 1) := by decide +kernel
theorem dXB_firstKindAbove_31 : decode cXB_firstKindAbove 31 = .ok (.aload_n 2, 1) := by decide +kernel
theorem dXB_firstKindAbove_32 : decode cXB_firstKindAbove 32 = .ok (.invokevirtual 86, 3) := by decide +kernel
theorem dXB_firstKindAbove_35 : decode cXB_firstKindAbove 35 = .ok (.iload 4, 2) := by decide +kernel
theorem dXB_firstKindAbove_37 : decode cXB_firstKindAbove 37 = .ok (.i2l, 1) := by decide +kernel
theorem dXB_firstKindAbove_38 : decode cXB_firstKindAbove 38 = .ok (.ldc2_w 78, 3) := by decide +kernel
theorem dXB_firstKindAbove_41 : decode cXB_firstKindAbove 41 = .ok (.lmul, 1) := by decide +kernel
theorem dXB_firstKindAbove_42 : decode cXB_firstKindAbove 42 = .ok (.lcmp, 1) := by decide +kernel
theorem dXB_firstKindAbove_43 : decode cXB_firstKindAbove 43 = .ok (.ifCond .le 5, 3) := by decide +kernel
theorem dXB_firstKindAbove_46 : decode cXB_firstKindAbove 46 = .ok (.iload_n 3, 1) := by decide +kernel
theorem dXB_firstKindAbove_47 : decode cXB_firstKindAbove 47 = .ok (.ireturn, 1) := by decide +kernel
theorem dXB_firstKindAbove_48 : decode cXB_firstKindAbove 48 = .ok (.iinc 3 1, 3) := by decide +kernel
theorem dXB_firstKindAbove_51 : decode cXB_firstKindAbove 51 = .ok (.goto (-49), 3) := by decide +kernel
theorem dXB_firstKindAbove_54 : decode cXB_firstKindAbove 54 = .ok (.iconst (-1), 1) := by decide +kernel
theorem dXB_firstKindAbove_55 : decode cXB_firstKindAbove 55 = .ok (.ireturn, 1) := by decide +kernel
theorem dXL_holds_0 : decode cXL_holds 0 = .ok (.aload_n 3, 1) := by decide +kernel
theorem dXL_holds_1 : decode cXL_holds 1 = .ok (.iconst 0, 1) := by decide +kernel
theorem dXL_holds_2 : decode cXL_holds 2 = .ok (.aload_n 0, 1) := by decide +kernel
theorem dXL_holds_3 : decode cXL_holds 3 = .ok (.iload_n 1, 1) := by decide +kernel
theorem dXL_holds_4 : decode cXL_holds 4 = .ok (.iload_n 2, 1) := by decide +kernel
theorem dXL_holds_5 : decode cXL_holds 5 = .ok (.invokevirtual 45, 3) := by decide +kernel
theorem dXL_holds_8 : decode cXL_holds 8 = .ok (.ifCond .eq 7, 3) := by decide +kernel
theorem dXL_holds_11 : decode cXL_holds 11 = .ok (.lconst 1, 1) := by decide +kernel
theorem dXL_holds_12 : decode cXL_holds 12 = .ok (.goto 4, 3) := by decide +kernel
theorem dXL_holds_15 : decode cXL_holds 15 = .ok (.lconst 0, 1) := by decide +kernel
theorem dXL_holds_16 : decode cXL_holds 16 = .ok (.lastore, 1) := by decide +kernel
theorem dXL_holds_17 : decode cXL_holds 17 = .ok (.goto 7, 3) := by decide +kernel
theorem dXL_holds_20 : decode cXL_holds 20 = .ok (.astore 4, 2) := by decide +kernel
theorem dXL_holds_22 : decode cXL_holds 22 = .ok (.iconst 1, 1) := by decide +kernel
theorem dXL_holds_23 : decode cXL_holds 23 = .ok (.ireturn, 1) := by decide +kernel
theorem dXL_holds_24 : decode cXL_holds 24 = .ok (.iconst 0, 1) := by decide +kernel
theorem dXL_holds_25 : decode cXL_holds 25 = .ok (.ireturn, 1) := by decide +kernel
theorem dXG_holds_0 : decode cXG_holds 0 = .ok (.aload_n 0, 1) := by decide +kernel
theorem dXG_holds_1 : decode cXG_holds 1 = .ok (.iload_n 1, 1) := by decide +kernel
theorem dXG_holds_2 : decode cXG_holds 2 = .ok (.invokevirtual 89, 3) := by decide +kernel
theorem dXG_holds_5 : decode cXG_holds 5 = .ok (.aload_n 0, 1) := by decide +kernel
theorem dXG_holds_6 : decode cXG_holds 6 = .ok (.iload_n 2, 1) := by decide +kernel
theorem dXG_holds_7 : decode cXG_holds 7 = .ok (.invokevirtual 89, 3) := by decide +kernel
theorem dXG_holds_10 : decode cXG_holds 10 = .ok (.iconst 0, 1) := by decide +kernel
theorem dXG_holds_11 : decode cXG_holds 11 = .ok (.istore_n 3, 1) := by decide +kernel
theorem dXG_holds_12 : decode cXG_holds 12 = .ok (.iload_n 3, 1) := by decide +kernel
theorem dXG_holds_13 : decode cXG_holds 13 = .ok (.bipush 8, 2) := by decide +kernel
theorem dXG_holds_15 : decode cXG_holds 15 = .ok (.if_icmp .ge 57, 3) := by decide +kernel
theorem dXG_holds_18 : decode cXG_holds 18 = .ok (.aload_n 0, 1) := by decide +kernel
theorem dXG_holds_19 : decode cXG_holds 19 = .ok (.getfield 42, 3) := by decide +kernel
theorem dXG_holds_22 : decode cXG_holds 22 = .ok (.iload_n 2, 1) := by decide +kernel
theorem dXG_holds_23 : decode cXG_holds 23 = .ok (.iload_n 3, 1) := by decide +kernel
theorem dXG_holds_24 : decode cXG_holds 24 = .ok (.iconst 0, 1) := by decide +kernel
theorem dXG_holds_25 : decode cXG_holds 25 = .ok (.invokevirtual 97, 3) := by decide +kernel
theorem dXG_holds_28 : decode cXG_holds 28 = .ok (.aload_n 0, 1) := by decide +kernel
theorem dXG_holds_29 : decode cXG_holds 29 = .ok (.getfield 42, 3) := by decide +kernel
theorem dXG_holds_32 : decode cXG_holds 32 = .ok (.iload_n 1, 1) := by decide +kernel
theorem dXG_holds_33 : decode cXG_holds 33 = .ok (.iload_n 3, 1) := by decide +kernel
theorem dXG_holds_34 : decode cXG_holds 34 = .ok (.iconst 0, 1) := by decide +kernel
theorem dXG_holds_35 : decode cXG_holds 35 = .ok (.invokevirtual 97, 3) := by decide +kernel
theorem dXG_holds_38 : decode cXG_holds 38 = .ok (.if_icmp .lt 26, 3) := by decide +kernel
theorem dXG_holds_41 : decode cXG_holds 41 = .ok (.aload_n 0, 1) := by decide +kernel
theorem dXG_holds_42 : decode cXG_holds 42 = .ok (.getfield 42, 3) := by decide +kernel
theorem dXG_holds_45 : decode cXG_holds 45 = .ok (.iload_n 2, 1) := by decide +kernel
theorem dXG_holds_46 : decode cXG_holds 46 = .ok (.iload_n 3, 1) := by decide +kernel
theorem dXG_holds_47 : decode cXG_holds 47 = .ok (.iconst 1, 1) := by decide +kernel
theorem dXG_holds_48 : decode cXG_holds 48 = .ok (.invokevirtual 97, 3) := by decide +kernel
theorem dXG_holds_51 : decode cXG_holds 51 = .ok (.aload_n 0, 1) := by decide +kernel
theorem dXG_holds_52 : decode cXG_holds 52 = .ok (.getfield 42, 3) := by decide +kernel
theorem dXG_holds_55 : decode cXG_holds 55 = .ok (.iload_n 1, 1) := by decide +kernel
theorem dXG_holds_56 : decode cXG_holds 56 = .ok (.iload_n 3, 1) := by decide +kernel
theorem dXG_holds_57 : decode cXG_holds 57 = .ok (.iconst 1, 1) := by decide +kernel
theorem dXG_holds_58 : decode cXG_holds 58 = .ok (.invokevirtual 97, 3) := by decide +kernel
theorem dXG_holds_61 : decode cXG_holds 61 = .ok (.if_icmp .le 5, 3) := by decide +kernel
theorem dXG_holds_64 : decode cXG_holds 64 = .ok (.iconst 0, 1) := by decide +kernel
theorem dXG_holds_65 : decode cXG_holds 65 = .ok (.ireturn, 1) := by decide +kernel
theorem dXG_holds_66 : decode cXG_holds 66 = .ok (.iinc 3 1, 3) := by decide +kernel
theorem dXG_holds_69 : decode cXG_holds 69 = .ok (.goto (-57), 3) := by decide +kernel
theorem dXG_holds_72 : decode cXG_holds 72 = .ok (.aload_n 0, 1) := by decide +kernel
theorem dXG_holds_73 : decode cXG_holds 73 = .ok (.getfield 42, 3) := by decide +kernel
theorem dXG_holds_76 : decode cXG_holds 76 = .ok (.iload_n 2, 1) := by decide +kernel
theorem dXG_holds_77 : decode cXG_holds 77 = .ok (.iconst 1, 1) := by decide +kernel
theorem dXG_holds_78 : decode cXG_holds 78 = .ok (.aload_n 0, 1) := by decide +kernel
theorem dXG_holds_79 : decode cXG_holds 79 = .ok (.getfield 36, 3) := by decide +kernel
theorem dXG_holds_82 : decode cXG_holds 82 = .ok (.invokevirtual 108, 3) := by decide +kernel
theorem dXG_holds_85 : decode cXG_holds 85 = .ok (.aload_n 0, 1) := by decide +kernel
theorem dXG_holds_86 : decode cXG_holds 86 = .ok (.getfield 42, 3) := by decide +kernel
theorem dXG_holds_89 : decode cXG_holds 89 = .ok (.iload_n 1, 1) := by decide +kernel
theorem dXG_holds_90 : decode cXG_holds 90 = .ok (.aload_n 0, 1) := by decide +kernel
theorem dXG_holds_91 : decode cXG_holds 91 = .ok (.getfield 36, 3) := by decide +kernel
theorem dXG_holds_94 : decode cXG_holds 94 = .ok (.invokevirtual 123, 3) := by decide +kernel
theorem dXG_holds_97 : decode cXG_holds 97 = .ok (.iconst (-1), 1) := by decide +kernel
theorem dXG_holds_98 : decode cXG_holds 98 = .ok (.if_icmp .ne 7, 3) := by decide +kernel
theorem dXG_holds_101 : decode cXG_holds 101 = .ok (.iconst 1, 1) := by decide +kernel
theorem dXG_holds_102 : decode cXG_holds 102 = .ok (.goto 4, 3) := by decide +kernel
theorem dXG_holds_105 : decode cXG_holds 105 = .ok (.iconst 0, 1) := by decide +kernel
theorem dXG_holds_106 : decode cXG_holds 106 = .ok (.ireturn, 1) := by decide +kernel
theorem dXL_ring_0 : decode cXL_ring 0 = .ok (.aload_n 2, 1) := by decide +kernel
theorem dXL_ring_1 : decode cXL_ring 1 = .ok (.iconst 0, 1) := by decide +kernel
theorem dXL_ring_2 : decode cXL_ring 2 = .ok (.aload_n 0, 1) := by decide +kernel
theorem dXL_ring_3 : decode cXL_ring 3 = .ok (.iload_n 1, 1) := by decide +kernel
theorem dXL_ring_4 : decode cXL_ring 4 = .ok (.invokevirtual 49, 3) := by decide +kernel
theorem dXL_ring_7 : decode cXL_ring 7 = .ok (.i2l, 1) := by decide +kernel
theorem dXL_ring_8 : decode cXL_ring 8 = .ok (.lastore, 1) := by decide +kernel
theorem dXL_ring_9 : decode cXL_ring 9 = .ok (.goto 6, 3) := by decide +kernel
theorem dXL_ring_12 : decode cXL_ring 12 = .ok (.astore_n 3, 1) := by decide +kernel
theorem dXL_ring_13 : decode cXL_ring 13 = .ok (.iconst 1, 1) := by decide +kernel
theorem dXL_ring_14 : decode cXL_ring 14 = .ok (.ireturn, 1) := by decide +kernel
theorem dXL_ring_15 : decode cXL_ring 15 = .ok (.iconst 0, 1) := by decide +kernel
theorem dXL_ring_16 : decode cXL_ring 16 = .ok (.ireturn, 1) := by decide +kernel
theorem dXG_ring_0 : decode cXG_ring 0 = .ok (.iload_n 1, 1) := by decide +kernel
theorem dXG_ring_1 : decode cXG_ring 1 = .ok (.invokestatic 127, 3) := by decide +kernel
theorem dXG_ring_4 : decode cXG_ring 4 = .ok (.iload_n 1, 1) := by decide +kernel
theorem dXG_ring_5 : decode cXG_ring 5 = .ok (.istore_n 2, 1) := by decide +kernel
theorem dXG_ring_6 : decode cXG_ring 6 = .ok (.iconst 1, 1) := by decide +kernel
theorem dXG_ring_7 : decode cXG_ring 7 = .ok (.istore_n 3, 1) := by decide +kernel
theorem dXG_ring_8 : decode cXG_ring 8 = .ok (.iload_n 3, 1) := by decide +kernel
theorem dXG_ring_9 : decode cXG_ring 9 = .ok (.bipush 30, 2) := by decide +kernel
theorem dXG_ring_11 : decode cXG_ring 11 = .ok (.if_icmp .gt 29, 3) := by decide +kernel
theorem dXG_ring_14 : decode cXG_ring 14 = .ok (.aload_n 0, 1) := by decide +kernel
theorem dXG_ring_15 : decode cXG_ring 15 = .ok (.getfield 42, 3) := by decide +kernel
theorem dXG_ring_18 : decode cXG_ring 18 = .ok (.iload_n 3, 1) := by decide +kernel
theorem dXG_ring_19 : decode cXG_ring 19 = .ok (.invokevirtual 130, 3) := by decide +kernel
theorem dXG_ring_22 : decode cXG_ring 22 = .ok (.ifCond .eq 12, 3) := by decide +kernel
theorem dXG_ring_25 : decode cXG_ring 25 = .ok (.iload_n 2, 1) := by decide +kernel
theorem dXG_ring_26 : decode cXG_ring 26 = .ok (.ifCond .ne 5, 3) := by decide +kernel
theorem dXG_ring_29 : decode cXG_ring 29 = .ok (.iload_n 3, 1) := by decide +kernel
theorem dXG_ring_30 : decode cXG_ring 30 = .ok (.ireturn, 1) := by decide +kernel
theorem dXG_ring_31 : decode cXG_ring 31 = .ok (.iinc 2 (-1), 3) := by decide +kernel
theorem dXG_ring_34 : decode cXG_ring 34 = .ok (.iinc 3 1, 3) := by decide +kernel
theorem dXG_ring_37 : decode cXG_ring 37 = .ok (.goto (-29), 3) := by decide +kernel
theorem dXG_ring_40 : decode cXG_ring 40 = .ok (.iconst (-1), 1) := by decide +kernel
theorem dXG_ring_41 : decode cXG_ring 41 = .ok (.ireturn, 1) := by decide +kernel
theorem dXG_needPlace_0 : decode cXG_needPlace 0 = .ok (.iload_n 0, 1) := by decide +kernel
theorem dXG_needPlace_1 : decode cXG_needPlace 1 = .ok (.ifCond .ge 13, 3) := by decide +kernel
theorem dXG_needPlace_4 : decode cXG_needPlace 4 = .ok (.new 163, 3) := by decide +kernel
theorem dXG_needPlace_7 : decode cXG_needPlace 7 = .ok (.dup, 1) := by decide +kernel
theorem dXG_needPlace_8 : decode cXG_needPlace 8 = .ok (.ldc 170, 2) := by decide +kernel
theorem dXG_needPlace_10 : decode cXG_needPlace 10 = .ok (.invokespecial 167, 3) := by decide +kernel
theorem dXG_needPlace_13 : decode cXG_needPlace 13 = .ok (.athrow, 1) := by decide +kernel
theorem dXG_needPlace_14 : decode cXG_needPlace 14 = .ok (.return_, 1) := by decide +kernel
theorem dXL_route_0 : decode cXL_route 0 = .ok (.aload_n 3, 1) := by decide +kernel
theorem dXL_route_1 : decode cXL_route 1 = .ok (.iconst 0, 1) := by decide +kernel
theorem dXL_route_2 : decode cXL_route 2 = .ok (.aload_n 0, 1) := by decide +kernel
theorem dXL_route_3 : decode cXL_route 3 = .ok (.iload_n 1, 1) := by decide +kernel
theorem dXL_route_4 : decode cXL_route 4 = .ok (.iload_n 2, 1) := by decide +kernel
theorem dXL_route_5 : decode cXL_route 5 = .ok (.invokevirtual 52, 3) := by decide +kernel
theorem dXL_route_8 : decode cXL_route 8 = .ok (.i2l, 1) := by decide +kernel
theorem dXL_route_9 : decode cXL_route 9 = .ok (.lastore, 1) := by decide +kernel
theorem dXL_route_10 : decode cXL_route 10 = .ok (.goto 7, 3) := by decide +kernel
theorem dXL_route_13 : decode cXL_route 13 = .ok (.astore 4, 2) := by decide +kernel
theorem dXL_route_15 : decode cXL_route 15 = .ok (.iconst 1, 1) := by decide +kernel
theorem dXL_route_16 : decode cXL_route 16 = .ok (.ireturn, 1) := by decide +kernel
theorem dXL_route_17 : decode cXL_route 17 = .ok (.iconst 0, 1) := by decide +kernel
theorem dXL_route_18 : decode cXL_route 18 = .ok (.ireturn, 1) := by decide +kernel
theorem dXG_route_0 : decode cXG_route 0 = .ok (.aload_n 0, 1) := by decide +kernel
theorem dXG_route_1 : decode cXG_route 1 = .ok (.iload_n 1, 1) := by decide +kernel
theorem dXG_route_2 : decode cXG_route 2 = .ok (.invokevirtual 89, 3) := by decide +kernel
theorem dXG_route_5 : decode cXG_route 5 = .ok (.iload_n 2, 1) := by decide +kernel
theorem dXG_route_6 : decode cXG_route 6 = .ok (.invokestatic 127, 3) := by decide +kernel
theorem dXG_route_9 : decode cXG_route 9 = .ok (.aload_n 0, 1) := by decide +kernel
theorem dXG_route_10 : decode cXG_route 10 = .ok (.getfield 42, 3) := by decide +kernel
theorem dXG_route_13 : decode cXG_route 13 = .ok (.iload_n 1, 1) := by decide +kernel
theorem dXG_route_14 : decode cXG_route 14 = .ok (.invokevirtual 133, 3) := by decide +kernel
theorem dXG_route_17 : decode cXG_route 17 = .ok (.istore_n 3, 1) := by decide +kernel
theorem dXG_route_18 : decode cXG_route 18 = .ok (.iload_n 2, 1) := by decide +kernel
theorem dXG_route_19 : decode cXG_route 19 = .ok (.istore 4, 2) := by decide +kernel
theorem dXG_route_21 : decode cXG_route 21 = .ok (.iconst 0, 1) := by decide +kernel
theorem dXG_route_22 : decode cXG_route 22 = .ok (.istore 5, 2) := by decide +kernel
theorem dXG_route_24 : decode cXG_route 24 = .ok (.iload 5, 2) := by decide +kernel
theorem dXG_route_26 : decode cXG_route 26 = .ok (.bipush 8, 2) := by decide +kernel
theorem dXG_route_28 : decode cXG_route 28 = .ok (.if_icmp .ge 29, 3) := by decide +kernel
theorem dXG_route_31 : decode cXG_route 31 = .ok (.iload_n 3, 1) := by decide +kernel
theorem dXG_route_32 : decode cXG_route 32 = .ok (.iload 5, 2) := by decide +kernel
theorem dXG_route_34 : decode cXG_route 34 = .ok (.invokestatic 137, 3) := by decide +kernel
theorem dXG_route_37 : decode cXG_route 37 = .ok (.ifCond .eq 14, 3) := by decide +kernel
theorem dXG_route_40 : decode cXG_route 40 = .ok (.iload 4, 2) := by decide +kernel
theorem dXG_route_42 : decode cXG_route 42 = .ok (.ifCond .ne 6, 3) := by decide +kernel
theorem dXG_route_45 : decode cXG_route 45 = .ok (.iload 5, 2) := by decide +kernel
theorem dXG_route_47 : decode cXG_route 47 = .ok (.ireturn, 1) := by decide +kernel
theorem dXG_route_48 : decode cXG_route 48 = .ok (.iinc 4 (-1), 3) := by decide +kernel
theorem dXG_route_51 : decode cXG_route 51 = .ok (.iinc 5 1, 3) := by decide +kernel
theorem dXG_route_54 : decode cXG_route 54 = .ok (.goto (-30), 3) := by decide +kernel
theorem dXG_route_57 : decode cXG_route 57 = .ok (.iconst (-1), 1) := by decide +kernel
theorem dXG_route_58 : decode cXG_route 58 = .ok (.ireturn, 1) := by decide +kernel
theorem dXB_routesOf_0 : decode cXB_routesOf 0 = .ok (.iload_n 1, 1) := by decide +kernel
theorem dXB_routesOf_1 : decode cXB_routesOf 1 = .ok (.istore_n 2, 1) := by decide +kernel
theorem dXB_routesOf_2 : decode cXB_routesOf 2 = .ok (.iconst 0, 1) := by decide +kernel
theorem dXB_routesOf_3 : decode cXB_routesOf 3 = .ok (.istore_n 3, 1) := by decide +kernel
theorem dXB_routesOf_4 : decode cXB_routesOf 4 = .ok (.iload_n 3, 1) := by decide +kernel
theorem dXB_routesOf_5 : decode cXB_routesOf 5 = .ok (.bipush 30, 2) := by decide +kernel
theorem dXB_routesOf_7 : decode cXB_routesOf 7 = .ok (.if_icmp .ge 29, 3) := by decide +kernel
theorem dXB_routesOf_10 : decode cXB_routesOf 10 = .ok (.iload_n 2, 1) := by decide +kernel
theorem dXB_routesOf_11 : decode cXB_routesOf 11 = .ok (.ifCond .le 25, 3) := by decide +kernel
theorem dXB_routesOf_14 : decode cXB_routesOf 14 = .ok (.aload_n 0, 1) := by decide +kernel
theorem dXB_routesOf_15 : decode cXB_routesOf 15 = .ok (.getfield 27, 3) := by decide +kernel
theorem dXB_routesOf_18 : decode cXB_routesOf 18 = .ok (.iload_n 2, 1) := by decide +kernel
theorem dXB_routesOf_19 : decode cXB_routesOf 19 = .ok (.iaload, 1) := by decide +kernel
theorem dXB_routesOf_20 : decode cXB_routesOf 20 = .ok (.ifCond .ne 16, 3) := by decide +kernel
theorem dXB_routesOf_23 : decode cXB_routesOf 23 = .ok (.aload_n 0, 1) := by decide +kernel
theorem dXB_routesOf_24 : decode cXB_routesOf 24 = .ok (.getfield 15, 3) := by decide +kernel
theorem dXB_routesOf_27 : decode cXB_routesOf 27 = .ok (.iload_n 2, 1) := by decide +kernel
theorem dXB_routesOf_28 : decode cXB_routesOf 28 = .ok (.iaload, 1) := by decide +kernel
theorem dXB_routesOf_29 : decode cXB_routesOf 29 = .ok (.istore_n 2, 1) := by decide +kernel
theorem dXB_routesOf_30 : decode cXB_routesOf 30 = .ok (.iinc 3 1, 3) := by decide +kernel
theorem dXB_routesOf_33 : decode cXB_routesOf 33 = .ok (.goto (-29), 3) := by decide +kernel
theorem dXB_routesOf_36 : decode cXB_routesOf 36 = .ok (.iload_n 2, 1) := by decide +kernel
theorem dXB_routesOf_37 : decode cXB_routesOf 37 = .ok (.ifCond .ne 7, 3) := by decide +kernel
theorem dXB_routesOf_40 : decode cXB_routesOf 40 = .ok (.iconst 0, 1) := by decide +kernel
theorem dXB_routesOf_41 : decode cXB_routesOf 41 = .ok (.goto 9, 3) := by decide +kernel
theorem dXB_routesOf_44 : decode cXB_routesOf 44 = .ok (.aload_n 0, 1) := by decide +kernel
theorem dXB_routesOf_45 : decode cXB_routesOf 45 = .ok (.getfield 27, 3) := by decide +kernel
theorem dXB_routesOf_48 : decode cXB_routesOf 48 = .ok (.iload_n 2, 1) := by decide +kernel
theorem dXB_routesOf_49 : decode cXB_routesOf 49 = .ok (.iaload, 1) := by decide +kernel
theorem dXB_routesOf_50 : decode cXB_routesOf 50 = .ok (.ireturn, 1) := by decide +kernel
theorem dXL_difference_0 : decode cXL_difference 0 = .ok (.aload 4, 2) := by decide +kernel
theorem dXL_difference_2 : decode cXL_difference 2 = .ok (.iconst 0, 1) := by decide +kernel
theorem dXL_difference_3 : decode cXL_difference 3 = .ok (.aload_n 0, 1) := by decide +kernel
theorem dXL_difference_4 : decode cXL_difference 4 = .ok (.iload_n 1, 1) := by decide +kernel
theorem dXL_difference_5 : decode cXL_difference 5 = .ok (.iload_n 2, 1) := by decide +kernel
theorem dXL_difference_6 : decode cXL_difference 6 = .ok (.iload_n 3, 1) := by decide +kernel
theorem dXL_difference_7 : decode cXL_difference 7 = .ok (.invokevirtual 55, 3) := by decide +kernel
theorem dXL_difference_10 : decode cXL_difference 10 = .ok (.i2l, 1) := by decide +kernel
theorem dXL_difference_11 : decode cXL_difference 11 = .ok (.lastore, 1) := by decide +kernel
theorem dXL_difference_12 : decode cXL_difference 12 = .ok (.goto 7, 3) := by decide +kernel
theorem dXL_difference_15 : decode cXL_difference 15 = .ok (.astore 5, 2) := by decide +kernel
theorem dXL_difference_17 : decode cXL_difference 17 = .ok (.iconst 1, 1) := by decide +kernel
theorem dXL_difference_18 : decode cXL_difference 18 = .ok (.ireturn, 1) := by decide +kernel
theorem dXL_difference_19 : decode cXL_difference 19 = .ok (.iconst 0, 1) := by decide +kernel
theorem dXL_difference_20 : decode cXL_difference 20 = .ok (.ireturn, 1) := by decide +kernel
theorem dXG_difference_0 : decode cXG_difference 0 = .ok (.aload_n 0, 1) := by decide +kernel
theorem dXG_difference_1 : decode cXG_difference 1 = .ok (.iload_n 1, 1) := by decide +kernel
theorem dXG_difference_2 : decode cXG_difference 2 = .ok (.invokevirtual 89, 3) := by decide +kernel
theorem dXG_difference_5 : decode cXG_difference 5 = .ok (.aload_n 0, 1) := by decide +kernel
theorem dXG_difference_6 : decode cXG_difference 6 = .ok (.iload_n 2, 1) := by decide +kernel
theorem dXG_difference_7 : decode cXG_difference 7 = .ok (.invokevirtual 89, 3) := by decide +kernel
theorem dXG_difference_10 : decode cXG_difference 10 = .ok (.iload_n 3, 1) := by decide +kernel
theorem dXG_difference_11 : decode cXG_difference 11 = .ok (.invokestatic 127, 3) := by decide +kernel
theorem dXG_difference_14 : decode cXG_difference 14 = .ok (.iload_n 3, 1) := by decide +kernel
theorem dXG_difference_15 : decode cXG_difference 15 = .ok (.istore 4, 2) := by decide +kernel
theorem dXG_difference_17 : decode cXG_difference 17 = .ok (.iconst 0, 1) := by decide +kernel
theorem dXG_difference_18 : decode cXG_difference 18 = .ok (.istore 5, 2) := by decide +kernel
theorem dXG_difference_20 : decode cXG_difference 20 = .ok (.iload 5, 2) := by decide +kernel
theorem dXG_difference_22 : decode cXG_difference 22 = .ok (.bipush 8, 2) := by decide +kernel
theorem dXG_difference_24 : decode cXG_difference 24 = .ok (.if_icmp .ge 70, 3) := by decide +kernel
theorem dXG_difference_27 : decode cXG_difference 27 = .ok (.aload_n 0, 1) := by decide +kernel
theorem dXG_difference_28 : decode cXG_difference 28 = .ok (.getfield 42, 3) := by decide +kernel
theorem dXG_difference_31 : decode cXG_difference 31 = .ok (.iload_n 1, 1) := by decide +kernel
theorem dXG_difference_32 : decode cXG_difference 32 = .ok (.iload 5, 2) := by decide +kernel
theorem dXG_difference_34 : decode cXG_difference 34 = .ok (.iconst 0, 1) := by decide +kernel
theorem dXG_difference_35 : decode cXG_difference 35 = .ok (.invokevirtual 97, 3) := by decide +kernel
theorem dXG_difference_38 : decode cXG_difference 38 = .ok (.aload_n 0, 1) := by decide +kernel
theorem dXG_difference_39 : decode cXG_difference 39 = .ok (.getfield 42, 3) := by decide +kernel
theorem dXG_difference_42 : decode cXG_difference 42 = .ok (.iload_n 2, 1) := by decide +kernel
theorem dXG_difference_43 : decode cXG_difference 43 = .ok (.iload 5, 2) := by decide +kernel
theorem dXG_difference_45 : decode cXG_difference 45 = .ok (.iconst 0, 1) := by decide +kernel
theorem dXG_difference_46 : decode cXG_difference 46 = .ok (.invokevirtual 97, 3) := by decide +kernel
theorem dXG_difference_49 : decode cXG_difference 49 = .ok (.if_icmp .ne 28, 3) := by decide +kernel
theorem dXG_difference_52 : decode cXG_difference 52 = .ok (.aload_n 0, 1) := by decide +kernel
theorem dXG_difference_53 : decode cXG_difference 53 = .ok (.getfield 42, 3) := by decide +kernel
theorem dXG_difference_56 : decode cXG_difference 56 = .ok (.iload_n 1, 1) := by decide +kernel
theorem dXG_difference_57 : decode cXG_difference 57 = .ok (.iload 5, 2) := by decide +kernel
theorem dXG_difference_59 : decode cXG_difference 59 = .ok (.iconst 1, 1) := by decide +kernel
theorem dXG_difference_60 : decode cXG_difference 60 = .ok (.invokevirtual 97, 3) := by decide +kernel
theorem dXG_difference_63 : decode cXG_difference 63 = .ok (.aload_n 0, 1) := by decide +kernel
theorem dXG_difference_64 : decode cXG_difference 64 = .ok (.getfield 42, 3) := by decide +kernel
theorem dXG_difference_67 : decode cXG_difference 67 = .ok (.iload_n 2, 1) := by decide +kernel
theorem dXG_difference_68 : decode cXG_difference 68 = .ok (.iload 5, 2) := by decide +kernel
theorem dXG_difference_70 : decode cXG_difference 70 = .ok (.iconst 1, 1) := by decide +kernel
theorem dXG_difference_71 : decode cXG_difference 71 = .ok (.invokevirtual 97, 3) := by decide +kernel
theorem dXG_difference_74 : decode cXG_difference 74 = .ok (.if_icmp .eq 14, 3) := by decide +kernel
theorem dXG_difference_77 : decode cXG_difference 77 = .ok (.iload 4, 2) := by decide +kernel
theorem dXG_difference_79 : decode cXG_difference 79 = .ok (.ifCond .ne 6, 3) := by decide +kernel
theorem dXG_difference_82 : decode cXG_difference 82 = .ok (.iload 5, 2) := by decide +kernel
theorem dXG_difference_84 : decode cXG_difference 84 = .ok (.ireturn, 1) := by decide +kernel
theorem dXG_difference_85 : decode cXG_difference 85 = .ok (.iinc 4 (-1), 3) := by decide +kernel
theorem dXG_difference_88 : decode cXG_difference 88 = .ok (.iinc 5 1, 3) := by decide +kernel
theorem dXG_difference_91 : decode cXG_difference 91 = .ok (.goto (-71), 3) := by decide +kernel
theorem dXG_difference_94 : decode cXG_difference 94 = .ok (.iconst (-1), 1) := by decide +kernel
theorem dXG_difference_95 : decode cXG_difference 95 = .ok (.ireturn, 1) := by decide +kernel
theorem dXL_write_0 : decode cXL_write 0 = .ok (.aload_n 2, 1) := by decide +kernel
theorem dXL_write_1 : decode cXL_write 1 = .ok (.iconst 0, 1) := by decide +kernel
theorem dXL_write_2 : decode cXL_write 2 = .ok (.aload_n 0, 1) := by decide +kernel
theorem dXL_write_3 : decode cXL_write 3 = .ok (.iload_n 1, 1) := by decide +kernel
theorem dXL_write_4 : decode cXL_write 4 = .ok (.invokevirtual 58, 3) := by decide +kernel
theorem dXL_write_7 : decode cXL_write 7 = .ok (.i2l, 1) := by decide +kernel
theorem dXL_write_8 : decode cXL_write 8 = .ok (.lastore, 1) := by decide +kernel
theorem dXL_write_9 : decode cXL_write 9 = .ok (.goto 6, 3) := by decide +kernel
theorem dXL_write_12 : decode cXL_write 12 = .ok (.astore_n 3, 1) := by decide +kernel
theorem dXL_write_13 : decode cXL_write 13 = .ok (.iconst 1, 1) := by decide +kernel
theorem dXL_write_14 : decode cXL_write 14 = .ok (.ireturn, 1) := by decide +kernel
theorem dXL_write_15 : decode cXL_write 15 = .ok (.iconst 0, 1) := by decide +kernel
theorem dXL_write_16 : decode cXL_write 16 = .ok (.ireturn, 1) := by decide +kernel
theorem dXG_write_0 : decode cXG_write 0 = .ok (.aload_n 0, 1) := by decide +kernel
theorem dXG_write_1 : decode cXG_write 1 = .ok (.iload_n 1, 1) := by decide +kernel
theorem dXG_write_2 : decode cXG_write 2 = .ok (.invokevirtual 89, 3) := by decide +kernel
theorem dXG_write_5 : decode cXG_write 5 = .ok (.aload_n 0, 1) := by decide +kernel
theorem dXG_write_6 : decode cXG_write 6 = .ok (.getfield 28, 3) := by decide +kernel
theorem dXG_write_9 : decode cXG_write 9 = .ok (.invokevirtual 141, 3) := by decide +kernel
theorem dXG_write_12 : decode cXG_write 12 = .ok (.aload_n 0, 1) := by decide +kernel
theorem dXG_write_13 : decode cXG_write 13 = .ok (.getfield 42, 3) := by decide +kernel
theorem dXG_write_16 : decode cXG_write 16 = .ok (.iload_n 1, 1) := by decide +kernel
theorem dXG_write_17 : decode cXG_write 17 = .ok (.aload_n 0, 1) := by decide +kernel
theorem dXG_write_18 : decode cXG_write 18 = .ok (.getfield 28, 3) := by decide +kernel
theorem dXG_write_21 : decode cXG_write 21 = .ok (.invokevirtual 144, 3) := by decide +kernel
theorem dXG_write_24 : decode cXG_write 24 = .ok (.aload_n 0, 1) := by decide +kernel
theorem dXG_write_25 : decode cXG_write 25 = .ok (.getfield 28, 3) := by decide +kernel
theorem dXG_write_28 : decode cXG_write 28 = .ok (.invokevirtual 148, 3) := by decide +kernel
theorem dXG_write_31 : decode cXG_write 31 = .ok (.ireturn, 1) := by decide +kernel
theorem dXP_start_0 : decode cXP_start 0 = .ok (.aload_n 0, 1) := by decide +kernel
theorem dXP_start_1 : decode cXP_start 1 = .ok (.iconst 0, 1) := by decide +kernel
theorem dXP_start_2 : decode cXP_start 2 = .ok (.putfield 15, 3) := by decide +kernel
theorem dXP_start_5 : decode cXP_start 5 = .ok (.return_, 1) := by decide +kernel
theorem dXB_printRow_0 : decode cXB_printRow 0 = .ok (.aload_n 2, 1) := by decide +kernel
theorem dXB_printRow_1 : decode cXB_printRow 1 = .ok (.bipush 103, 2) := by decide +kernel
theorem dXB_printRow_3 : decode cXB_printRow 3 = .ok (.invokevirtual 90, 3) := by decide +kernel
theorem dXB_printRow_6 : decode cXB_printRow 6 = .ok (.aload_n 2, 1) := by decide +kernel
theorem dXB_printRow_7 : decode cXB_printRow 7 = .ok (.iload_n 1, 1) := by decide +kernel
theorem dXB_printRow_8 : decode cXB_printRow 8 = .ok (.invokevirtual 96, 3) := by decide +kernel
theorem dXB_printRow_11 : decode cXB_printRow 11 = .ok (.aload_n 0, 1) := by decide +kernel
theorem dXB_printRow_12 : decode cXB_printRow 12 = .ok (.getfield 9, 3) := by decide +kernel
theorem dXB_printRow_15 : decode cXB_printRow 15 = .ok (.iload_n 1, 1) := by decide +kernel
theorem dXB_printRow_16 : decode cXB_printRow 16 = .ok (.iaload, 1) := by decide +kernel
theorem dXB_printRow_17 : decode cXB_printRow 17 = .ok (.ifCond .le 19, 3) := by decide +kernel
theorem dXB_printRow_20 : decode cXB_printRow 20 = .ok (.aload_n 2, 1) := by decide +kernel
theorem dXB_printRow_21 : decode cXB_printRow 21 = .ok (.bipush 60, 2) := by decide +kernel
theorem dXB_printRow_23 : decode cXB_printRow 23 = .ok (.invokevirtual 90, 3) := by decide +kernel
theorem dXB_printRow_26 : decode cXB_printRow 26 = .ok (.aload_n 2, 1) := by decide +kernel
theorem dXB_printRow_27 : decode cXB_printRow 27 = .ok (.aload_n 0, 1) := by decide +kernel
theorem dXB_printRow_28 : decode cXB_printRow 28 = .ok (.getfield 9, 3) := by decide +kernel
theorem dXB_printRow_31 : decode cXB_printRow 31 = .ok (.iload_n 1, 1) := by decide +kernel
theorem dXB_printRow_32 : decode cXB_printRow 32 = .ok (.iaload, 1) := by decide +kernel
theorem dXB_printRow_33 : decode cXB_printRow 33 = .ok (.invokevirtual 96, 3) := by decide +kernel
theorem dXB_printRow_36 : decode cXB_printRow 36 = .ok (.aload_n 0, 1) := by decide +kernel
theorem dXB_printRow_37 : decode cXB_printRow 37 = .ok (.iload_n 1, 1) := by decide +kernel
theorem dXB_printRow_38 : decode cXB_printRow 38 = .ok (.aload_n 2, 1) := by decide +kernel
theorem dXB_printRow_39 : decode cXB_printRow 39 = .ok (.invokevirtual 99, 3) := by decide +kernel
theorem dXB_printRow_42 : decode cXB_printRow 42 = .ok (.aload_n 0, 1) := by decide +kernel
theorem dXB_printRow_43 : decode cXB_printRow 43 = .ok (.iload_n 1, 1) := by decide +kernel
theorem dXB_printRow_44 : decode cXB_printRow 44 = .ok (.aload_n 2, 1) := by decide +kernel
theorem dXB_printRow_45 : decode cXB_printRow 45 = .ok (.invokevirtual 103, 3) := by decide +kernel
theorem dXB_printRow_48 : decode cXB_printRow 48 = .ok (.aload_n 0, 1) := by decide +kernel
theorem dXB_printRow_49 : decode cXB_printRow 49 = .ok (.iload_n 1, 1) := by decide +kernel
theorem dXB_printRow_50 : decode cXB_printRow 50 = .ok (.aload_n 2, 1) := by decide +kernel
theorem dXB_printRow_51 : decode cXB_printRow 51 = .ok (.invokevirtual 106, 3) := by decide +kernel
theorem dXB_printRow_54 : decode cXB_printRow 54 = .ok (.aload_n 2, 1) := by decide +kernel
theorem dXB_printRow_55 : decode cXB_printRow 55 = .ok (.bipush 59, 2) := by decide +kernel
theorem dXB_printRow_57 : decode cXB_printRow 57 = .ok (.invokevirtual 90, 3) := by decide +kernel
theorem dXB_printRow_60 : decode cXB_printRow 60 = .ok (.return_, 1) := by decide +kernel
theorem dXP_put_0 : decode cXP_put 0 = .ok (.aload_n 0, 1) := by decide +kernel
theorem dXP_put_1 : decode cXP_put 1 = .ok (.getfield 15, 3) := by decide +kernel
theorem dXP_put_4 : decode cXP_put 4 = .ok (.sipush 160, 3) := by decide +kernel
theorem dXP_put_7 : decode cXP_put 7 = .ok (.if_icmp .ge 23, 3) := by decide +kernel
theorem dXP_put_10 : decode cXP_put 10 = .ok (.aload_n 0, 1) := by decide +kernel
theorem dXP_put_11 : decode cXP_put 11 = .ok (.getfield 9, 3) := by decide +kernel
theorem dXP_put_14 : decode cXP_put 14 = .ok (.aload_n 0, 1) := by decide +kernel
theorem dXP_put_15 : decode cXP_put 15 = .ok (.getfield 15, 3) := by decide +kernel
theorem dXP_put_18 : decode cXP_put 18 = .ok (.iload_n 1, 1) := by decide +kernel
theorem dXP_put_19 : decode cXP_put 19 = .ok (.iastore, 1) := by decide +kernel
theorem dXP_put_20 : decode cXP_put 20 = .ok (.aload_n 0, 1) := by decide +kernel
theorem dXP_put_21 : decode cXP_put 21 = .ok (.dup, 1) := by decide +kernel
theorem dXP_put_22 : decode cXP_put 22 = .ok (.getfield 15, 3) := by decide +kernel
theorem dXP_put_25 : decode cXP_put 25 = .ok (.iconst 1, 1) := by decide +kernel
theorem dXP_put_26 : decode cXP_put 26 = .ok (.iadd, 1) := by decide +kernel
theorem dXP_put_27 : decode cXP_put 27 = .ok (.putfield 15, 3) := by decide +kernel
theorem dXP_put_30 : decode cXP_put 30 = .ok (.return_, 1) := by decide +kernel
theorem dXP_putNumber_0 : decode cXP_putNumber 0 = .ok (.ldc 19, 2) := by decide +kernel
theorem dXP_putNumber_2 : decode cXP_putNumber 2 = .ok (.istore_n 2, 1) := by decide +kernel
theorem dXP_putNumber_3 : decode cXP_putNumber 3 = .ok (.iload_n 2, 1) := by decide +kernel
theorem dXP_putNumber_4 : decode cXP_putNumber 4 = .ok (.ifCond .le 34, 3) := by decide +kernel
theorem dXP_putNumber_7 : decode cXP_putNumber 7 = .ok (.iload_n 1, 1) := by decide +kernel
theorem dXP_putNumber_8 : decode cXP_putNumber 8 = .ok (.iload_n 2, 1) := by decide +kernel
theorem dXP_putNumber_9 : decode cXP_putNumber 9 = .ok (.if_icmp .ge 8, 3) := by decide +kernel
theorem dXP_putNumber_12 : decode cXP_putNumber 12 = .ok (.iload_n 2, 1) := by decide +kernel
theorem dXP_putNumber_13 : decode cXP_putNumber 13 = .ok (.iconst 1, 1) := by decide +kernel
theorem dXP_putNumber_14 : decode cXP_putNumber 14 = .ok (.if_icmp .ne 16, 3) := by decide +kernel
theorem dXP_putNumber_17 : decode cXP_putNumber 17 = .ok (.aload_n 0, 1) := by decide +kernel
theorem dXP_putNumber_18 : decode cXP_putNumber 18 = .ok (.bipush 48, 2) := by decide +kernel
theorem dXP_putNumber_20 : decode cXP_putNumber 20 = .ok (.iload_n 1, 1) := by decide +kernel
theorem dXP_putNumber_21 : decode cXP_putNumber 21 = .ok (.iload_n 2, 1) := by decide +kernel
theorem dXP_putNumber_22 : decode cXP_putNumber 22 = .ok (.idiv, 1) := by decide +kernel
theorem dXP_putNumber_23 : decode cXP_putNumber 23 = .ok (.bipush 10, 2) := by decide +kernel
theorem dXP_putNumber_25 : decode cXP_putNumber 25 = .ok (.irem, 1) := by decide +kernel
theorem dXP_putNumber_26 : decode cXP_putNumber 26 = .ok (.iadd, 1) := by decide +kernel
theorem dXP_putNumber_27 : decode cXP_putNumber 27 = .ok (.invokevirtual 20, 3) := by decide +kernel
theorem dXP_putNumber_30 : decode cXP_putNumber 30 = .ok (.iload_n 2, 1) := by decide +kernel
theorem dXP_putNumber_31 : decode cXP_putNumber 31 = .ok (.bipush 10, 2) := by decide +kernel
theorem dXP_putNumber_33 : decode cXP_putNumber 33 = .ok (.idiv, 1) := by decide +kernel
theorem dXP_putNumber_34 : decode cXP_putNumber 34 = .ok (.istore_n 2, 1) := by decide +kernel
theorem dXP_putNumber_35 : decode cXP_putNumber 35 = .ok (.goto (-32), 3) := by decide +kernel
theorem dXP_putNumber_38 : decode cXP_putNumber 38 = .ok (.return_, 1) := by decide +kernel
theorem dXB_printSpans_0 : decode cXB_printSpans 0 = .ok (.iconst 0, 1) := by decide +kernel
theorem dXB_printSpans_1 : decode cXB_printSpans 1 = .ok (.istore_n 3, 1) := by decide +kernel
theorem dXB_printSpans_2 : decode cXB_printSpans 2 = .ok (.iload_n 3, 1) := by decide +kernel
theorem dXB_printSpans_3 : decode cXB_printSpans 3 = .ok (.bipush 8, 2) := by decide +kernel
theorem dXB_printSpans_5 : decode cXB_printSpans 5 = .ok (.if_icmp .ge 62, 3) := by decide +kernel
theorem dXB_printSpans_8 : decode cXB_printSpans 8 = .ok (.aload_n 0, 1) := by decide +kernel
theorem dXB_printSpans_9 : decode cXB_printSpans 9 = .ok (.iload_n 1, 1) := by decide +kernel
theorem dXB_printSpans_10 : decode cXB_printSpans 10 = .ok (.iload_n 3, 1) := by decide +kernel
theorem dXB_printSpans_11 : decode cXB_printSpans 11 = .ok (.invokevirtual 63, 3) := by decide +kernel
theorem dXB_printSpans_14 : decode cXB_printSpans 14 = .ok (.ifCond .eq 47, 3) := by decide +kernel
theorem dXB_printSpans_17 : decode cXB_printSpans 17 = .ok (.aload_n 2, 1) := by decide +kernel
theorem dXB_printSpans_18 : decode cXB_printSpans 18 = .ok (.bipush 65, 2) := by decide +kernel
theorem dXB_printSpans_20 : decode cXB_printSpans 20 = .ok (.iload_n 3, 1) := by decide +kernel
theorem dXB_printSpans_21 : decode cXB_printSpans 21 = .ok (.iadd, 1) := by decide +kernel
theorem dXB_printSpans_22 : decode cXB_printSpans 22 = .ok (.invokevirtual 90, 3) := by decide +kernel
theorem dXB_printSpans_25 : decode cXB_printSpans 25 = .ok (.aload_n 2, 1) := by decide +kernel
theorem dXB_printSpans_26 : decode cXB_printSpans 26 = .ok (.aload_n 0, 1) := by decide +kernel
theorem dXB_printSpans_27 : decode cXB_printSpans 27 = .ok (.getfield 18, 3) := by decide +kernel
theorem dXB_printSpans_30 : decode cXB_printSpans 30 = .ok (.iload_n 1, 1) := by decide +kernel
theorem dXB_printSpans_31 : decode cXB_printSpans 31 = .ok (.bipush 8, 2) := by decide +kernel
theorem dXB_printSpans_33 : decode cXB_printSpans 33 = .ok (.imul, 1) := by decide +kernel
theorem dXB_printSpans_34 : decode cXB_printSpans 34 = .ok (.iload_n 3, 1) := by decide +kernel
theorem dXB_printSpans_35 : decode cXB_printSpans 35 = .ok (.iadd, 1) := by decide +kernel
theorem dXB_printSpans_36 : decode cXB_printSpans 36 = .ok (.iaload, 1) := by decide +kernel
theorem dXB_printSpans_37 : decode cXB_printSpans 37 = .ok (.invokevirtual 96, 3) := by decide +kernel
theorem dXB_printSpans_40 : decode cXB_printSpans 40 = .ok (.aload_n 2, 1) := by decide +kernel
theorem dXB_printSpans_41 : decode cXB_printSpans 41 = .ok (.bipush 45, 2) := by decide +kernel
theorem dXB_printSpans_43 : decode cXB_printSpans 43 = .ok (.invokevirtual 90, 3) := by decide +kernel
theorem dXB_printSpans_46 : decode cXB_printSpans 46 = .ok (.aload_n 2, 1) := by decide +kernel
theorem dXB_printSpans_47 : decode cXB_printSpans 47 = .ok (.aload_n 0, 1) := by decide +kernel
theorem dXB_printSpans_48 : decode cXB_printSpans 48 = .ok (.getfield 21, 3) := by decide +kernel
theorem dXB_printSpans_51 : decode cXB_printSpans 51 = .ok (.iload_n 1, 1) := by decide +kernel
theorem dXB_printSpans_52 : decode cXB_printSpans 52 = .ok (.bipush 8, 2) := by decide +kernel
theorem dXB_printSpans_54 : decode cXB_printSpans 54 = .ok (.imul, 1) := by decide +kernel
theorem dXB_printSpans_55 : decode cXB_printSpans 55 = .ok (.iload_n 3, 1) := by decide +kernel
theorem dXB_printSpans_56 : decode cXB_printSpans 56 = .ok (.iadd, 1) := by decide +kernel
theorem dXB_printSpans_57 : decode cXB_printSpans 57 = .ok (.iaload, 1) := by decide +kernel
theorem dXB_printSpans_58 : decode cXB_printSpans 58 = .ok (.invokevirtual 96, 3) := by decide +kernel
theorem dXB_printSpans_61 : decode cXB_printSpans 61 = .ok (.iinc 3 1, 3) := by decide +kernel
theorem dXB_printSpans_64 : decode cXB_printSpans 64 = .ok (.goto (-62), 3) := by decide +kernel
theorem dXB_printSpans_67 : decode cXB_printSpans 67 = .ok (.return_, 1) := by decide +kernel
theorem dXB_printRoutes_0 : decode cXB_printRoutes 0 = .ok (.aload_n 0, 1) := by decide +kernel
theorem dXB_printRoutes_1 : decode cXB_printRoutes 1 = .ok (.getfield 27, 3) := by decide +kernel
theorem dXB_printRoutes_4 : decode cXB_printRoutes 4 = .ok (.iload_n 1, 1) := by decide +kernel
theorem dXB_printRoutes_5 : decode cXB_printRoutes 5 = .ok (.iaload, 1) := by decide +kernel
theorem dXB_printRoutes_6 : decode cXB_printRoutes 6 = .ok (.ifCond .ne 4, 3) := by decide +kernel
theorem dXB_printRoutes_9 : decode cXB_printRoutes 9 = .ok (.return_, 1) := by decide +kernel
theorem dXB_printRoutes_10 : decode cXB_printRoutes 10 = .ok (.aload_n 2, 1) := by decide +kernel
theorem dXB_printRoutes_11 : decode cXB_printRoutes 11 = .ok (.bipush 114, 2) := by decide +kernel
theorem dXB_printRoutes_13 : decode cXB_printRoutes 13 = .ok (.invokevirtual 90, 3) := by decide +kernel
theorem dXB_printRoutes_16 : decode cXB_printRoutes 16 = .ok (.iconst 0, 1) := by decide +kernel
theorem dXB_printRoutes_17 : decode cXB_printRoutes 17 = .ok (.istore_n 3, 1) := by decide +kernel
theorem dXB_printRoutes_18 : decode cXB_printRoutes 18 = .ok (.iload_n 3, 1) := by decide +kernel
theorem dXB_printRoutes_19 : decode cXB_printRoutes 19 = .ok (.bipush 8, 2) := by decide +kernel
theorem dXB_printRoutes_21 : decode cXB_printRoutes 21 = .ok (.if_icmp .ge 30, 3) := by decide +kernel
theorem dXB_printRoutes_24 : decode cXB_printRoutes 24 = .ok (.aload_n 0, 1) := by decide +kernel
theorem dXB_printRoutes_25 : decode cXB_printRoutes 25 = .ok (.getfield 27, 3) := by decide +kernel
theorem dXB_printRoutes_28 : decode cXB_printRoutes 28 = .ok (.iload_n 1, 1) := by decide +kernel
theorem dXB_printRoutes_29 : decode cXB_printRoutes 29 = .ok (.iaload, 1) := by decide +kernel
theorem dXB_printRoutes_30 : decode cXB_printRoutes 30 = .ok (.iload_n 3, 1) := by decide +kernel
theorem dXB_printRoutes_31 : decode cXB_printRoutes 31 = .ok (.invokestatic 52, 3) := by decide +kernel
theorem dXB_printRoutes_34 : decode cXB_printRoutes 34 = .ok (.ifCond .eq 11, 3) := by decide +kernel
theorem dXB_printRoutes_37 : decode cXB_printRoutes 37 = .ok (.aload_n 2, 1) := by decide +kernel
theorem dXB_printRoutes_38 : decode cXB_printRoutes 38 = .ok (.bipush 48, 2) := by decide +kernel
theorem dXB_printRoutes_40 : decode cXB_printRoutes 40 = .ok (.iload_n 3, 1) := by decide +kernel
theorem dXB_printRoutes_41 : decode cXB_printRoutes 41 = .ok (.iadd, 1) := by decide +kernel
theorem dXB_printRoutes_42 : decode cXB_printRoutes 42 = .ok (.invokevirtual 90, 3) := by decide +kernel
theorem dXB_printRoutes_45 : decode cXB_printRoutes 45 = .ok (.iinc 3 1, 3) := by decide +kernel
theorem dXB_printRoutes_48 : decode cXB_printRoutes 48 = .ok (.goto (-30), 3) := by decide +kernel
theorem dXB_printRoutes_51 : decode cXB_printRoutes 51 = .ok (.return_, 1) := by decide +kernel
theorem dXB_printLimits_0 : decode cXB_printLimits 0 = .ok (.iconst 0, 1) := by decide +kernel
theorem dXB_printLimits_1 : decode cXB_printLimits 1 = .ok (.istore_n 3, 1) := by decide +kernel
theorem dXB_printLimits_2 : decode cXB_printLimits 2 = .ok (.iload_n 3, 1) := by decide +kernel
theorem dXB_printLimits_3 : decode cXB_printLimits 3 = .ok (.iconst 4, 1) := by decide +kernel
theorem dXB_printLimits_4 : decode cXB_printLimits 4 = .ok (.if_icmp .ge 52, 3) := by decide +kernel
theorem dXB_printLimits_7 : decode cXB_printLimits 7 = .ok (.aload_n 0, 1) := by decide +kernel
theorem dXB_printLimits_8 : decode cXB_printLimits 8 = .ok (.iload_n 1, 1) := by decide +kernel
theorem dXB_printLimits_9 : decode cXB_printLimits 9 = .ok (.iload_n 3, 1) := by decide +kernel
theorem dXB_printLimits_10 : decode cXB_printLimits 10 = .ok (.invokevirtual 67, 3) := by decide +kernel
theorem dXB_printLimits_13 : decode cXB_printLimits 13 = .ok (.ifCond .eq 37, 3) := by decide +kernel
theorem dXB_printLimits_16 : decode cXB_printLimits 16 = .ok (.aload_n 2, 1) := by decide +kernel
theorem dXB_printLimits_17 : decode cXB_printLimits 17 = .ok (.bipush 113, 2) := by decide +kernel
theorem dXB_printLimits_19 : decode cXB_printLimits 19 = .ok (.invokevirtual 90, 3) := by decide +kernel
theorem dXB_printLimits_22 : decode cXB_printLimits 22 = .ok (.aload_n 2, 1) := by decide +kernel
theorem dXB_printLimits_23 : decode cXB_printLimits 23 = .ok (.bipush 48, 2) := by decide +kernel
theorem dXB_printLimits_25 : decode cXB_printLimits 25 = .ok (.iload_n 3, 1) := by decide +kernel
theorem dXB_printLimits_26 : decode cXB_printLimits 26 = .ok (.iadd, 1) := by decide +kernel
theorem dXB_printLimits_27 : decode cXB_printLimits 27 = .ok (.invokevirtual 90, 3) := by decide +kernel
theorem dXB_printLimits_30 : decode cXB_printLimits 30 = .ok (.aload_n 2, 1) := by decide +kernel
theorem dXB_printLimits_31 : decode cXB_printLimits 31 = .ok (.bipush 60, 2) := by decide +kernel
theorem dXB_printLimits_33 : decode cXB_printLimits 33 = .ok (.invokevirtual 90, 3) := by decide +kernel
theorem dXB_printLimits_36 : decode cXB_printLimits 36 = .ok (.aload_n 2, 1) := by decide +kernel
theorem dXB_printLimits_37 : decode cXB_printLimits 37 = .ok (.aload_n 0, 1) := by decide +kernel
theorem dXB_printLimits_38 : decode cXB_printLimits 38 = .ok (.getfield 24, 3) := by decide +kernel
theorem dXB_printLimits_41 : decode cXB_printLimits 41 = .ok (.iload_n 1, 1) := by decide +kernel
theorem dXB_printLimits_42 : decode cXB_printLimits 42 = .ok (.iconst 4, 1) := by decide +kernel
theorem dXB_printLimits_43 : decode cXB_printLimits 43 = .ok (.imul, 1) := by decide +kernel
theorem dXB_printLimits_44 : decode cXB_printLimits 44 = .ok (.iload_n 3, 1) := by decide +kernel
theorem dXB_printLimits_45 : decode cXB_printLimits 45 = .ok (.iadd, 1) := by decide +kernel
theorem dXB_printLimits_46 : decode cXB_printLimits 46 = .ok (.iaload, 1) := by decide +kernel
theorem dXB_printLimits_47 : decode cXB_printLimits 47 = .ok (.invokevirtual 96, 3) := by decide +kernel
theorem dXB_printLimits_50 : decode cXB_printLimits 50 = .ok (.iinc 3 1, 3) := by decide +kernel
theorem dXB_printLimits_53 : decode cXB_printLimits 53 = .ok (.goto (-51), 3) := by decide +kernel
theorem dXB_printLimits_56 : decode cXB_printLimits 56 = .ok (.return_, 1) := by decide +kernel
theorem dXP_length_0 : decode cXP_length 0 = .ok (.aload_n 0, 1) := by decide +kernel
theorem dXP_length_1 : decode cXP_length 1 = .ok (.getfield 15, 3) := by decide +kernel
theorem dXP_length_4 : decode cXP_length 4 = .ok (.ireturn, 1) := by decide +kernel
theorem dXL_at_0 : decode cXL_at 0 = .ok (.aload_n 2, 1) := by decide +kernel
theorem dXL_at_1 : decode cXL_at 1 = .ok (.iconst 0, 1) := by decide +kernel
theorem dXL_at_2 : decode cXL_at 2 = .ok (.aload_n 0, 1) := by decide +kernel
theorem dXL_at_3 : decode cXL_at 3 = .ok (.iload_n 1, 1) := by decide +kernel

