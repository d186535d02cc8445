theorem dXL_at_4 : decode cXL_at 4 = .ok (.invokevirtual 61, 3) := by decide +kernel
theorem dXL_at_7 : decode cXL_at 7 = .ok (.i2l, 1) := by decide +kernel
theorem dXL_at_8 : decode cXL_at 8 = .ok (.lastore, 1) := by decide +kernel
theorem dXL_at_9 : decode cXL_at 9 = .ok (.goto 6, 3) := by decide +kernel
theorem dXL_at_12 : decode cXL_at 12 = .ok (.astore_n 3, 1) := by decide +kernel
theorem dXL_at_13 : decode cXL_at 13 = .ok (.iconst 1, 1) := by decide +kernel
theorem dXL_at_14 : decode cXL_at 14 = .ok (.ireturn, 1) := by decide +kernel
theorem dXL_at_15 : decode cXL_at 15 = .ok (.iconst 0, 1) := by decide +kernel
theorem dXL_at_16 : decode cXL_at 16 = .ok (.ireturn, 1) := by decide +kernel
theorem dXG_at_0 : decode cXG_at 0 = .ok (.iload_n 1, 1) := by decide +kernel
theorem dXG_at_1 : decode cXG_at 1 = .ok (.invokestatic 127, 3) := by decide +kernel
theorem dXG_at_4 : decode cXG_at 4 = .ok (.aload_n 0, 1) := by decide +kernel
theorem dXG_at_5 : decode cXG_at 5 = .ok (.getfield 28, 3) := by decide +kernel
theorem dXG_at_8 : decode cXG_at 8 = .ok (.iload_n 1, 1) := by decide +kernel
theorem dXG_at_9 : decode cXG_at 9 = .ok (.invokevirtual 151, 3) := by decide +kernel
theorem dXG_at_12 : decode cXG_at 12 = .ok (.ireturn, 1) := by decide +kernel
theorem dXP_byteAt_0 : decode cXP_byteAt 0 = .ok (.iload_n 1, 1) := by decide +kernel
theorem dXP_byteAt_1 : decode cXP_byteAt 1 = .ok (.ifCond .lt 20, 3) := by decide +kernel
theorem dXP_byteAt_4 : decode cXP_byteAt 4 = .ok (.iload_n 1, 1) := by decide +kernel
theorem dXP_byteAt_5 : decode cXP_byteAt 5 = .ok (.aload_n 0, 1) := by decide +kernel
theorem dXP_byteAt_6 : decode cXP_byteAt 6 = .ok (.getfield 15, 3) := by decide +kernel
theorem dXP_byteAt_9 : decode cXP_byteAt 9 = .ok (.if_icmp .ge 12, 3) := by decide +kernel
theorem dXP_byteAt_12 : decode cXP_byteAt 12 = .ok (.aload_n 0, 1) := by decide +kernel
theorem dXP_byteAt_13 : decode cXP_byteAt 13 = .ok (.getfield 9, 3) := by decide +kernel
theorem dXP_byteAt_16 : decode cXP_byteAt 16 = .ok (.iload_n 1, 1) := by decide +kernel
theorem dXP_byteAt_17 : decode cXP_byteAt 17 = .ok (.iaload, 1) := by decide +kernel
theorem dXP_byteAt_18 : decode cXP_byteAt 18 = .ok (.goto 4, 3) := by decide +kernel
theorem dXP_byteAt_21 : decode cXP_byteAt 21 = .ok (.iconst (-1), 1) := by decide +kernel
theorem dXP_byteAt_22 : decode cXP_byteAt 22 = .ok (.ireturn, 1) := by decide +kernel
theorem dXM_init_0 : decode cXM_init 0 = .ok (.aload_n 0, 1) := by decide +kernel
theorem dXM_init_1 : decode cXM_init 1 = .ok (.invokespecial 1, 3) := by decide +kernel
theorem dXM_init_4 : decode cXM_init 4 = .ok (.aload_n 0, 1) := by decide +kernel
theorem dXM_init_5 : decode cXM_init 5 = .ok (.sipush 400, 3) := by decide +kernel
theorem dXM_init_8 : decode cXM_init 8 = .ok (.newarray .int, 2) := by decide +kernel
theorem dXM_init_10 : decode cXM_init 10 = .ok (.putfield 7, 3) := by decide +kernel
theorem dXM_init_13 : decode cXM_init 13 = .ok (.aload_n 0, 1) := by decide +kernel
theorem dXM_init_14 : decode cXM_init 14 = .ok (.bipush 62, 2) := by decide +kernel
theorem dXM_init_16 : decode cXM_init 16 = .ok (.newarray .boolean, 2) := by decide +kernel
theorem dXM_init_18 : decode cXM_init 18 = .ok (.putfield 13, 3) := by decide +kernel
theorem dXM_init_21 : decode cXM_init 21 = .ok (.aload_n 0, 1) := by decide +kernel
theorem dXM_init_22 : decode cXM_init 22 = .ok (.bipush 62, 2) := by decide +kernel
theorem dXM_init_24 : decode cXM_init 24 = .ok (.newarray .int, 2) := by decide +kernel
theorem dXM_init_26 : decode cXM_init 26 = .ok (.putfield 17, 3) := by decide +kernel
theorem dXM_init_29 : decode cXM_init 29 = .ok (.aload_n 0, 1) := by decide +kernel
theorem dXM_init_30 : decode cXM_init 30 = .ok (.sipush 496, 3) := by decide +kernel
theorem dXM_init_33 : decode cXM_init 33 = .ok (.newarray .boolean, 2) := by decide +kernel
theorem dXM_init_35 : decode cXM_init 35 = .ok (.putfield 20, 3) := by decide +kernel
theorem dXM_init_38 : decode cXM_init 38 = .ok (.aload_n 0, 1) := by decide +kernel
theorem dXM_init_39 : decode cXM_init 39 = .ok (.sipush 496, 3) := by decide +kernel
theorem dXM_init_42 : decode cXM_init 42 = .ok (.newarray .int, 2) := by decide +kernel
theorem dXM_init_44 : decode cXM_init 44 = .ok (.putfield 23, 3) := by decide +kernel
theorem dXM_init_47 : decode cXM_init 47 = .ok (.aload_n 0, 1) := by decide +kernel
theorem dXM_init_48 : decode cXM_init 48 = .ok (.sipush 496, 3) := by decide +kernel
theorem dXM_init_51 : decode cXM_init 51 = .ok (.newarray .int, 2) := by decide +kernel
theorem dXM_init_53 : decode cXM_init 53 = .ok (.putfield 26, 3) := by decide +kernel
theorem dXM_init_56 : decode cXM_init 56 = .ok (.aload_n 0, 1) := by decide +kernel
theorem dXM_init_57 : decode cXM_init 57 = .ok (.bipush 62, 2) := by decide +kernel
theorem dXM_init_59 : decode cXM_init 59 = .ok (.newarray .int, 2) := by decide +kernel
theorem dXM_init_61 : decode cXM_init 61 = .ok (.putfield 29, 3) := by decide +kernel
theorem dXM_init_64 : decode cXM_init 64 = .ok (.aload_n 0, 1) := by decide +kernel
theorem dXM_init_65 : decode cXM_init 65 = .ok (.sipush 248, 3) := by decide +kernel
theorem dXM_init_68 : decode cXM_init 68 = .ok (.newarray .int, 2) := by decide +kernel
theorem dXM_init_70 : decode cXM_init 70 = .ok (.putfield 32, 3) := by decide +kernel
theorem dXM_init_73 : decode cXM_init 73 = .ok (.aload_n 0, 1) := by decide +kernel
theorem dXM_init_74 : decode cXM_init 74 = .ok (.bipush 8, 2) := by decide +kernel
theorem dXM_init_76 : decode cXM_init 76 = .ok (.newarray .boolean, 2) := by decide +kernel
theorem dXM_init_78 : decode cXM_init 78 = .ok (.putfield 35, 3) := by decide +kernel
theorem dXM_init_81 : decode cXM_init 81 = .ok (.aload_n 0, 1) := by decide +kernel
theorem dXM_init_82 : decode cXM_init 82 = .ok (.bipush 64, 2) := by decide +kernel
theorem dXM_init_84 : decode cXM_init 84 = .ok (.newarray .int, 2) := by decide +kernel
theorem dXM_init_86 : decode cXM_init 86 = .ok (.putfield 38, 3) := by decide +kernel
theorem dXM_init_89 : decode cXM_init 89 = .ok (.aload_n 0, 1) := by decide +kernel
theorem dXM_init_90 : decode cXM_init 90 = .ok (.bipush 8, 2) := by decide +kernel
theorem dXM_init_92 : decode cXM_init 92 = .ok (.newarray .int, 2) := by decide +kernel
theorem dXM_init_94 : decode cXM_init 94 = .ok (.putfield 41, 3) := by decide +kernel
theorem dXM_init_97 : decode cXM_init 97 = .ok (.aload_n 0, 1) := by decide +kernel
theorem dXM_init_98 : decode cXM_init 98 = .ok (.sipush 300, 3) := by decide +kernel
theorem dXM_init_101 : decode cXM_init 101 = .ok (.newarray .int, 2) := by decide +kernel
theorem dXM_init_103 : decode cXM_init 103 = .ok (.putfield 44, 3) := by decide +kernel
theorem dXM_init_106 : decode cXM_init 106 = .ok (.iconst 0, 1) := by decide +kernel
theorem dXM_init_107 : decode cXM_init 107 = .ok (.istore_n 1, 1) := by decide +kernel
theorem dXM_init_108 : decode cXM_init 108 = .ok (.iload_n 1, 1) := by decide +kernel
theorem dXM_init_109 : decode cXM_init 109 = .ok (.sipush 248, 3) := by decide +kernel
theorem dXM_init_112 : decode cXM_init 112 = .ok (.if_icmp .ge 16, 3) := by decide +kernel
theorem dXM_init_115 : decode cXM_init 115 = .ok (.aload_n 0, 1) := by decide +kernel
theorem dXM_init_116 : decode cXM_init 116 = .ok (.getfield 32, 3) := by decide +kernel
theorem dXM_init_119 : decode cXM_init 119 = .ok (.iload_n 1, 1) := by decide +kernel
theorem dXM_init_120 : decode cXM_init 120 = .ok (.iconst (-1), 1) := by decide +kernel
theorem dXM_init_121 : decode cXM_init 121 = .ok (.iastore, 1) := by decide +kernel
theorem dXM_init_122 : decode cXM_init 122 = .ok (.iinc 1 1, 3) := by decide +kernel
theorem dXM_init_125 : decode cXM_init 125 = .ok (.goto (-17), 3) := by decide +kernel
theorem dXM_init_128 : decode cXM_init 128 = .ok (.return_, 1) := by decide +kernel
theorem dXM_thrown_0 : decode cXM_thrown 0 = .ok (.aload_n 0, 1) := by decide +kernel
theorem dXM_thrown_1 : decode cXM_thrown 1 = .ok (.getfield 47, 3) := by decide +kernel
theorem dXM_thrown_4 : decode cXM_thrown 4 = .ok (.ireturn, 1) := by decide +kernel
theorem dXM_sign_0 : decode cXM_sign 0 = .ok (.aload_n 0, 1) := by decide +kernel
theorem dXM_sign_1 : decode cXM_sign 1 = .ok (.iload_n 3, 1) := by decide +kernel
theorem dXM_sign_2 : decode cXM_sign 2 = .ok (.iconst 1, 1) := by decide +kernel
theorem dXM_sign_3 : decode cXM_sign 3 = .ok (.bipush 8, 2) := by decide +kernel
theorem dXM_sign_5 : decode cXM_sign 5 = .ok (.invokestatic 51, 3) := by decide +kernel
theorem dXM_sign_8 : decode cXM_sign 8 = .ok (.aload_n 0, 1) := by decide +kernel
theorem dXM_sign_9 : decode cXM_sign 9 = .ok (.getfield 55, 3) := by decide +kernel
theorem dXM_sign_12 : decode cXM_sign 12 = .ok (.iload_n 3, 1) := by decide +kernel
theorem dXM_sign_13 : decode cXM_sign 13 = .ok (.iadd, 1) := by decide +kernel
theorem dXM_sign_14 : decode cXM_sign 14 = .ok (.sipush 400, 3) := by decide +kernel
theorem dXM_sign_17 : decode cXM_sign 17 = .ok (.if_icmp .gt 7, 3) := by decide +kernel
theorem dXM_sign_20 : decode cXM_sign 20 = .ok (.iconst 1, 1) := by decide +kernel
theorem dXM_sign_21 : decode cXM_sign 21 = .ok (.goto 4, 3) := by decide +kernel
theorem dXM_sign_24 : decode cXM_sign 24 = .ok (.iconst 0, 1) := by decide +kernel
theorem dXM_sign_25 : decode cXM_sign 25 = .ok (.invokevirtual 58, 3) := by decide +kernel
theorem dXM_sign_28 : decode cXM_sign 28 = .ok (.ifCond .ne 5, 3) := by decide +kernel
theorem dXM_sign_31 : decode cXM_sign 31 = .ok (.iconst 0, 1) := by decide +kernel
theorem dXM_sign_32 : decode cXM_sign 32 = .ok (.ireturn, 1) := by decide +kernel
theorem dXM_sign_33 : decode cXM_sign 33 = .ok (.iload_n 3, 1) := by decide +kernel
theorem dXM_sign_34 : decode cXM_sign 34 = .ok (.iconst 1, 1) := by decide +kernel
theorem dXM_sign_35 : decode cXM_sign 35 = .ok (.isub, 1) := by decide +kernel
theorem dXM_sign_36 : decode cXM_sign 36 = .ok (.istore 4, 2) := by decide +kernel
theorem dXM_sign_38 : decode cXM_sign 38 = .ok (.iload 4, 2) := by decide +kernel
theorem dXM_sign_40 : decode cXM_sign 40 = .ok (.ifCond .lt 40, 3) := by decide +kernel
theorem dXM_sign_43 : decode cXM_sign 43 = .ok (.aload_n 0, 1) := by decide +kernel
theorem dXM_sign_44 : decode cXM_sign 44 = .ok (.getfield 7, 3) := by decide +kernel
theorem dXM_sign_47 : decode cXM_sign 47 = .ok (.aload_n 0, 1) := by decide +kernel
theorem dXM_sign_48 : decode cXM_sign 48 = .ok (.getfield 55, 3) := by decide +kernel
theorem dXM_sign_51 : decode cXM_sign 51 = .ok (.lload_n 1, 1) := by decide +kernel
theorem dXM_sign_52 : decode cXM_sign 52 = .ok (.bipush 8, 2) := by decide +kernel
theorem dXM_sign_54 : decode cXM_sign 54 = .ok (.iload 4, 2) := by decide +kernel
theorem dXM_sign_56 : decode cXM_sign 56 = .ok (.imul, 1) := by decide +kernel
theorem dXM_sign_57 : decode cXM_sign 57 = .ok (.lshr, 1) := by decide +kernel
theorem dXM_sign_58 : decode cXM_sign 58 = .ok (.l2i, 1) := by decide +kernel
theorem dXM_sign_59 : decode cXM_sign 59 = .ok (.sipush 255, 3) := by decide +kernel
theorem dXM_sign_62 : decode cXM_sign 62 = .ok (.iand, 1) := by decide +kernel
theorem dXM_sign_63 : decode cXM_sign 63 = .ok (.iastore, 1) := by decide +kernel
theorem dXM_sign_64 : decode cXM_sign 64 = .ok (.aload_n 0, 1) := by decide +kernel
theorem dXM_sign_65 : decode cXM_sign 65 = .ok (.dup, 1) := by decide +kernel
theorem dXM_sign_66 : decode cXM_sign 66 = .ok (.getfield 55, 3) := by decide +kernel
theorem dXM_sign_69 : decode cXM_sign 69 = .ok (.iconst 1, 1) := by decide +kernel
theorem dXM_sign_70 : decode cXM_sign 70 = .ok (.iadd, 1) := by decide +kernel
theorem dXM_sign_71 : decode cXM_sign 71 = .ok (.putfield 55, 3) := by decide +kernel
theorem dXM_sign_74 : decode cXM_sign 74 = .ok (.iinc 4 (-1), 3) := by decide +kernel
theorem dXM_sign_77 : decode cXM_sign 77 = .ok (.goto (-39), 3) := by decide +kernel
theorem dXM_sign_80 : decode cXM_sign 80 = .ok (.aload_n 0, 1) := by decide +kernel
theorem dXM_sign_81 : decode cXM_sign 81 = .ok (.getfield 55, 3) := by decide +kernel
theorem dXM_sign_84 : decode cXM_sign 84 = .ok (.ireturn, 1) := by decide +kernel
theorem dXM_in_0 : decode cXM_in 0 = .ok (.iload_n 0, 1) := by decide +kernel
theorem dXM_in_1 : decode cXM_in 1 = .ok (.iload_n 1, 1) := by decide +kernel
theorem dXM_in_2 : decode cXM_in 2 = .ok (.if_icmp .lt 12, 3) := by decide +kernel
theorem dXM_in_5 : decode cXM_in 5 = .ok (.iload_n 0, 1) := by decide +kernel
theorem dXM_in_6 : decode cXM_in 6 = .ok (.iload_n 2, 1) := by decide +kernel
theorem dXM_in_7 : decode cXM_in 7 = .ok (.if_icmp .gt 7, 3) := by decide +kernel
theorem dXM_in_10 : decode cXM_in 10 = .ok (.iconst 1, 1) := by decide +kernel
theorem dXM_in_11 : decode cXM_in 11 = .ok (.goto 4, 3) := by decide +kernel
theorem dXM_in_14 : decode cXM_in 14 = .ok (.iconst 0, 1) := by decide +kernel
theorem dXM_in_15 : decode cXM_in 15 = .ok (.ireturn, 1) := by decide +kernel
theorem dXM_goes_0 : decode cXM_goes 0 = .ok (.aload_n 0, 1) := by decide +kernel
theorem dXM_goes_1 : decode cXM_goes 1 = .ok (.iload_n 1, 1) := by decide +kernel
theorem dXM_goes_2 : decode cXM_goes 2 = .ok (.ifCond .ne 7, 3) := by decide +kernel
theorem dXM_goes_5 : decode cXM_goes 5 = .ok (.iconst 1, 1) := by decide +kernel
theorem dXM_goes_6 : decode cXM_goes 6 = .ok (.goto 12, 3) := by decide +kernel
theorem dXM_goes_9 : decode cXM_goes 9 = .ok (.iload_n 2, 1) := by decide +kernel
theorem dXM_goes_10 : decode cXM_goes 10 = .ok (.ifCond .ne 7, 3) := by decide +kernel
theorem dXM_goes_13 : decode cXM_goes 13 = .ok (.iconst 2, 1) := by decide +kernel
theorem dXM_goes_14 : decode cXM_goes 14 = .ok (.goto 4, 3) := by decide +kernel
theorem dXM_goes_17 : decode cXM_goes 17 = .ok (.iconst 0, 1) := by decide +kernel
theorem dXM_goes_18 : decode cXM_goes 18 = .ok (.putfield 47, 3) := by decide +kernel
theorem dXM_goes_21 : decode cXM_goes 21 = .ok (.aload_n 0, 1) := by decide +kernel
theorem dXM_goes_22 : decode cXM_goes 22 = .ok (.getfield 47, 3) := by decide +kernel
theorem dXM_goes_25 : decode cXM_goes 25 = .ok (.ifCond .ne 7, 3) := by decide +kernel
theorem dXM_goes_28 : decode cXM_goes 28 = .ok (.iconst 1, 1) := by decide +kernel
theorem dXM_goes_29 : decode cXM_goes 29 = .ok (.goto 4, 3) := by decide +kernel
theorem dXM_goes_32 : decode cXM_goes 32 = .ok (.iconst 0, 1) := by decide +kernel
theorem dXM_goes_33 : decode cXM_goes 33 = .ok (.ireturn, 1) := by decide +kernel
theorem dXM_read_0 : decode cXM_read 0 = .ok (.aload_n 0, 1) := by decide +kernel
theorem dXM_read_1 : decode cXM_read 1 = .ok (.iconst 0, 1) := by decide +kernel
theorem dXM_read_2 : decode cXM_read 2 = .ok (.putfield 47, 3) := by decide +kernel
theorem dXM_read_5 : decode cXM_read 5 = .ok (.aload_n 0, 1) := by decide +kernel
theorem dXM_read_6 : decode cXM_read 6 = .ok (.iconst 1, 1) := by decide +kernel
theorem dXM_read_7 : decode cXM_read 7 = .ok (.invokevirtual 106, 3) := by decide +kernel
theorem dXM_read_10 : decode cXM_read 10 = .ok (.aload_n 0, 1) := by decide +kernel
theorem dXM_read_11 : decode cXM_read 11 = .ok (.iconst 0, 1) := by decide +kernel
theorem dXM_read_12 : decode cXM_read 12 = .ok (.putfield 62, 3) := by decide +kernel
theorem dXM_read_15 : decode cXM_read 15 = .ok (.aload_n 0, 1) := by decide +kernel
theorem dXM_read_16 : decode cXM_read 16 = .ok (.iconst (-1), 1) := by decide +kernel
theorem dXM_read_17 : decode cXM_read 17 = .ok (.putfield 69, 3) := by decide +kernel
theorem dXM_read_20 : decode cXM_read 20 = .ok (.aload_n 0, 1) := by decide +kernel
theorem dXM_read_21 : decode cXM_read 21 = .ok (.getfield 69, 3) := by decide +kernel
theorem dXM_read_24 : decode cXM_read 24 = .ok (.ifCond .ge 53, 3) := by decide +kernel
theorem dXM_read_27 : decode cXM_read 27 = .ok (.aload_n 0, 1) := by decide +kernel
theorem dXM_read_28 : decode cXM_read 28 = .ok (.invokevirtual 72, 3) := by decide +kernel
theorem dXM_read_31 : decode cXM_read 31 = .ok (.ifCond .lt 46, 3) := by decide +kernel
theorem dXM_read_34 : decode cXM_read 34 = .ok (.aload_n 0, 1) := by decide +kernel
theorem dXM_read_35 : decode cXM_read 35 = .ok (.bipush 101, 2) := by decide +kernel
theorem dXM_read_37 : decode cXM_read 37 = .ok (.invokevirtual 94, 3) := by decide +kernel
theorem dXM_read_40 : decode cXM_read 40 = .ok (.ifCond .eq 10, 3) := by decide +kernel
theorem dXM_read_43 : decode cXM_read 43 = .ok (.aload_n 0, 1) := by decide +kernel
theorem dXM_read_44 : decode cXM_read 44 = .ok (.invokevirtual 109, 3) := by decide +kernel
theorem dXM_read_47 : decode cXM_read 47 = .ok (.goto (-27), 3) := by decide +kernel
theorem dXM_read_50 : decode cXM_read 50 = .ok (.aload_n 0, 1) := by decide +kernel
theorem dXM_read_51 : decode cXM_read 51 = .ok (.bipush 103, 2) := by decide +kernel
theorem dXM_read_53 : decode cXM_read 53 = .ok (.invokevirtual 94, 3) := by decide +kernel
theorem dXM_read_56 : decode cXM_read 56 = .ok (.ifCond .eq 10, 3) := by decide +kernel
theorem dXM_read_59 : decode cXM_read 59 = .ok (.aload_n 0, 1) := by decide +kernel
theorem dXM_read_60 : decode cXM_read 60 = .ok (.invokevirtual 112, 3) := by decide +kernel
theorem dXM_read_63 : decode cXM_read 63 = .ok (.goto (-43), 3) := by decide +kernel
theorem dXM_read_66 : decode cXM_read 66 = .ok (.aload_n 0, 1) := by decide +kernel
theorem dXM_read_67 : decode cXM_read 67 = .ok (.aload_n 0, 1) := by decide +kernel
theorem dXM_read_68 : decode cXM_read 68 = .ok (.getfield 62, 3) := by decide +kernel
theorem dXM_read_71 : decode cXM_read 71 = .ok (.invokevirtual 75, 3) := by decide +kernel
theorem dXM_read_74 : decode cXM_read 74 = .ok (.goto (-54), 3) := by decide +kernel
theorem dXM_read_77 : decode cXM_read 77 = .ok (.aload_n 0, 1) := by decide +kernel
theorem dXM_read_78 : decode cXM_read 78 = .ok (.iconst 0, 1) := by decide +kernel
theorem dXM_read_79 : decode cXM_read 79 = .ok (.putfield 55, 3) := by decide +kernel
theorem dXM_read_82 : decode cXM_read 82 = .ok (.aload_n 0, 1) := by decide +kernel
theorem dXM_read_83 : decode cXM_read 83 = .ok (.getfield 69, 3) := by decide +kernel
theorem dXM_read_86 : decode cXM_read 86 = .ok (.ifCond .lt 10, 3) := by decide +kernel
theorem dXM_read_89 : decode cXM_read 89 = .ok (.iconst (-1), 1) := by decide +kernel
theorem dXM_read_90 : decode cXM_read 90 = .ok (.aload_n 0, 1) := by decide +kernel
theorem dXM_read_91 : decode cXM_read 91 = .ok (.getfield 69, 3) := by decide +kernel
theorem dXM_read_94 : decode cXM_read 94 = .ok (.isub, 1) := by decide +kernel
theorem dXM_read_95 : decode cXM_read 95 = .ok (.ireturn, 1) := by decide +kernel
theorem dXM_read_96 : decode cXM_read 96 = .ok (.aload_n 0, 1) := by decide +kernel
theorem dXM_read_97 : decode cXM_read 97 = .ok (.invokevirtual 115, 3) := by decide +kernel
theorem dXM_read_100 : decode cXM_read 100 = .ok (.iconst 0, 1) := by decide +kernel
theorem dXM_read_101 : decode cXM_read 101 = .ok (.istore_n 1, 1) := by decide +kernel
theorem dXM_read_102 : decode cXM_read 102 = .ok (.iconst 0, 1) := by decide +kernel
theorem dXM_read_103 : decode cXM_read 103 = .ok (.istore_n 2, 1) := by decide +kernel
theorem dXM_read_104 : decode cXM_read 104 = .ok (.iload_n 2, 1) := by decide +kernel
theorem dXM_read_105 : decode cXM_read 105 = .ok (.bipush 31, 2) := by decide +kernel
theorem dXM_read_107 : decode cXM_read 107 = .ok (.if_icmp .ge 21, 3) := by decide +kernel
theorem dXM_read_110 : decode cXM_read 110 = .ok (.aload_n 0, 1) := by decide +kernel
theorem dXM_read_111 : decode cXM_read 111 = .ok (.getfield 13, 3) := by decide +kernel
theorem dXM_read_114 : decode cXM_read 114 = .ok (.iload_n 2, 1) := by decide +kernel
theorem dXM_read_115 : decode cXM_read 115 = .ok (.baload, 1) := by decide +kernel
theorem dXM_read_116 : decode cXM_read 116 = .ok (.ifCond .eq 6, 3) := by decide +kernel
theorem dXM_read_119 : decode cXM_read 119 = .ok (.iinc 1 1, 3) := by decide +kernel
theorem dXM_read_122 : decode cXM_read 122 = .ok (.iinc 2 1, 3) := by decide +kernel
theorem dXM_read_125 : decode cXM_read 125 = .ok (.goto (-21), 3) := by decide +kernel
theorem dXM_read_128 : decode cXM_read 128 = .ok (.iload_n 1, 1) := by decide +kernel
theorem dXM_read_129 : decode cXM_read 129 = .ok (.ireturn, 1) := by decide +kernel
theorem dXM_forget_0 : decode cXM_forget 0 = .ok (.bipush 31, 2) := by decide +kernel
theorem dXM_forget_2 : decode cXM_forget 2 = .ok (.iload_n 1, 1) := by decide +kernel
theorem dXM_forget_3 : decode cXM_forget 3 = .ok (.imul, 1) := by decide +kernel
theorem dXM_forget_4 : decode cXM_forget 4 = .ok (.istore_n 2, 1) := by decide +kernel
theorem dXM_forget_5 : decode cXM_forget 5 = .ok (.iload_n 2, 1) := by decide +kernel
theorem dXM_forget_6 : decode cXM_forget 6 = .ok (.bipush 31, 2) := by decide +kernel
theorem dXM_forget_8 : decode cXM_forget 8 = .ok (.iload_n 1, 1) := by decide +kernel
theorem dXM_forget_9 : decode cXM_forget 9 = .ok (.iconst 1, 1) := by decide +kernel
theorem dXM_forget_10 : decode cXM_forget 10 = .ok (.iadd, 1) := by decide +kernel
theorem dXM_forget_11 : decode cXM_forget 11 = .ok (.imul, 1) := by decide +kernel
theorem dXM_forget_12 : decode cXM_forget 12 = .ok (.if_icmp .ge 80, 3) := by decide +kernel
theorem dXM_forget_15 : decode cXM_forget 15 = .ok (.aload_n 0, 1) := by decide +kernel
theorem dXM_forget_16 : decode cXM_forget 16 = .ok (.getfield 13, 3) := by decide +kernel
theorem dXM_forget_19 : decode cXM_forget 19 = .ok (.iload_n 2, 1) := by decide +kernel
theorem dXM_forget_20 : decode cXM_forget 20 = .ok (.iconst 0, 1) := by decide +kernel
theorem dXM_forget_21 : decode cXM_forget 21 = .ok (.bastore, 1) := by decide +kernel
theorem dXM_forget_22 : decode cXM_forget 22 = .ok (.aload_n 0, 1) := by decide +kernel
theorem dXM_forget_23 : decode cXM_forget 23 = .ok (.getfield 17, 3) := by decide +kernel
theorem dXM_forget_26 : decode cXM_forget 26 = .ok (.iload_n 2, 1) := by decide +kernel
theorem dXM_forget_27 : decode cXM_forget 27 = .ok (.iconst 0, 1) := by decide +kernel
theorem dXM_forget_28 : decode cXM_forget 28 = .ok (.iastore, 1) := by decide +kernel
theorem dXM_forget_29 : decode cXM_forget 29 = .ok (.aload_n 0, 1) := by decide +kernel
theorem dXM_forget_30 : decode cXM_forget 30 = .ok (.getfield 29, 3) := by decide +kernel
theorem dXM_forget_33 : decode cXM_forget 33 = .ok (.iload_n 2, 1) := by decide +kernel
theorem dXM_forget_34 : decode cXM_forget 34 = .ok (.iconst 0, 1) := by decide +kernel
theorem dXM_forget_35 : decode cXM_forget 35 = .ok (.iastore, 1) := by decide +kernel
theorem dXM_forget_36 : decode cXM_forget 36 = .ok (.iconst 0, 1) := by decide +kernel
theorem dXM_forget_37 : decode cXM_forget 37 = .ok (.istore_n 3, 1) := by decide +kernel
theorem dXM_forget_38 : decode cXM_forget 38 = .ok (.iload_n 3, 1) := by decide +kernel
theorem dXM_forget_39 : decode cXM_forget 39 = .ok (.bipush 8, 2) := by decide +kernel
theorem dXM_forget_41 : decode cXM_forget 41 = .ok (.if_icmp .ge 21, 3) := by decide +kernel
theorem dXM_forget_44 : decode cXM_forget 44 = .ok (.aload_n 0, 1) := by decide +kernel
theorem dXM_forget_45 : decode cXM_forget 45 = .ok (.getfield 20, 3) := by decide +kernel
theorem dXM_forget_48 : decode cXM_forget 48 = .ok (.bipush 8, 2) := by decide +kernel
theorem dXM_forget_50 : decode cXM_forget 50 = .ok (.iload_n 2, 1) := by decide +kernel
theorem dXM_forget_51 : decode cXM_forget 51 = .ok (.imul, 1) := by decide +kernel
theorem dXM_forget_52 : decode cXM_forget 52 = .ok (.iload_n 3, 1) := by decide +kernel
theorem dXM_forget_53 : decode cXM_forget 53 = .ok (.iadd, 1) := by decide +kernel
theorem dXM_forget_54 : decode cXM_forget 54 = .ok (.iconst 0, 1) := by decide +kernel
theorem dXM_forget_55 : decode cXM_forget 55 = .ok (.bastore, 1) := by decide +kernel
theorem dXM_forget_56 : decode cXM_forget 56 = .ok (.iinc 3 1, 3) := by decide +kernel
theorem dXM_forget_59 : decode cXM_forget 59 = .ok (.goto (-21), 3) := by decide +kernel
theorem dXM_forget_62 : decode cXM_forget 62 = .ok (.iconst 0, 1) := by decide +kernel
theorem dXM_forget_63 : decode cXM_forget 63 = .ok (.istore_n 3, 1) := by decide +kernel
theorem dXM_forget_64 : decode cXM_forget 64 = .ok (.iload_n 3, 1) := by decide +kernel
theorem dXM_forget_65 : decode cXM_forget 65 = .ok (.iconst 4, 1) := by decide +kernel
theorem dXM_forget_66 : decode cXM_forget 66 = .ok (.if_icmp .ge 20, 3) := by decide +kernel
theorem dXM_forget_69 : decode cXM_forget 69 = .ok (.aload_n 0, 1) := by decide +kernel
theorem dXM_forget_70 : decode cXM_forget 70 = .ok (.getfield 32, 3) := by decide +kernel
theorem dXM_forget_73 : decode cXM_forget 73 = .ok (.iconst 4, 1) := by decide +kernel
theorem dXM_forget_74 : decode cXM_forget 74 = .ok (.iload_n 2, 1) := by decide +kernel
theorem dXM_forget_75 : decode cXM_forget 75 = .ok (.imul, 1) := by decide +kernel
theorem dXM_forget_76 : decode cXM_forget 76 = .ok (.iload_n 3, 1) := by decide +kernel
theorem dXM_forget_77 : decode cXM_forget 77 = .ok (.iadd, 1) := by decide +kernel
theorem dXM_forget_78 : decode cXM_forget 78 = .ok (.iconst (-1), 1) := by decide +kernel
theorem dXM_forget_79 : decode cXM_forget 79 = .ok (.iastore, 1) := by decide +kernel
theorem dXM_forget_80 : decode cXM_forget 80 = .ok (.iinc 3 1, 3) := by decide +kernel
theorem dXM_forget_83 : decode cXM_forget 83 = .ok (.goto (-19), 3) := by decide +kernel
theorem dXM_forget_86 : decode cXM_forget 86 = .ok (.iinc 2 1, 3) := by decide +kernel
theorem dXM_forget_89 : decode cXM_forget 89 = .ok (.goto (-84), 3) := by decide +kernel
theorem dXM_forget_92 : decode cXM_forget 92 = .ok (.iconst 4, 1) := by decide +kernel
theorem dXM_forget_93 : decode cXM_forget 93 = .ok (.iload_n 1, 1) := by decide +kernel
theorem dXM_forget_94 : decode cXM_forget 94 = .ok (.imul, 1) := by decide +kernel
theorem dXM_forget_95 : decode cXM_forget 95 = .ok (.istore_n 2, 1) := by decide +kernel
theorem dXM_forget_96 : decode cXM_forget 96 = .ok (.iload_n 2, 1) := by decide +kernel
theorem dXM_forget_97 : decode cXM_forget 97 = .ok (.iconst 4, 1) := by decide +kernel
theorem dXM_forget_98 : decode cXM_forget 98 = .ok (.iload_n 1, 1) := by decide +kernel
theorem dXM_forget_99 : decode cXM_forget 99 = .ok (.iconst 1, 1) := by decide +kernel
theorem dXM_forget_100 : decode cXM_forget 100 = .ok (.iadd, 1) := by decide +kernel
theorem dXM_forget_101 : decode cXM_forget 101 = .ok (.imul, 1) := by decide +kernel
theorem dXM_forget_102 : decode cXM_forget 102 = .ok (.if_icmp .ge 42, 3) := by decide +kernel
theorem dXM_forget_105 : decode cXM_forget 105 = .ok (.aload_n 0, 1) := by decide +kernel
theorem dXM_forget_106 : decode cXM_forget 106 = .ok (.getfield 35, 3) := by decide +kernel
theorem dXM_forget_109 : decode cXM_forget 109 = .ok (.iload_n 2, 1) := by decide +kernel
theorem dXM_forget_110 : decode cXM_forget 110 = .ok (.iconst 0, 1) := by decide +kernel
theorem dXM_forget_111 : decode cXM_forget 111 = .ok (.bastore, 1) := by decide +kernel
theorem dXM_forget_112 : decode cXM_forget 112 = .ok (.iconst 0, 1) := by decide +kernel
theorem dXM_forget_113 : decode cXM_forget 113 = .ok (.istore_n 3, 1) := by decide +kernel
theorem dXM_forget_114 : decode cXM_forget 114 = .ok (.iload_n 3, 1) := by decide +kernel
theorem dXM_forget_115 : decode cXM_forget 115 = .ok (.bipush 8, 2) := by decide +kernel
theorem dXM_forget_117 : decode cXM_forget 117 = .ok (.if_icmp .ge 21, 3) := by decide +kernel
theorem dXM_forget_120 : decode cXM_forget 120 = .ok (.aload_n 0, 1) := by decide +kernel
theorem dXM_forget_121 : decode cXM_forget 121 = .ok (.getfield 38, 3) := by decide +kernel
theorem dXM_forget_124 : decode cXM_forget 124 = .ok (.bipush 8, 2) := by decide +kernel
theorem dXM_forget_126 : decode cXM_forget 126 = .ok (.iload_n 2, 1) := by decide +kernel
theorem dXM_forget_127 : decode cXM_forget 127 = .ok (.imul, 1) := by decide +kernel
theorem dXM_forget_128 : decode cXM_forget 128 = .ok (.iload_n 3, 1) := by decide +kernel
theorem dXM_forget_129 : decode cXM_forget 129 = .ok (.iadd, 1) := by decide +kernel
theorem dXM_forget_130 : decode cXM_forget 130 = .ok (.iconst 0, 1) := by decide +kernel
theorem dXM_forget_131 : decode cXM_forget 131 = .ok (.iastore, 1) := by decide +kernel
theorem dXM_forget_132 : decode cXM_forget 132 = .ok (.iinc 3 1, 3) := by decide +kernel
theorem dXM_forget_135 : decode cXM_forget 135 = .ok (.goto (-21), 3) := by decide +kernel
theorem dXM_forget_138 : decode cXM_forget 138 = .ok (.iinc 2 1, 3) := by decide +kernel
theorem dXM_forget_141 : decode cXM_forget 141 = .ok (.goto (-45), 3) := by decide +kernel
theorem dXM_forget_144 : decode cXM_forget 144 = .ok (.return_, 1) := by decide +kernel
theorem dXM_see_0 : decode cXM_see 0 = .ok (.aload_n 0, 1) := by decide +kernel
theorem dXM_see_1 : decode cXM_see 1 = .ok (.invokevirtual 65, 3) := by decide +kernel
theorem dXM_see_4 : decode cXM_see 4 = .ok (.bipush 32, 2) := by decide +kernel
theorem dXM_see_6 : decode cXM_see 6 = .ok (.if_icmp .ne 16, 3) := by decide +kernel
theorem dXM_see_9 : decode cXM_see 9 = .ok (.aload_n 0, 1) := by decide +kernel
theorem dXM_see_10 : decode cXM_see 10 = .ok (.dup, 1) := by decide +kernel
theorem dXM_see_11 : decode cXM_see 11 = .ok (.getfield 62, 3) := by decide +kernel
theorem dXM_see_14 : decode cXM_see 14 = .ok (.iconst 1, 1) := by decide +kernel
theorem dXM_see_15 : decode cXM_see 15 = .ok (.iadd, 1) := by decide +kernel
theorem dXM_see_16 : decode cXM_see 16 = .ok (.putfield 62, 3) := by decide +kernel
theorem dXM_see_19 : decode cXM_see 19 = .ok (.goto (-19), 3) := by decide +kernel
theorem dXM_see_22 : decode cXM_see 22 = .ok (.aload_n 0, 1) := by decide +kernel
theorem dXM_see_23 : decode cXM_see 23 = .ok (.invokevirtual 65, 3) := by decide +kernel
theorem dXM_see_26 : decode cXM_see 26 = .ok (.ireturn, 1) := by decide +kernel
theorem dXM_here_0 : decode cXM_here 0 = .ok (.aload_n 0, 1) := by decide +kernel
theorem dXM_here_1 : decode cXM_here 1 = .ok (.getfield 62, 3) := by decide +kernel
theorem dXM_here_4 : decode cXM_here 4 = .ok (.aload_n 0, 1) := by decide +kernel
theorem dXM_here_5 : decode cXM_here 5 = .ok (.getfield 55, 3) := by decide +kernel
theorem dXM_here_8 : decode cXM_here 8 = .ok (.if_icmp .ge 15, 3) := by decide +kernel
theorem dXM_here_11 : decode cXM_here 11 = .ok (.aload_n 0, 1) := by decide +kernel
theorem dXM_here_12 : decode cXM_here 12 = .ok (.getfield 7, 3) := by decide +kernel
theorem dXM_here_15 : decode cXM_here 15 = .ok (.aload_n 0, 1) := by decide +kernel
theorem dXM_here_16 : decode cXM_here 16 = .ok (.getfield 62, 3) := by decide +kernel
theorem dXM_here_19 : decode cXM_here 19 = .ok (.iaload, 1) := by decide +kernel
theorem dXM_here_20 : decode cXM_here 20 = .ok (.goto 4, 3) := by decide +kernel
theorem dXM_here_23 : decode cXM_here 23 = .ok (.iconst (-1), 1) := by decide +kernel
theorem dXM_here_24 : decode cXM_here 24 = .ok (.ireturn, 1) := by decide +kernel
theorem dXM_takes_0 : decode cXM_takes 0 = .ok (.aload_n 0, 1) := by decide +kernel
theorem dXM_takes_1 : decode cXM_takes 1 = .ok (.getfield 69, 3) := by decide +kernel
theorem dXM_takes_4 : decode cXM_takes 4 = .ok (.ifCond .ge 11, 3) := by decide +kernel
theorem dXM_takes_7 : decode cXM_takes 7 = .ok (.aload_n 0, 1) := by decide +kernel
theorem dXM_takes_8 : decode cXM_takes 8 = .ok (.invokevirtual 72, 3) := by decide +kernel
theorem dXM_takes_11 : decode cXM_takes 11 = .ok (.iload_n 1, 1) := by decide +kernel
theorem dXM_takes_12 : decode cXM_takes 12 = .ok (.if_icmp .eq 5, 3) := by decide +kernel
theorem dXM_takes_15 : decode cXM_takes 15 = .ok (.iconst 0, 1) := by decide +kernel
theorem dXM_takes_16 : decode cXM_takes 16 = .ok (.ireturn, 1) := by decide +kernel
theorem dXM_takes_17 : decode cXM_takes 17 = .ok (.aload_n 0, 1) := by decide +kernel
theorem dXM_takes_18 : decode cXM_takes 18 = .ok (.dup, 1) := by decide +kernel
theorem dXM_takes_19 : decode cXM_takes 19 = .ok (.getfield 62, 3) := by decide +kernel
theorem dXM_takes_22 : decode cXM_takes 22 = .ok (.iconst 1, 1) := by decide +kernel
theorem dXM_takes_23 : decode cXM_takes 23 = .ok (.iadd, 1) := by decide +kernel
theorem dXM_takes_24 : decode cXM_takes 24 = .ok (.putfield 62, 3) := by decide +kernel
theorem dXM_takes_27 : decode cXM_takes 27 = .ok (.iconst 1, 1) := by decide +kernel
theorem dXM_takes_28 : decode cXM_takes 28 = .ok (.ireturn, 1) := by decide +kernel
theorem dXM_formula_0 : decode cXM_formula 0 = .ok (.iconst 4, 1) := by decide +kernel
theorem dXM_formula_1 : decode cXM_formula 1 = .ok (.aload_n 0, 1) := by decide +kernel
theorem dXM_formula_2 : decode cXM_formula 2 = .ok (.iconst 0, 1) := by decide +kernel
theorem dXM_formula_3 : decode cXM_formula 3 = .ok (.iconst 3, 1) := by decide +kernel
theorem dXM_formula_4 : decode cXM_formula 4 = .ok (.invokevirtual 83, 3) := by decide +kernel
theorem dXM_formula_7 : decode cXM_formula 7 = .ok (.iadd, 1) := by decide +kernel
theorem dXM_formula_8 : decode cXM_formula 8 = .ok (.istore_n 1, 1) := by decide +kernel
theorem dXM_formula_9 : decode cXM_formula 9 = .ok (.aload_n 0, 1) := by decide +kernel
theorem dXM_formula_10 : decode cXM_formula 10 = .ok (.getfield 69, 3) := by decide +kernel
theorem dXM_formula_13 : decode cXM_formula 13 = .ok (.ifCond .ge 22, 3) := by decide +kernel
theorem dXM_formula_16 : decode cXM_formula 16 = .ok (.aload_n 0, 1) := by decide +kernel
theorem dXM_formula_17 : decode cXM_formula 17 = .ok (.getfield 35, 3) := by decide +kernel
theorem dXM_formula_20 : decode cXM_formula 20 = .ok (.iload_n 1, 1) := by decide +kernel
theorem dXM_formula_21 : decode cXM_formula 21 = .ok (.baload, 1) := by decide +kernel
theorem dXM_formula_22 : decode cXM_formula 22 = .ok (.ifCond .eq 13, 3) := by decide +kernel
theorem dXM_formula_25 : decode cXM_formula 25 = .ok (.aload_n 0, 1) := by decide +kernel
theorem dXM_formula_26 : decode cXM_formula 26 = .ok (.aload_n 0, 1) := by decide +kernel
theorem dXM_formula_27 : decode cXM_formula 27 = .ok (.getfield 62, 3) := by decide +kernel
theorem dXM_formula_30 : decode cXM_formula 30 = .ok (.iconst 1, 1) := by decide +kernel
theorem dXM_formula_31 : decode cXM_formula 31 = .ok (.isub, 1) := by decide +kernel
theorem dXM_formula_32 : decode cXM_formula 32 = .ok (.invokevirtual 75, 3) := by decide +kernel
theorem dXM_formula_35 : decode cXM_formula 35 = .ok (.aload_n 0, 1) := by decide +kernel
theorem dXM_formula_36 : decode cXM_formula 36 = .ok (.bipush 61, 2) := by decide +kernel
theorem dXM_formula_38 : decode cXM_formula 38 = .ok (.invokevirtual 87, 3) := by decide +kernel
theorem dXM_formula_41 : decode cXM_formula 41 = .ok (.iconst 0, 1) := by decide +kernel
theorem dXM_formula_42 : decode cXM_formula 42 = .ok (.istore_n 2, 1) := by decide +kernel
theorem dXM_formula_43 : decode cXM_formula 43 = .ok (.aload_n 0, 1) := by decide +kernel
theorem dXM_formula_44 : decode cXM_formula 44 = .ok (.getfield 69, 3) := by decide +kernel
theorem dXM_formula_47 : decode cXM_formula 47 = .ok (.ifCond .ge 7, 3) := by decide +kernel
theorem dXM_formula_50 : decode cXM_formula 50 = .ok (.iconst 1, 1) := by decide +kernel
theorem dXM_formula_51 : decode cXM_formula 51 = .ok (.goto 4, 3) := by decide +kernel
theorem dXM_formula_54 : decode cXM_formula 54 = .ok (.iconst 0, 1) := by decide +kernel
theorem dXM_formula_55 : decode cXM_formula 55 = .ok (.istore_n 3, 1) := by decide +kernel
theorem dXM_formula_56 : decode cXM_formula 56 = .ok (.iload_n 3, 1) := by decide +kernel
theorem dXM_formula_57 : decode cXM_formula 57 = .ok (.ifCond .eq 80, 3) := by decide +kernel
theorem dXM_formula_60 : decode cXM_formula 60 = .ok (.aload_n 0, 1) := by decide +kernel
theorem dXM_formula_61 : decode cXM_formula 61 = .ok (.iload_n 2, 1) := by decide +kernel
theorem dXM_formula_62 : decode cXM_formula 62 = .ok (.invokevirtual 90, 3) := by decide +kernel
theorem dXM_formula_65 : decode cXM_formula 65 = .ok (.istore 4, 2) := by decide +kernel
theorem dXM_formula_67 : decode cXM_formula 67 = .ok (.iload 4, 2) := by decide +kernel
theorem dXM_formula_69 : decode cXM_formula 69 = .ok (.ifCond .ge 11, 3) := by decide +kernel
theorem dXM_formula_72 : decode cXM_formula 72 = .ok (.aload_n 0, 1) := by decide +kernel
theorem dXM_formula_73 : decode cXM_formula 73 = .ok (.aload_n 0, 1) := by decide +kernel
theorem dXM_formula_74 : decode cXM_formula 74 = .ok (.getfield 62, 3) := by decide +kernel
theorem dXM_formula_77 : decode cXM_formula 77 = .ok (.invokevirtual 75, 3) := by decide +kernel
theorem dXM_formula_80 : decode cXM_formula 80 = .ok (.aload_n 0, 1) := by decide +kernel
theorem dXM_formula_81 : decode cXM_formula 81 = .ok (.getfield 69, 3) := by decide +kernel
theorem dXM_formula_84 : decode cXM_formula 84 = .ok (.ifCond .lt 4, 3) := by decide +kernel
theorem dXM_formula_87 : decode cXM_formula 87 = .ok (.return_, 1) := by decide +kernel
theorem dXM_formula_88 : decode cXM_formula 88 = .ok (.iload_n 2, 1) := by decide +kernel
theorem dXM_formula_89 : decode cXM_formula 89 = .ok (.iconst 1, 1) := by decide +kernel
theorem dXM_formula_90 : decode cXM_formula 90 = .ok (.iload 4, 2) := by decide +kernel
theorem dXM_formula_92 : decode cXM_formula 92 = .ok (.ishl, 1) := by decide +kernel
theorem dXM_formula_93 : decode cXM_formula 93 = .ok (.ior, 1) := by decide +kernel
theorem dXM_formula_94 : decode cXM_formula 94 = .ok (.istore_n 2, 1) := by decide +kernel
theorem dXM_formula_95 : decode cXM_formula 95 = .ok (.aload_n 0, 1) := by decide +kernel
theorem dXM_formula_96 : decode cXM_formula 96 = .ok (.getfield 38, 3) := by decide +kernel
theorem dXM_formula_99 : decode cXM_formula 99 = .ok (.bipush 8, 2) := by decide +kernel
theorem dXM_formula_101 : decode cXM_formula 101 = .ok (.iload_n 1, 1) := by decide +kernel
theorem dXM_formula_102 : decode cXM_formula 102 = .ok (.imul, 1) := by decide +kernel
theorem dXM_formula_103 : decode cXM_formula 103 = .ok (.iload 4, 2) := by decide +kernel
theorem dXM_formula_105 : decode cXM_formula 105 = .ok (.iadd, 1) := by decide +kernel
theorem dXM_formula_106 : decode cXM_formula 106 = .ok (.aload_n 0, 1) := by decide +kernel
theorem dXM_formula_107 : decode cXM_formula 107 = .ok (.bipush 47, 2) := by decide +kernel
theorem dXM_formula_109 : decode cXM_formula 109 = .ok (.invokevirtual 94, 3) := by decide +kernel
theorem dXM_formula_112 : decode cXM_formula 112 = .ok (.ifCond .eq 13, 3) := by decide +kernel
theorem dXM_formula_115 : decode cXM_formula 115 = .ok (.aload_n 0, 1) := by decide +kernel
theorem dXM_formula_116 : decode cXM_formula 116 = .ok (.iconst 1, 1) := by decide +kernel
theorem dXM_formula_117 : decode cXM_formula 117 = .ok (.bipush 20, 2) := by decide +kernel
theorem dXM_formula_119 : decode cXM_formula 119 = .ok (.invokevirtual 83, 3) := by decide +kernel
theorem dXM_formula_122 : decode cXM_formula 122 = .ok (.goto 4, 3) := by decide +kernel
theorem dXM_formula_125 : decode cXM_formula 125 = .ok (.iconst 1, 1) := by decide +kernel
theorem dXM_formula_126 : decode cXM_formula 126 = .ok (.iastore, 1) := by decide +kernel
theorem dXM_formula_127 : decode cXM_formula 127 = .ok (.aload_n 0, 1) := by decide +kernel
theorem dXM_formula_128 : decode cXM_formula 128 = .ok (.bipush 43, 2) := by decide +kernel
theorem dXM_formula_130 : decode cXM_formula 130 = .ok (.invokevirtual 94, 3) := by decide +kernel
theorem dXM_formula_133 : decode cXM_formula 133 = .ok (.istore_n 3, 1) := by decide +kernel
theorem dXM_formula_134 : decode cXM_formula 134 = .ok (.goto (-78), 3) := by decide +kernel
theorem dXM_formula_137 : decode cXM_formula 137 = .ok (.aload_n 0, 1) := by decide +kernel
theorem dXM_formula_138 : decode cXM_formula 138 = .ok (.bipush 59, 2) := by decide +kernel
theorem dXM_formula_140 : decode cXM_formula 140 = .ok (.invokevirtual 87, 3) := by decide +kernel
theorem dXM_formula_143 : decode cXM_formula 143 = .ok (.aload_n 0, 1) := by decide +kernel
theorem dXM_formula_144 : decode cXM_formula 144 = .ok (.getfield 69, 3) := by decide +kernel
theorem dXM_formula_147 : decode cXM_formula 147 = .ok (.ifCond .ge 10, 3) := by decide +kernel
theorem dXM_formula_150 : decode cXM_formula 150 = .ok (.aload_n 0, 1) := by decide +kernel
theorem dXM_formula_151 : decode cXM_formula 151 = .ok (.getfield 35, 3) := by decide +kernel
theorem dXM_formula_154 : decode cXM_formula 154 = .ok (.iload_n 1, 1) := by decide +kernel
theorem dXM_formula_155 : decode cXM_formula 155 = .ok (.iconst 1, 1) := by decide +kernel
theorem dXM_formula_156 : decode cXM_formula 156 = .ok (.bastore, 1) := by decide +kernel
theorem dXM_formula_157 : decode cXM_formula 157 = .ok (.return_, 1) := by decide +kernel
theorem dXM_number_0 : decode cXM_number 0 = .ok (.aload_n 0, 1) := by decide +kernel
theorem dXM_number_1 : decode cXM_number 1 = .ok (.getfield 69, 3) := by decide +kernel
theorem dXM_number_4 : decode cXM_number 4 = .ok (.ifCond .lt 5, 3) := by decide +kernel
theorem dXM_number_7 : decode cXM_number 7 = .ok (.iload_n 1, 1) := by decide +kernel
theorem dXM_number_8 : decode cXM_number 8 = .ok (.ireturn, 1) := by decide +kernel
theorem dXM_number_9 : decode cXM_number 9 = .ok (.aload_n 0, 1) := by decide +kernel
theorem dXM_number_10 : decode cXM_number 10 = .ok (.invokevirtual 72, 3) := by decide +kernel
theorem dXM_number_13 : decode cXM_number 13 = .ok (.pop, 1) := by decide +kernel
theorem dXM_number_14 : decode cXM_number 14 = .ok (.aload_n 0, 1) := by decide +kernel
theorem dXM_number_15 : decode cXM_number 15 = .ok (.invokevirtual 79, 3) := by decide +kernel
theorem dXM_number_18 : decode cXM_number 18 = .ok (.ifCond .ne 11, 3) := by decide +kernel
theorem dXM_number_21 : decode cXM_number 21 = .ok (.aload_n 0, 1) := by decide +kernel
theorem dXM_number_22 : decode cXM_number 22 = .ok (.aload_n 0, 1) := by decide +kernel
theorem dXM_number_23 : decode cXM_number 23 = .ok (.getfield 62, 3) := by decide +kernel
theorem dXM_number_26 : decode cXM_number 26 = .ok (.invokevirtual 75, 3) := by decide +kernel
theorem dXM_number_29 : decode cXM_number 29 = .ok (.iconst 0, 1) := by decide +kernel
theorem dXM_number_30 : decode cXM_number 30 = .ok (.istore_n 3, 1) := by decide +kernel
theorem dXM_number_31 : decode cXM_number 31 = .ok (.iconst 0, 1) := by decide +kernel
theorem dXM_number_32 : decode cXM_number 32 = .ok (.istore 4, 2) := by decide +kernel
theorem dXM_number_34 : decode cXM_number 34 = .ok (.aload_n 0, 1) := by decide +kernel
theorem dXM_number_35 : decode cXM_number 35 = .ok (.getfield 69, 3) := by decide +kernel
theorem dXM_number_38 : decode cXM_number 38 = .ok (.ifCond .ge 55, 3) := by decide +kernel
theorem dXM_number_41 : decode cXM_number 41 = .ok (.aload_n 0, 1) := by decide +kernel
theorem dXM_number_42 : decode cXM_number 42 = .ok (.invokevirtual 79, 3) := by decide +kernel
theorem dXM_number_45 : decode cXM_number 45 = .ok (.ifCond .eq 48, 3) := by decide +kernel
theorem dXM_number_48 : decode cXM_number 48 = .ok (.iload 4, 2) := by decide +kernel
theorem dXM_number_50 : decode cXM_number 50 = .ok (.bipush 6, 2) := by decide +kernel
theorem dXM_number_52 : decode cXM_number 52 = .ok (.if_icmp .ge 41, 3) := by decide +kernel
theorem dXM_number_55 : decode cXM_number 55 = .ok (.iload 4, 2) := by decide +kernel
theorem dXM_number_57 : decode cXM_number 57 = .ok (.ifCond .eq 7, 3) := by decide +kernel
theorem dXM_number_60 : decode cXM_number 60 = .ok (.iload_n 3, 1) := by decide +kernel
theorem dXM_number_61 : decode cXM_number 61 = .ok (.ifCond .le 32, 3) := by decide +kernel
theorem dXM_number_64 : decode cXM_number 64 = .ok (.bipush 10, 2) := by decide +kernel
theorem dXM_number_66 : decode cXM_number 66 = .ok (.iload_n 3, 1) := by decide +kernel
theorem dXM_number_67 : decode cXM_number 67 = .ok (.imul, 1) := by decide +kernel
theorem dXM_number_68 : decode cXM_number 68 = .ok (.aload_n 0, 1) := by decide +kernel
theorem dXM_number_69 : decode cXM_number 69 = .ok (.invokevirtual 65, 3) := by decide +kernel
theorem dXM_number_72 : decode cXM_number 72 = .ok (.iadd, 1) := by decide +kernel
theorem dXM_number_73 : decode cXM_number 73 = .ok (.bipush 48, 2) := by decide +kernel
theorem dXM_number_75 : decode cXM_number 75 = .ok (.isub, 1) := by decide +kernel
theorem dXM_number_76 : decode cXM_number 76 = .ok (.istore_n 3, 1) := by decide +kernel
theorem dXM_number_77 : decode cXM_number 77 = .ok (.iinc 4 1, 3) := by decide +kernel
theorem dXM_number_80 : decode cXM_number 80 = .ok (.aload_n 0, 1) := by decide +kernel
theorem dXM_number_81 : decode cXM_number 81 = .ok (.dup, 1) := by decide +kernel
theorem dXM_number_82 : decode cXM_number 82 = .ok (.getfield 62, 3) := by decide +kernel
theorem dXM_number_85 : decode cXM_number 85 = .ok (.iconst 1, 1) := by decide +kernel
theorem dXM_number_86 : decode cXM_number 86 = .ok (.iadd, 1) := by decide +kernel
theorem dXM_number_87 : decode cXM_number 87 = .ok (.putfield 62, 3) := by decide +kernel
theorem dXM_number_90 : decode cXM_number 90 = .ok (.goto (-56), 3) := by decide +kernel
theorem dXM_number_93 : decode cXM_number 93 = .ok (.iload_n 3, 1) := by decide +kernel
theorem dXM_number_94 : decode cXM_number 94 = .ok (.iload_n 1, 1) := by decide +kernel
theorem dXM_number_95 : decode cXM_number 95 = .ok (.iload_n 2, 1) := by decide +kernel
theorem dXM_number_96 : decode cXM_number 96 = .ok (.invokestatic 51, 3) := by decide +kernel
theorem dXM_number_99 : decode cXM_number 99 = .ok (.ifCond .ne 13, 3) := by decide +kernel
theorem dXM_number_102 : decode cXM_number 102 = .ok (.aload_n 0, 1) := by decide +kernel
theorem dXM_number_103 : decode cXM_number 103 = .ok (.aload_n 0, 1) := by decide +kernel
theorem dXM_number_104 : decode cXM_number 104 = .ok (.getfield 62, 3) := by decide +kernel
theorem dXM_number_107 : decode cXM_number 107 = .ok (.iconst 1, 1) := by decide +kernel
theorem dXM_number_108 : decode cXM_number 108 = .ok (.isub, 1) := by decide +kernel
theorem dXM_number_109 : decode cXM_number 109 = .ok (.invokevirtual 75, 3) := by decide +kernel
theorem dXM_number_112 : decode cXM_number 112 = .ok (.iload 4, 2) := by decide +kernel
theorem dXM_number_114 : decode cXM_number 114 = .ok (.bipush 6, 2) := by decide +kernel
theorem dXM_number_116 : decode cXM_number 116 = .ok (.if_icmp .ne 18, 3) := by decide +kernel
theorem dXM_number_119 : decode cXM_number 119 = .ok (.aload_n 0, 1) := by decide +kernel
theorem dXM_number_120 : decode cXM_number 120 = .ok (.invokevirtual 79, 3) := by decide +kernel
theorem dXM_number_123 : decode cXM_number 123 = .ok (.ifCond .eq 11, 3) := by decide +kernel
theorem dXM_number_126 : decode cXM_number 126 = .ok (.aload_n 0, 1) := by decide +kernel
theorem dXM_number_127 : decode cXM_number 127 = .ok (.aload_n 0, 1) := by decide +kernel
theorem dXM_number_128 : decode cXM_number 128 = .ok (.getfield 62, 3) := by decide +kernel
theorem dXM_number_131 : decode cXM_number 131 = .ok (.invokevirtual 75, 3) := by decide +kernel
theorem dXM_number_134 : decode cXM_number 134 = .ok (.aload_n 0, 1) := by decide +kernel
theorem dXM_number_135 : decode cXM_number 135 = .ok (.getfield 69, 3) := by decide +kernel
theorem dXM_number_138 : decode cXM_number 138 = .ok (.ifCond .ge 7, 3) := by decide +kernel
theorem dXM_number_141 : decode cXM_number 141 = .ok (.iload_n 3, 1) := by decide +kernel
theorem dXM_number_142 : decode cXM_number 142 = .ok (.goto 4, 3) := by decide +kernel
theorem dXM_number_145 : decode cXM_number 145 = .ok (.iload_n 1, 1) := by decide +kernel
theorem dXM_number_146 : decode cXM_number 146 = .ok (.ireturn, 1) := by decide +kernel
theorem dXM_isDigit_0 : decode cXM_isDigit 0 = .ok (.aload_n 0, 1) := by decide +kernel
theorem dXM_isDigit_1 : decode cXM_isDigit 1 = .ok (.invokevirtual 65, 3) := by decide +kernel
theorem dXM_isDigit_4 : decode cXM_isDigit 4 = .ok (.bipush 48, 2) := by decide +kernel
theorem dXM_isDigit_6 : decode cXM_isDigit 6 = .ok (.bipush 57, 2) := by decide +kernel
theorem dXM_isDigit_8 : decode cXM_isDigit 8 = .ok (.invokestatic 51, 3) := by decide +kernel
theorem dXM_isDigit_11 : decode cXM_isDigit 11 = .ok (.ireturn, 1) := by decide +kernel
theorem dXM_fail_0 : decode cXM_fail 0 = .ok (.aload_n 0, 1) := by decide +kernel
theorem dXM_fail_1 : decode cXM_fail 1 = .ok (.getfield 69, 3) := by decide +kernel
theorem dXM_fail_4 : decode cXM_fail 4 = .ok (.ifCond .ge 8, 3) := by decide +kernel
theorem dXM_fail_7 : decode cXM_fail 7 = .ok (.aload_n 0, 1) := by decide +kernel
theorem dXM_fail_8 : decode cXM_fail 8 = .ok (.iload_n 1, 1) := by decide +kernel
theorem dXM_fail_9 : decode cXM_fail 9 = .ok (.putfield 69, 3) := by decide +kernel
theorem dXM_fail_12 : decode cXM_fail 12 = .ok (.return_, 1) := by decide +kernel
theorem dXM_take_0 : decode cXM_take 0 = .ok (.aload_n 0, 1) := by decide +kernel
theorem dXM_take_1 : decode cXM_take 1 = .ok (.getfield 69, 3) := by decide +kernel
theorem dXM_take_4 : decode cXM_take 4 = .ok (.ifCond .lt 4, 3) := by decide +kernel
theorem dXM_take_7 : decode cXM_take 7 = .ok (.return_, 1) := by decide +kernel
theorem dXM_take_8 : decode cXM_take 8 = .ok (.aload_n 0, 1) := by decide +kernel
theorem dXM_take_9 : decode cXM_take 9 = .ok (.invokevirtual 72, 3) := by decide +kernel
theorem dXM_take_12 : decode cXM_take 12 = .ok (.iload_n 1, 1) := by decide +kernel
theorem dXM_take_13 : decode cXM_take 13 = .ok (.if_icmp .eq 14, 3) := by decide +kernel
theorem dXM_take_16 : decode cXM_take 16 = .ok (.aload_n 0, 1) := by decide +kernel
theorem dXM_take_17 : decode cXM_take 17 = .ok (.aload_n 0, 1) := by decide +kernel
theorem dXM_take_18 : decode cXM_take 18 = .ok (.getfield 62, 3) := by decide +kernel
theorem dXM_take_21 : decode cXM_take 21 = .ok (.invokevirtual 75, 3) := by decide +kernel
theorem dXM_take_24 : decode cXM_take 24 = .ok (.goto 13, 3) := by decide +kernel
theorem dXM_take_27 : decode cXM_take 27 = .ok (.aload_n 0, 1) := by decide +kernel
theorem dXM_take_28 : decode cXM_take 28 = .ok (.dup, 1) := by decide +kernel
theorem dXM_take_29 : decode cXM_take 29 = .ok (.getfield 62, 3) := by decide +kernel
theorem dXM_take_32 : decode cXM_take 32 = .ok (.iconst 1, 1) := by decide +kernel
theorem dXM_take_33 : decode cXM_take 33 = .ok (.iadd, 1) := by decide +kernel
theorem dXM_take_34 : decode cXM_take 34 = .ok (.putfield 62, 3) := by decide +kernel
theorem dXM_take_37 : decode cXM_take 37 = .ok (.return_, 1) := by decide +kernel
theorem dXM_element_0 : decode cXM_element 0 = .ok (.aload_n 0, 1) := by decide +kernel
theorem dXM_element_1 : decode cXM_element 1 = .ok (.getfield 69, 3) := by decide +kernel
theorem dXM_element_4 : decode cXM_element 4 = .ok (.ifCond .ge 17, 3) := by decide +kernel
theorem dXM_element_7 : decode cXM_element 7 = .ok (.aload_n 0, 1) := by decide +kernel
theorem dXM_element_8 : decode cXM_element 8 = .ok (.invokevirtual 72, 3) := by decide +kernel
theorem dXM_element_11 : decode cXM_element 11 = .ok (.bipush 65, 2) := by decide +kernel
theorem dXM_element_13 : decode cXM_element 13 = .ok (.bipush 72, 2) := by decide +kernel
theorem dXM_element_15 : decode cXM_element 15 = .ok (.invokestatic 51, 3) := by decide +kernel
theorem dXM_element_18 : decode cXM_element 18 = .ok (.ifCond .ne 5, 3) := by decide +kernel
theorem dXM_element_21 : decode cXM_element 21 = .ok (.iconst (-1), 1) := by decide +kernel
theorem dXM_element_22 : decode cXM_element 22 = .ok (.ireturn, 1) := by decide +kernel
theorem dXM_element_23 : decode cXM_element 23 = .ok (.aload_n 0, 1) := by decide +kernel
theorem dXM_element_24 : decode cXM_element 24 = .ok (.invokevirtual 65, 3) := by decide +kernel
theorem dXM_element_27 : decode cXM_element 27 = .ok (.bipush 65, 2) := by decide +kernel
theorem dXM_element_29 : decode cXM_element 29 = .ok (.isub, 1) := by decide +kernel
theorem dXM_element_30 : decode cXM_element 30 = .ok (.istore_n 2, 1) := by decide +kernel
theorem dXM_element_31 : decode cXM_element 31 = .ok (.iload_n 1, 1) := by decide +kernel
theorem dXM_element_32 : decode cXM_element 32 = .ok (.iload_n 2, 1) := by decide +kernel
theorem dXM_element_33 : decode cXM_element 33 = .ok (.ishr, 1) := by decide +kernel
theorem dXM_element_34 : decode cXM_element 34 = .ok (.iconst 1, 1) := by decide +kernel
theorem dXM_element_35 : decode cXM_element 35 = .ok (.iand, 1) := by decide +kernel
theorem dXM_element_36 : decode cXM_element 36 = .ok (.iconst 1, 1) := by decide +kernel
theorem dXM_element_37 : decode cXM_element 37 = .ok (.if_icmp .ne 11, 3) := by decide +kernel
theorem dXM_element_40 : decode cXM_element 40 = .ok (.aload_n 0, 1) := by decide +kernel
theorem dXM_element_41 : decode cXM_element 41 = .ok (.aload_n 0, 1) := by decide +kernel
theorem dXM_element_42 : decode cXM_element 42 = .ok (.getfield 62, 3) := by decide +kernel
theorem dXM_element_45 : decode cXM_element 45 = .ok (.invokevirtual 75, 3) := by decide +kernel
theorem dXM_element_48 : decode cXM_element 48 = .ok (.aload_n 0, 1) := by decide +kernel
theorem dXM_element_49 : decode cXM_element 49 = .ok (.dup, 1) := by decide +kernel
theorem dXM_element_50 : decode cXM_element 50 = .ok (.getfield 62, 3) := by decide +kernel
theorem dXM_element_53 : decode cXM_element 53 = .ok (.iconst 1, 1) := by decide +kernel
theorem dXM_element_54 : decode cXM_element 54 = .ok (.iadd, 1) := by decide +kernel
theorem dXM_element_55 : decode cXM_element 55 = .ok (.putfield 62, 3) := by decide +kernel
theorem dXM_element_58 : decode cXM_element 58 = .ok (.iload_n 2, 1) := by decide +kernel
theorem dXM_element_59 : decode cXM_element 59 = .ok (.ireturn, 1) := by decide +kernel
theorem dXM_grade_0 : decode cXM_grade 0 = .ok (.bipush 31, 2) := by decide +kernel
theorem dXM_grade_2 : decode cXM_grade 2 = .ok (.aload_n 0, 1) := by decide +kernel
theorem dXM_grade_3 : decode cXM_grade 3 = .ok (.iconst 1, 1) := by decide +kernel
theorem dXM_grade_4 : decode cXM_grade 4 = .ok (.bipush 30, 2) := by decide +kernel
theorem dXM_grade_6 : decode cXM_grade 6 = .ok (.invokevirtual 83, 3) := by decide +kernel
theorem dXM_grade_9 : decode cXM_grade 9 = .ok (.iadd, 1) := by decide +kernel
theorem dXM_grade_10 : decode cXM_grade 10 = .ok (.istore_n 1, 1) := by decide +kernel
theorem dXM_grade_11 : decode cXM_grade 11 = .ok (.aload_n 0, 1) := by decide +kernel
theorem dXM_grade_12 : decode cXM_grade 12 = .ok (.getfield 69, 3) := by decide +kernel
theorem dXM_grade_15 : decode cXM_grade 15 = .ok (.ifCond .ge 22, 3) := by decide +kernel
theorem dXM_grade_18 : decode cXM_grade 18 = .ok (.aload_n 0, 1) := by decide +kernel
theorem dXM_grade_19 : decode cXM_grade 19 = .ok (.getfield 13, 3) := by decide +kernel
theorem dXM_grade_22 : decode cXM_grade 22 = .ok (.iload_n 1, 1) := by decide +kernel
theorem dXM_grade_23 : decode cXM_grade 23 = .ok (.baload, 1) := by decide +kernel
theorem dXM_grade_24 : decode cXM_grade 24 = .ok (.ifCond .eq 13, 3) := by decide +kernel
theorem dXM_grade_27 : decode cXM_grade 27 = .ok (.aload_n 0, 1) := by decide +kernel
theorem dXM_grade_28 : decode cXM_grade 28 = .ok (.aload_n 0, 1) := by decide +kernel
theorem dXM_grade_29 : decode cXM_grade 29 = .ok (.getfield 62, 3) := by decide +kernel
theorem dXM_grade_32 : decode cXM_grade 32 = .ok (.iconst 1, 1) := by decide +kernel
theorem dXM_grade_33 : decode cXM_grade 33 = .ok (.isub, 1) := by decide +kernel
theorem dXM_grade_34 : decode cXM_grade 34 = .ok (.invokevirtual 75, 3) := by decide +kernel
theorem dXM_grade_37 : decode cXM_grade 37 = .ok (.aload_n 0, 1) := by decide +kernel
theorem dXM_grade_38 : decode cXM_grade 38 = .ok (.getfield 69, 3) := by decide +kernel
theorem dXM_grade_41 : decode cXM_grade 41 = .ok (.ifCond .lt 4, 3) := by decide +kernel
theorem dXM_grade_44 : decode cXM_grade 44 = .ok (.return_, 1) := by decide +kernel
theorem dXM_grade_45 : decode cXM_grade 45 = .ok (.aload_n 0, 1) := by decide +kernel
theorem dXM_grade_46 : decode cXM_grade 46 = .ok (.getfield 17, 3) := by decide +kernel
theorem dXM_grade_49 : decode cXM_grade 49 = .ok (.iload_n 1, 1) := by decide +kernel
theorem dXM_grade_50 : decode cXM_grade 50 = .ok (.aload_n 0, 1) := by decide +kernel
theorem dXM_grade_51 : decode cXM_grade 51 = .ok (.bipush 60, 2) := by decide +kernel
theorem dXM_grade_53 : decode cXM_grade 53 = .ok (.invokevirtual 94, 3) := by decide +kernel
theorem dXM_grade_56 : decode cXM_grade 56 = .ok (.ifCond .eq 13, 3) := by decide +kernel
theorem dXM_grade_59 : decode cXM_grade 59 = .ok (.aload_n 0, 1) := by decide +kernel
theorem dXM_grade_60 : decode cXM_grade 60 = .ok (.iconst 1, 1) := by decide +kernel
theorem dXM_grade_61 : decode cXM_grade 61 = .ok (.bipush 30, 2) := by decide +kernel
theorem dXM_grade_63 : decode cXM_grade 63 = .ok (.invokevirtual 83, 3) := by decide +kernel
theorem dXM_grade_66 : decode cXM_grade 66 = .ok (.goto 4, 3) := by decide +kernel
theorem dXM_grade_69 : decode cXM_grade 69 = .ok (.iconst 0, 1) := by decide +kernel
theorem dXM_grade_70 : decode cXM_grade 70 = .ok (.iastore, 1) := by decide +kernel
theorem dXM_grade_71 : decode cXM_grade 71 = .ok (.aload_n 0, 1) := by decide +kernel
theorem dXM_grade_72 : decode cXM_grade 72 = .ok (.iload_n 1, 1) := by decide +kernel
theorem dXM_grade_73 : decode cXM_grade 73 = .ok (.invokevirtual 99, 3) := by decide +kernel
theorem dXM_grade_76 : decode cXM_grade 76 = .ok (.aload_n 0, 1) := by decide +kernel
theorem dXM_grade_77 : decode cXM_grade 77 = .ok (.bipush 114, 2) := by decide +kernel
theorem dXM_grade_79 : decode cXM_grade 79 = .ok (.invokevirtual 94, 3) := by decide +kernel
theorem dXM_grade_82 : decode cXM_grade 82 = .ok (.ifCond .eq 13, 3) := by decide +kernel
theorem dXM_grade_85 : decode cXM_grade 85 = .ok (.aload_n 0, 1) := by decide +kernel
theorem dXM_grade_86 : decode cXM_grade 86 = .ok (.getfield 29, 3) := by decide +kernel
theorem dXM_grade_89 : decode cXM_grade 89 = .ok (.iload_n 1, 1) := by decide +kernel
theorem dXM_grade_90 : decode cXM_grade 90 = .ok (.aload_n 0, 1) := by decide +kernel
theorem dXM_grade_91 : decode cXM_grade 91 = .ok (.invokevirtual 102, 3) := by decide +kernel
theorem dXM_grade_94 : decode cXM_grade 94 = .ok (.iastore, 1) := by decide +kernel
theorem dXM_grade_95 : decode cXM_grade 95 = .ok (.iconst 0, 1) := by decide +kernel
theorem dXM_grade_96 : decode cXM_grade 96 = .ok (.istore_n 2, 1) := by decide +kernel
theorem dXM_grade_97 : decode cXM_grade 97 = .ok (.aload_n 0, 1) := by decide +kernel
theorem dXM_grade_98 : decode cXM_grade 98 = .ok (.bipush 113, 2) := by decide +kernel
theorem dXM_grade_100 : decode cXM_grade 100 = .ok (.invokevirtual 94, 3) := by decide +kernel
theorem dXM_grade_103 : decode cXM_grade 103 = .ok (.ifCond .eq 68, 3) := by decide +kernel
theorem dXM_grade_106 : decode cXM_grade 106 = .ok (.aload_n 0, 1) := by decide +kernel
theorem dXM_grade_107 : decode cXM_grade 107 = .ok (.iconst 0, 1) := by decide +kernel
theorem dXM_grade_108 : decode cXM_grade 108 = .ok (.iconst 3, 1) := by decide +kernel
theorem dXM_grade_109 : decode cXM_grade 109 = .ok (.invokevirtual 83, 3) := by decide +kernel
theorem dXM_grade_112 : decode cXM_grade 112 = .ok (.istore_n 3, 1) := by decide +kernel
theorem dXM_grade_113 : decode cXM_grade 113 = .ok (.aload_n 0, 1) := by decide +kernel
theorem dXM_grade_114 : decode cXM_grade 114 = .ok (.getfield 69, 3) := by decide +kernel
theorem dXM_grade_117 : decode cXM_grade 117 = .ok (.ifCond .ge 22, 3) := by decide +kernel
theorem dXM_grade_120 : decode cXM_grade 120 = .ok (.iload_n 2, 1) := by decide +kernel
theorem dXM_grade_121 : decode cXM_grade 121 = .ok (.iload_n 3, 1) := by decide +kernel
theorem dXM_grade_122 : decode cXM_grade 122 = .ok (.ishr, 1) := by decide +kernel
theorem dXM_grade_123 : decode cXM_grade 123 = .ok (.iconst 1, 1) := by decide +kernel
theorem dXM_grade_124 : decode cXM_grade 124 = .ok (.iand, 1) := by decide +kernel
theorem dXM_grade_125 : decode cXM_grade 125 = .ok (.iconst 1, 1) := by decide +kernel
theorem dXM_grade_126 : decode cXM_grade 126 = .ok (.if_icmp .ne 13, 3) := by decide +kernel
theorem dXM_grade_129 : decode cXM_grade 129 = .ok (.aload_n 0, 1) := by decide +kernel
theorem dXM_grade_130 : decode cXM_grade 130 = .ok (.aload_n 0, 1) := by decide +kernel
theorem dXM_grade_131 : decode cXM_grade 131 = .ok (.getfield 62, 3) := by decide +kernel
theorem dXM_grade_134 : decode cXM_grade 134 = .ok (.iconst 1, 1) := by decide +kernel
theorem dXM_grade_135 : decode cXM_grade 135 = .ok (.isub, 1) := by decide +kernel
theorem dXM_grade_136 : decode cXM_grade 136 = .ok (.invokevirtual 75, 3) := by decide +kernel
theorem dXM_grade_139 : decode cXM_grade 139 = .ok (.iload_n 2, 1) := by decide +kernel
theorem dXM_grade_140 : decode cXM_grade 140 = .ok (.iconst 1, 1) := by decide +kernel
theorem dXM_grade_141 : decode cXM_grade 141 = .ok (.iload_n 3, 1) := by decide +kernel
theorem dXM_grade_142 : decode cXM_grade 142 = .ok (.ishl, 1) := by decide +kernel
theorem dXM_grade_143 : decode cXM_grade 143 = .ok (.ior, 1) := by decide +kernel
theorem dXM_grade_144 : decode cXM_grade 144 = .ok (.istore_n 2, 1) := by decide +kernel
theorem dXM_grade_145 : decode cXM_grade 145 = .ok (.aload_n 0, 1) := by decide +kernel
theorem dXM_grade_146 : decode cXM_grade 146 = .ok (.bipush 60, 2) := by decide +kernel
theorem dXM_grade_148 : decode cXM_grade 148 = .ok (.invokevirtual 87, 3) := by decide +kernel

