theorem dXG_init_0 : decode cXG_init 0 = .ok (.aload_n 0, 1) := by decide +kernel
theorem dXG_init_1 : decode cXG_init 1 = .ok (.invokespecial 1, 3) := by decide +kernel
theorem dXG_init_4 : decode cXG_init 4 = .ok (.aload_n 0, 1) := by decide +kernel
theorem dXG_init_5 : decode cXG_init 5 = .ok (.new 7, 3) := by decide +kernel
theorem dXG_init_8 : decode cXG_init 8 = .ok (.dup, 1) := by decide +kernel
theorem dXG_init_9 : decode cXG_init 9 = .ok (.invokespecial 9, 3) := by decide +kernel
theorem dXG_init_12 : decode cXG_init 12 = .ok (.putfield 10, 3) := by decide +kernel
theorem dXG_init_15 : decode cXG_init 15 = .ok (.aload_n 0, 1) := by decide +kernel
theorem dXG_init_16 : decode cXG_init 16 = .ok (.new 16, 3) := by decide +kernel
theorem dXG_init_19 : decode cXG_init 19 = .ok (.dup, 1) := by decide +kernel
theorem dXG_init_20 : decode cXG_init 20 = .ok (.aload_n 0, 1) := by decide +kernel
theorem dXG_init_21 : decode cXG_init 21 = .ok (.getfield 10, 3) := by decide +kernel
theorem dXG_init_24 : decode cXG_init 24 = .ok (.invokespecial 18, 3) := by decide +kernel
theorem dXG_init_27 : decode cXG_init 27 = .ok (.putfield 21, 3) := by decide +kernel
theorem dXG_init_30 : decode cXG_init 30 = .ok (.aload_n 0, 1) := by decide +kernel
theorem dXG_init_31 : decode cXG_init 31 = .ok (.new 25, 3) := by decide +kernel
theorem dXG_init_34 : decode cXG_init 34 = .ok (.dup, 1) := by decide +kernel
theorem dXG_init_35 : decode cXG_init 35 = .ok (.invokespecial 27, 3) := by decide +kernel
theorem dXG_init_38 : decode cXG_init 38 = .ok (.putfield 28, 3) := by decide +kernel
theorem dXG_init_41 : decode cXG_init 41 = .ok (.aload_n 0, 1) := by decide +kernel
theorem dXG_init_42 : decode cXG_init 42 = .ok (.bipush 8, 2) := by decide +kernel
theorem dXG_init_44 : decode cXG_init 44 = .ok (.newarray .int, 2) := by decide +kernel
theorem dXG_init_46 : decode cXG_init 46 = .ok (.putfield 32, 3) := by decide +kernel
theorem dXG_init_49 : decode cXG_init 49 = .ok (.aload_n 0, 1) := by decide +kernel
theorem dXG_init_50 : decode cXG_init 50 = .ok (.bipush 8, 2) := by decide +kernel
theorem dXG_init_52 : decode cXG_init 52 = .ok (.newarray .int, 2) := by decide +kernel
theorem dXG_init_54 : decode cXG_init 54 = .ok (.putfield 36, 3) := by decide +kernel
theorem dXG_init_57 : decode cXG_init 57 = .ok (.aload_n 0, 1) := by decide +kernel
theorem dXG_init_58 : decode cXG_init 58 = .ok (.new 39, 3) := by decide +kernel
theorem dXG_init_61 : decode cXG_init 61 = .ok (.dup, 1) := by decide +kernel
theorem dXG_init_62 : decode cXG_init 62 = .ok (.invokespecial 41, 3) := by decide +kernel
theorem dXG_init_65 : decode cXG_init 65 = .ok (.putfield 42, 3) := by decide +kernel
theorem dXG_init_68 : decode cXG_init 68 = .ok (.aload_n 0, 1) := by decide +kernel
theorem dXG_init_69 : decode cXG_init 69 = .ok (.new 39, 3) := by decide +kernel
theorem dXG_init_72 : decode cXG_init 72 = .ok (.dup, 1) := by decide +kernel
theorem dXG_init_73 : decode cXG_init 73 = .ok (.invokespecial 41, 3) := by decide +kernel
theorem dXG_init_76 : decode cXG_init 76 = .ok (.putfield 46, 3) := by decide +kernel
theorem dXG_init_79 : decode cXG_init 79 = .ok (.return_, 1) := by decide +kernel
theorem dXT_init_0 : decode cXT_init 0 = .ok (.aload_n 0, 1) := by decide +kernel
theorem dXT_init_1 : decode cXT_init 1 = .ok (.invokespecial 3, 3) := by decide +kernel
theorem dXT_init_4 : decode cXT_init 4 = .ok (.aload_n 0, 1) := by decide +kernel
theorem dXT_init_5 : decode cXT_init 5 = .ok (.sipush 400, 3) := by decide +kernel
theorem dXT_init_8 : decode cXT_init 8 = .ok (.newarray .int, 2) := by decide +kernel
theorem dXT_init_10 : decode cXT_init 10 = .ok (.putfield 9, 3) := by decide +kernel
theorem dXT_init_13 : decode cXT_init 13 = .ok (.aload_n 0, 1) := by decide +kernel
theorem dXT_init_14 : decode cXT_init 14 = .ok (.iconst 0, 1) := by decide +kernel
theorem dXT_init_15 : decode cXT_init 15 = .ok (.putfield 15, 3) := by decide +kernel
theorem dXT_init_18 : decode cXT_init 18 = .ok (.aload_n 0, 1) := by decide +kernel
theorem dXT_init_19 : decode cXT_init 19 = .ok (.iconst 0, 1) := by decide +kernel
theorem dXT_init_20 : decode cXT_init 20 = .ok (.putfield 19, 3) := by decide +kernel
theorem dXT_init_23 : decode cXT_init 23 = .ok (.aload_n 0, 1) := by decide +kernel
theorem dXT_init_24 : decode cXT_init 24 = .ok (.iconst 0, 1) := by decide +kernel
theorem dXT_init_25 : decode cXT_init 25 = .ok (.putfield 22, 3) := by decide +kernel
theorem dXT_init_28 : decode cXT_init 28 = .ok (.return_, 1) := by decide +kernel
theorem dXR_init_0 : decode cXR_init 0 = .ok (.aload_n 0, 1) := by decide +kernel
theorem dXR_init_1 : decode cXR_init 1 = .ok (.invokespecial 3, 3) := by decide +kernel
theorem dXR_init_4 : decode cXR_init 4 = .ok (.aload_n 0, 1) := by decide +kernel
theorem dXR_init_5 : decode cXR_init 5 = .ok (.aload_n 1, 1) := by decide +kernel
theorem dXR_init_6 : decode cXR_init 6 = .ok (.putfield 9, 3) := by decide +kernel
theorem dXR_init_9 : decode cXR_init 9 = .ok (.return_, 1) := by decide +kernel
theorem dXP_init_0 : decode cXP_init 0 = .ok (.aload_n 0, 1) := by decide +kernel
theorem dXP_init_1 : decode cXP_init 1 = .ok (.invokespecial 3, 3) := by decide +kernel
theorem dXP_init_4 : decode cXP_init 4 = .ok (.aload_n 0, 1) := by decide +kernel
theorem dXP_init_5 : decode cXP_init 5 = .ok (.sipush 160, 3) := by decide +kernel
theorem dXP_init_8 : decode cXP_init 8 = .ok (.newarray .int, 2) := by decide +kernel
theorem dXP_init_10 : decode cXP_init 10 = .ok (.putfield 9, 3) := by decide +kernel
theorem dXP_init_13 : decode cXP_init 13 = .ok (.aload_n 0, 1) := by decide +kernel
theorem dXP_init_14 : decode cXP_init 14 = .ok (.iconst 0, 1) := by decide +kernel
theorem dXP_init_15 : decode cXP_init 15 = .ok (.putfield 15, 3) := by decide +kernel
theorem dXP_init_18 : decode cXP_init 18 = .ok (.return_, 1) := by decide +kernel
theorem dXB_init_0 : decode cXB_init 0 = .ok (.aload_n 0, 1) := by decide +kernel
theorem dXB_init_1 : decode cXB_init 1 = .ok (.invokespecial 3, 3) := by decide +kernel
theorem dXB_init_4 : decode cXB_init 4 = .ok (.aload_n 0, 1) := by decide +kernel
theorem dXB_init_5 : decode cXB_init 5 = .ok (.bipush 31, 2) := by decide +kernel
theorem dXB_init_7 : decode cXB_init 7 = .ok (.newarray .int, 2) := by decide +kernel
theorem dXB_init_9 : decode cXB_init 9 = .ok (.putfield 9, 3) := by decide +kernel
theorem dXB_init_12 : decode cXB_init 12 = .ok (.aload_n 0, 1) := by decide +kernel
theorem dXB_init_13 : decode cXB_init 13 = .ok (.bipush 31, 2) := by decide +kernel
theorem dXB_init_15 : decode cXB_init 15 = .ok (.newarray .int, 2) := by decide +kernel
theorem dXB_init_17 : decode cXB_init 17 = .ok (.putfield 15, 3) := by decide +kernel
theorem dXB_init_20 : decode cXB_init 20 = .ok (.aload_n 0, 1) := by decide +kernel
theorem dXB_init_21 : decode cXB_init 21 = .ok (.sipush 248, 3) := by decide +kernel
theorem dXB_init_24 : decode cXB_init 24 = .ok (.newarray .int, 2) := by decide +kernel
theorem dXB_init_26 : decode cXB_init 26 = .ok (.putfield 18, 3) := by decide +kernel
theorem dXB_init_29 : decode cXB_init 29 = .ok (.aload_n 0, 1) := by decide +kernel
theorem dXB_init_30 : decode cXB_init 30 = .ok (.sipush 248, 3) := by decide +kernel
theorem dXB_init_33 : decode cXB_init 33 = .ok (.newarray .int, 2) := by decide +kernel
theorem dXB_init_35 : decode cXB_init 35 = .ok (.putfield 21, 3) := by decide +kernel
theorem dXB_init_38 : decode cXB_init 38 = .ok (.aload_n 0, 1) := by decide +kernel
theorem dXB_init_39 : decode cXB_init 39 = .ok (.bipush 124, 2) := by decide +kernel
theorem dXB_init_41 : decode cXB_init 41 = .ok (.newarray .int, 2) := by decide +kernel
theorem dXB_init_43 : decode cXB_init 43 = .ok (.putfield 24, 3) := by decide +kernel
theorem dXB_init_46 : decode cXB_init 46 = .ok (.aload_n 0, 1) := by decide +kernel
theorem dXB_init_47 : decode cXB_init 47 = .ok (.bipush 31, 2) := by decide +kernel
theorem dXB_init_49 : decode cXB_init 49 = .ok (.newarray .int, 2) := by decide +kernel
theorem dXB_init_51 : decode cXB_init 51 = .ok (.putfield 27, 3) := by decide +kernel
theorem dXB_init_54 : decode cXB_init 54 = .ok (.aload_n 0, 1) := by decide +kernel
theorem dXB_init_55 : decode cXB_init 55 = .ok (.bipush 32, 2) := by decide +kernel
theorem dXB_init_57 : decode cXB_init 57 = .ok (.newarray .int, 2) := by decide +kernel
theorem dXB_init_59 : decode cXB_init 59 = .ok (.putfield 30, 3) := by decide +kernel
theorem dXB_init_62 : decode cXB_init 62 = .ok (.aload_n 0, 1) := by decide +kernel
theorem dXB_init_63 : decode cXB_init 63 = .ok (.iconst 0, 1) := by decide +kernel
theorem dXB_init_64 : decode cXB_init 64 = .ok (.putfield 33, 3) := by decide +kernel
theorem dXB_init_67 : decode cXB_init 67 = .ok (.aload_n 0, 1) := by decide +kernel
theorem dXB_init_68 : decode cXB_init 68 = .ok (.iconst 0, 1) := by decide +kernel
theorem dXB_init_69 : decode cXB_init 69 = .ok (.putfield 37, 3) := by decide +kernel
theorem dXB_init_72 : decode cXB_init 72 = .ok (.return_, 1) := by decide +kernel
theorem dXG_read_0 : decode cXG_read 0 = .ok (.aload_n 0, 1) := by decide +kernel
theorem dXG_read_1 : decode cXG_read 1 = .ok (.getfield 46, 3) := by decide +kernel
theorem dXG_read_4 : decode cXG_read 4 = .ok (.invokevirtual 69, 3) := by decide +kernel
theorem dXG_read_7 : decode cXG_read 7 = .ok (.aload_n 0, 1) := by decide +kernel
theorem dXG_read_8 : decode cXG_read 8 = .ok (.getfield 21, 3) := by decide +kernel
theorem dXG_read_11 : decode cXG_read 11 = .ok (.aload_n 0, 1) := by decide +kernel
theorem dXG_read_12 : decode cXG_read 12 = .ok (.getfield 46, 3) := by decide +kernel
theorem dXG_read_15 : decode cXG_read 15 = .ok (.invokevirtual 72, 3) := by decide +kernel
theorem dXG_read_18 : decode cXG_read 18 = .ok (.istore_n 1, 1) := by decide +kernel
theorem dXG_read_19 : decode cXG_read 19 = .ok (.aload_n 0, 1) := by decide +kernel
theorem dXG_read_20 : decode cXG_read 20 = .ok (.getfield 10, 3) := by decide +kernel
theorem dXG_read_23 : decode cXG_read 23 = .ok (.invokevirtual 76, 3) := by decide +kernel
theorem dXG_read_26 : decode cXG_read 26 = .ok (.iload_n 1, 1) := by decide +kernel
theorem dXG_read_27 : decode cXG_read 27 = .ok (.ifCond .ne 13, 3) := by decide +kernel
theorem dXG_read_30 : decode cXG_read 30 = .ok (.iconst (-1), 1) := by decide +kernel
theorem dXG_read_31 : decode cXG_read 31 = .ok (.aload_n 0, 1) := by decide +kernel
theorem dXG_read_32 : decode cXG_read 32 = .ok (.getfield 10, 3) := by decide +kernel
theorem dXG_read_35 : decode cXG_read 35 = .ok (.invokevirtual 79, 3) := by decide +kernel
theorem dXG_read_38 : decode cXG_read 38 = .ok (.isub, 1) := by decide +kernel
theorem dXG_read_39 : decode cXG_read 39 = .ok (.ireturn, 1) := by decide +kernel
theorem dXG_read_40 : decode cXG_read 40 = .ok (.aload_n 0, 1) := by decide +kernel
theorem dXG_read_41 : decode cXG_read 41 = .ok (.getfield 46, 3) := by decide +kernel
theorem dXG_read_44 : decode cXG_read 44 = .ok (.invokevirtual 83, 3) := by decide +kernel
theorem dXG_read_47 : decode cXG_read 47 = .ok (.aload_n 0, 1) := by decide +kernel
theorem dXG_read_48 : decode cXG_read 48 = .ok (.getfield 42, 3) := by decide +kernel
theorem dXG_read_51 : decode cXG_read 51 = .ok (.astore_n 2, 1) := by decide +kernel
theorem dXG_read_52 : decode cXG_read 52 = .ok (.aload_n 0, 1) := by decide +kernel
theorem dXG_read_53 : decode cXG_read 53 = .ok (.aload_n 0, 1) := by decide +kernel
theorem dXG_read_54 : decode cXG_read 54 = .ok (.getfield 46, 3) := by decide +kernel
theorem dXG_read_57 : decode cXG_read 57 = .ok (.putfield 42, 3) := by decide +kernel
theorem dXG_read_60 : decode cXG_read 60 = .ok (.aload_n 0, 1) := by decide +kernel
theorem dXG_read_61 : decode cXG_read 61 = .ok (.aload_n 2, 1) := by decide +kernel
theorem dXG_read_62 : decode cXG_read 62 = .ok (.putfield 46, 3) := by decide +kernel
theorem dXG_read_65 : decode cXG_read 65 = .ok (.aload_n 0, 1) := by decide +kernel
theorem dXG_read_66 : decode cXG_read 66 = .ok (.getfield 42, 3) := by decide +kernel
theorem dXG_read_69 : decode cXG_read 69 = .ok (.invokevirtual 86, 3) := by decide +kernel
theorem dXG_read_72 : decode cXG_read 72 = .ok (.ireturn, 1) := by decide +kernel
theorem dXB_forget_0 : decode cXB_forget 0 = .ok (.aload_n 0, 1) := by decide +kernel
theorem dXB_forget_1 : decode cXB_forget 1 = .ok (.getfield 9, 3) := by decide +kernel
theorem dXB_forget_4 : decode cXB_forget 4 = .ok (.iconst 0, 1) := by decide +kernel
theorem dXB_forget_5 : decode cXB_forget 5 = .ok (.invokestatic 40, 3) := by decide +kernel
theorem dXB_forget_8 : decode cXB_forget 8 = .ok (.aload_n 0, 1) := by decide +kernel
theorem dXB_forget_9 : decode cXB_forget 9 = .ok (.getfield 21, 3) := by decide +kernel
theorem dXB_forget_12 : decode cXB_forget 12 = .ok (.iconst (-1), 1) := by decide +kernel
theorem dXB_forget_13 : decode cXB_forget 13 = .ok (.invokestatic 40, 3) := by decide +kernel
theorem dXB_forget_16 : decode cXB_forget 16 = .ok (.aload_n 0, 1) := by decide +kernel
theorem dXB_forget_17 : decode cXB_forget 17 = .ok (.getfield 24, 3) := by decide +kernel
theorem dXB_forget_20 : decode cXB_forget 20 = .ok (.iconst (-1), 1) := by decide +kernel
theorem dXB_forget_21 : decode cXB_forget 21 = .ok (.invokestatic 40, 3) := by decide +kernel
theorem dXB_forget_24 : decode cXB_forget 24 = .ok (.aload_n 0, 1) := by decide +kernel
theorem dXB_forget_25 : decode cXB_forget 25 = .ok (.getfield 27, 3) := by decide +kernel
theorem dXB_forget_28 : decode cXB_forget 28 = .ok (.iconst 0, 1) := by decide +kernel
theorem dXB_forget_29 : decode cXB_forget 29 = .ok (.invokestatic 40, 3) := by decide +kernel
theorem dXB_forget_32 : decode cXB_forget 32 = .ok (.aload_n 0, 1) := by decide +kernel
theorem dXB_forget_33 : decode cXB_forget 33 = .ok (.getfield 30, 3) := by decide +kernel
theorem dXB_forget_36 : decode cXB_forget 36 = .ok (.iconst 0, 1) := by decide +kernel
theorem dXB_forget_37 : decode cXB_forget 37 = .ok (.invokestatic 40, 3) := by decide +kernel
theorem dXB_forget_40 : decode cXB_forget 40 = .ok (.aload_n 0, 1) := by decide +kernel
theorem dXB_forget_41 : decode cXB_forget 41 = .ok (.iconst 0, 1) := by decide +kernel
theorem dXB_forget_42 : decode cXB_forget 42 = .ok (.putfield 33, 3) := by decide +kernel
theorem dXB_forget_45 : decode cXB_forget 45 = .ok (.aload_n 0, 1) := by decide +kernel
theorem dXB_forget_46 : decode cXB_forget 46 = .ok (.iconst 0, 1) := by decide +kernel
theorem dXB_forget_47 : decode cXB_forget 47 = .ok (.putfield 37, 3) := by decide +kernel
theorem dXB_forget_50 : decode cXB_forget 50 = .ok (.return_, 1) := by decide +kernel
theorem dXA_fill_0 : decode cXA_fill 0 = .ok (.iconst 0, 1) := by decide +kernel
theorem dXA_fill_1 : decode cXA_fill 1 = .ok (.istore_n 2, 1) := by decide +kernel
theorem dXA_fill_2 : decode cXA_fill 2 = .ok (.aload_n 0, 1) := by decide +kernel
theorem dXA_fill_3 : decode cXA_fill 3 = .ok (.arraylength, 1) := by decide +kernel
theorem dXA_fill_4 : decode cXA_fill 4 = .ok (.istore_n 3, 1) := by decide +kernel
theorem dXA_fill_5 : decode cXA_fill 5 = .ok (.iload_n 2, 1) := by decide +kernel
theorem dXA_fill_6 : decode cXA_fill 6 = .ok (.iload_n 3, 1) := by decide +kernel
theorem dXA_fill_7 : decode cXA_fill 7 = .ok (.if_icmp .ge 13, 3) := by decide +kernel
theorem dXA_fill_10 : decode cXA_fill 10 = .ok (.aload_n 0, 1) := by decide +kernel
theorem dXA_fill_11 : decode cXA_fill 11 = .ok (.iload_n 2, 1) := by decide +kernel
theorem dXA_fill_12 : decode cXA_fill 12 = .ok (.iload_n 1, 1) := by decide +kernel
theorem dXA_fill_13 : decode cXA_fill 13 = .ok (.iastore, 1) := by decide +kernel
theorem dXA_fill_14 : decode cXA_fill 14 = .ok (.iinc 2 1, 3) := by decide +kernel
theorem dXA_fill_17 : decode cXA_fill 17 = .ok (.goto (-12), 3) := by decide +kernel
theorem dXA_fill_20 : decode cXA_fill 20 = .ok (.return_, 1) := by decide +kernel
theorem dXR_text_0 : decode cXR_text 0 = .ok (.aload_n 0, 1) := by decide +kernel
theorem dXR_text_1 : decode cXR_text 1 = .ok (.getfield 9, 3) := by decide +kernel
theorem dXR_text_4 : decode cXR_text 4 = .ok (.invokevirtual 15, 3) := by decide +kernel
theorem dXR_text_7 : decode cXR_text 7 = .ok (.iconst 0, 1) := by decide +kernel
theorem dXR_text_8 : decode cXR_text 8 = .ok (.istore_n 2, 1) := by decide +kernel
theorem dXR_text_9 : decode cXR_text 9 = .ok (.iload_n 2, 1) := by decide +kernel
theorem dXR_text_10 : decode cXR_text 10 = .ok (.sipush 400, 3) := by decide +kernel
theorem dXR_text_13 : decode cXR_text 13 = .ok (.if_icmp .ge 30, 3) := by decide +kernel
theorem dXR_text_16 : decode cXR_text 16 = .ok (.aload_n 0, 1) := by decide +kernel
theorem dXR_text_17 : decode cXR_text 17 = .ok (.getfield 9, 3) := by decide +kernel
theorem dXR_text_20 : decode cXR_text 20 = .ok (.invokevirtual 20, 3) := by decide +kernel
theorem dXR_text_23 : decode cXR_text 23 = .ok (.iconst (-1), 1) := by decide +kernel
theorem dXR_text_24 : decode cXR_text 24 = .ok (.if_icmp .eq 19, 3) := by decide +kernel
theorem dXR_text_27 : decode cXR_text 27 = .ok (.aload_n 0, 1) := by decide +kernel
theorem dXR_text_28 : decode cXR_text 28 = .ok (.aload_n 1, 1) := by decide +kernel
theorem dXR_text_29 : decode cXR_text 29 = .ok (.invokevirtual 24, 3) := by decide +kernel
theorem dXR_text_32 : decode cXR_text 32 = .ok (.ifCond .ne 5, 3) := by decide +kernel
theorem dXR_text_35 : decode cXR_text 35 = .ok (.iconst 0, 1) := by decide +kernel
theorem dXR_text_36 : decode cXR_text 36 = .ok (.ireturn, 1) := by decide +kernel
theorem dXR_text_37 : decode cXR_text 37 = .ok (.iinc 2 1, 3) := by decide +kernel
theorem dXR_text_40 : decode cXR_text 40 = .ok (.goto (-31), 3) := by decide +kernel
theorem dXR_text_43 : decode cXR_text 43 = .ok (.iconst 1, 1) := by decide +kernel
theorem dXR_text_44 : decode cXR_text 44 = .ok (.ireturn, 1) := by decide +kernel
theorem dXT_rewind_0 : decode cXT_rewind 0 = .ok (.aload_n 0, 1) := by decide +kernel
theorem dXT_rewind_1 : decode cXT_rewind 1 = .ok (.iconst 0, 1) := by decide +kernel
theorem dXT_rewind_2 : decode cXT_rewind 2 = .ok (.putfield 19, 3) := by decide +kernel
theorem dXT_rewind_5 : decode cXT_rewind 5 = .ok (.return_, 1) := by decide +kernel
theorem dXT_next_0 : decode cXT_next 0 = .ok (.aload_n 0, 1) := by decide +kernel
theorem dXT_next_1 : decode cXT_next 1 = .ok (.getfield 19, 3) := by decide +kernel
theorem dXT_next_4 : decode cXT_next 4 = .ok (.aload_n 0, 1) := by decide +kernel
theorem dXT_next_5 : decode cXT_next 5 = .ok (.getfield 15, 3) := by decide +kernel
theorem dXT_next_8 : decode cXT_next 8 = .ok (.if_icmp .ge 30, 3) := by decide +kernel
theorem dXT_next_11 : decode cXT_next 11 = .ok (.aload_n 0, 1) := by decide +kernel
theorem dXT_next_12 : decode cXT_next 12 = .ok (.getfield 9, 3) := by decide +kernel
theorem dXT_next_15 : decode cXT_next 15 = .ok (.aload_n 0, 1) := by decide +kernel
theorem dXT_next_16 : decode cXT_next 16 = .ok (.getfield 19, 3) := by decide +kernel
theorem dXT_next_19 : decode cXT_next 19 = .ok (.iaload, 1) := by decide +kernel
theorem dXT_next_20 : decode cXT_next 20 = .ok (.bipush 32, 2) := by decide +kernel
theorem dXT_next_22 : decode cXT_next 22 = .ok (.if_icmp .ne 16, 3) := by decide +kernel
theorem dXT_next_25 : decode cXT_next 25 = .ok (.aload_n 0, 1) := by decide +kernel
theorem dXT_next_26 : decode cXT_next 26 = .ok (.dup, 1) := by decide +kernel
theorem dXT_next_27 : decode cXT_next 27 = .ok (.getfield 19, 3) := by decide +kernel
theorem dXT_next_30 : decode cXT_next 30 = .ok (.iconst 1, 1) := by decide +kernel
theorem dXT_next_31 : decode cXT_next 31 = .ok (.iadd, 1) := by decide +kernel
theorem dXT_next_32 : decode cXT_next 32 = .ok (.putfield 19, 3) := by decide +kernel
theorem dXT_next_35 : decode cXT_next 35 = .ok (.goto (-35), 3) := by decide +kernel
theorem dXT_next_38 : decode cXT_next 38 = .ok (.aload_n 0, 1) := by decide +kernel
theorem dXT_next_39 : decode cXT_next 39 = .ok (.getfield 19, 3) := by decide +kernel
theorem dXT_next_42 : decode cXT_next 42 = .ok (.aload_n 0, 1) := by decide +kernel
theorem dXT_next_43 : decode cXT_next 43 = .ok (.getfield 15, 3) := by decide +kernel
theorem dXT_next_46 : decode cXT_next 46 = .ok (.if_icmp .ge 15, 3) := by decide +kernel
theorem dXT_next_49 : decode cXT_next 49 = .ok (.aload_n 0, 1) := by decide +kernel
theorem dXT_next_50 : decode cXT_next 50 = .ok (.getfield 9, 3) := by decide +kernel
theorem dXT_next_53 : decode cXT_next 53 = .ok (.aload_n 0, 1) := by decide +kernel
theorem dXT_next_54 : decode cXT_next 54 = .ok (.getfield 19, 3) := by decide +kernel
theorem dXT_next_57 : decode cXT_next 57 = .ok (.iaload, 1) := by decide +kernel
theorem dXT_next_58 : decode cXT_next 58 = .ok (.goto 4, 3) := by decide +kernel
theorem dXT_next_61 : decode cXT_next 61 = .ok (.iconst (-1), 1) := by decide +kernel
theorem dXT_next_62 : decode cXT_next 62 = .ok (.ireturn, 1) := by decide +kernel
theorem dXR_row_0 : decode cXR_row 0 = .ok (.aload_n 0, 1) := by decide +kernel
theorem dXR_row_1 : decode cXR_row 1 = .ok (.getfield 9, 3) := by decide +kernel
theorem dXR_row_4 : decode cXR_row 4 = .ok (.bipush 101, 2) := by decide +kernel
theorem dXR_row_6 : decode cXR_row 6 = .ok (.invokevirtual 28, 3) := by decide +kernel
theorem dXR_row_9 : decode cXR_row 9 = .ok (.ifCond .eq 29, 3) := by decide +kernel
theorem dXR_row_12 : decode cXR_row 12 = .ok (.aload_n 0, 1) := by decide +kernel
theorem dXR_row_13 : decode cXR_row 13 = .ok (.aload_n 1, 1) := by decide +kernel
theorem dXR_row_14 : decode cXR_row 14 = .ok (.invokevirtual 32, 3) := by decide +kernel
theorem dXR_row_17 : decode cXR_row 17 = .ok (.ifCond .eq 19, 3) := by decide +kernel
theorem dXR_row_20 : decode cXR_row 20 = .ok (.aload_n 0, 1) := by decide +kernel
theorem dXR_row_21 : decode cXR_row 21 = .ok (.getfield 9, 3) := by decide +kernel
theorem dXR_row_24 : decode cXR_row 24 = .ok (.bipush 59, 2) := by decide +kernel
theorem dXR_row_26 : decode cXR_row 26 = .ok (.invokevirtual 35, 3) := by decide +kernel
theorem dXR_row_29 : decode cXR_row 29 = .ok (.ifCond .eq 7, 3) := by decide +kernel
theorem dXR_row_32 : decode cXR_row 32 = .ok (.iconst 1, 1) := by decide +kernel
theorem dXR_row_33 : decode cXR_row 33 = .ok (.goto 4, 3) := by decide +kernel
theorem dXR_row_36 : decode cXR_row 36 = .ok (.iconst 0, 1) := by decide +kernel
theorem dXR_row_37 : decode cXR_row 37 = .ok (.ireturn, 1) := by decide +kernel
theorem dXR_row_38 : decode cXR_row 38 = .ok (.aload_n 0, 1) := by decide +kernel
theorem dXR_row_39 : decode cXR_row 39 = .ok (.getfield 9, 3) := by decide +kernel
theorem dXR_row_42 : decode cXR_row 42 = .ok (.bipush 103, 2) := by decide +kernel
theorem dXR_row_44 : decode cXR_row 44 = .ok (.invokevirtual 28, 3) := by decide +kernel
theorem dXR_row_47 : decode cXR_row 47 = .ok (.ifCond .eq 29, 3) := by decide +kernel
theorem dXR_row_50 : decode cXR_row 50 = .ok (.aload_n 0, 1) := by decide +kernel
theorem dXR_row_51 : decode cXR_row 51 = .ok (.aload_n 1, 1) := by decide +kernel
theorem dXR_row_52 : decode cXR_row 52 = .ok (.invokevirtual 38, 3) := by decide +kernel
theorem dXR_row_55 : decode cXR_row 55 = .ok (.ifCond .eq 19, 3) := by decide +kernel
theorem dXR_row_58 : decode cXR_row 58 = .ok (.aload_n 0, 1) := by decide +kernel
theorem dXR_row_59 : decode cXR_row 59 = .ok (.getfield 9, 3) := by decide +kernel
theorem dXR_row_62 : decode cXR_row 62 = .ok (.bipush 59, 2) := by decide +kernel
theorem dXR_row_64 : decode cXR_row 64 = .ok (.invokevirtual 35, 3) := by decide +kernel
theorem dXR_row_67 : decode cXR_row 67 = .ok (.ifCond .eq 7, 3) := by decide +kernel
theorem dXR_row_70 : decode cXR_row 70 = .ok (.iconst 1, 1) := by decide +kernel
theorem dXR_row_71 : decode cXR_row 71 = .ok (.goto 4, 3) := by decide +kernel
theorem dXR_row_74 : decode cXR_row 74 = .ok (.iconst 0, 1) := by decide +kernel
theorem dXR_row_75 : decode cXR_row 75 = .ok (.ireturn, 1) := by decide +kernel
theorem dXR_row_76 : decode cXR_row 76 = .ok (.aload_n 0, 1) := by decide +kernel
theorem dXR_row_77 : decode cXR_row 77 = .ok (.getfield 9, 3) := by decide +kernel
theorem dXR_row_80 : decode cXR_row 80 = .ok (.invokevirtual 41, 3) := by decide +kernel
theorem dXR_row_83 : decode cXR_row 83 = .ok (.ireturn, 1) := by decide +kernel
theorem dXT_skipIf_0 : decode cXT_skipIf 0 = .ok (.aload_n 0, 1) := by decide +kernel
theorem dXT_skipIf_1 : decode cXT_skipIf 1 = .ok (.invokevirtual 27, 3) := by decide +kernel
theorem dXT_skipIf_4 : decode cXT_skipIf 4 = .ok (.iload_n 1, 1) := by decide +kernel
theorem dXT_skipIf_5 : decode cXT_skipIf 5 = .ok (.if_icmp .eq 5, 3) := by decide +kernel
theorem dXT_skipIf_8 : decode cXT_skipIf 8 = .ok (.iconst 0, 1) := by decide +kernel
theorem dXT_skipIf_9 : decode cXT_skipIf 9 = .ok (.ireturn, 1) := by decide +kernel
theorem dXT_skipIf_10 : decode cXT_skipIf 10 = .ok (.aload_n 0, 1) := by decide +kernel
theorem dXT_skipIf_11 : decode cXT_skipIf 11 = .ok (.dup, 1) := by decide +kernel
theorem dXT_skipIf_12 : decode cXT_skipIf 12 = .ok (.getfield 19, 3) := by decide +kernel
theorem dXT_skipIf_15 : decode cXT_skipIf 15 = .ok (.iconst 1, 1) := by decide +kernel
theorem dXT_skipIf_16 : decode cXT_skipIf 16 = .ok (.iadd, 1) := by decide +kernel
theorem dXT_skipIf_17 : decode cXT_skipIf 17 = .ok (.putfield 19, 3) := by decide +kernel
theorem dXT_skipIf_20 : decode cXT_skipIf 20 = .ok (.iconst 1, 1) := by decide +kernel
theorem dXT_skipIf_21 : decode cXT_skipIf 21 = .ok (.ireturn, 1) := by decide +kernel
theorem dXR_formula_0 : decode cXR_formula 0 = .ok (.aload_n 0, 1) := by decide +kernel
theorem dXR_formula_1 : decode cXR_formula 1 = .ok (.getfield 9, 3) := by decide +kernel
theorem dXR_formula_4 : decode cXR_formula 4 = .ok (.bipush 48, 2) := by decide +kernel
theorem dXR_formula_6 : decode cXR_formula 6 = .ok (.iconst 4, 1) := by decide +kernel
theorem dXR_formula_7 : decode cXR_formula 7 = .ok (.invokevirtual 45, 3) := by decide +kernel
theorem dXR_formula_10 : decode cXR_formula 10 = .ok (.istore_n 2, 1) := by decide +kernel
theorem dXR_formula_11 : decode cXR_formula 11 = .ok (.iload_n 2, 1) := by decide +kernel
theorem dXR_formula_12 : decode cXR_formula 12 = .ok (.iconst (-1), 1) := by decide +kernel
theorem dXR_formula_13 : decode cXR_formula 13 = .ok (.if_icmp .ne 5, 3) := by decide +kernel
theorem dXR_formula_16 : decode cXR_formula 16 = .ok (.iconst 0, 1) := by decide +kernel
theorem dXR_formula_17 : decode cXR_formula 17 = .ok (.ireturn, 1) := by decide +kernel
theorem dXR_formula_18 : decode cXR_formula 18 = .ok (.aload_n 1, 1) := by decide +kernel
theorem dXR_formula_19 : decode cXR_formula 19 = .ok (.iload_n 2, 1) := by decide +kernel
theorem dXR_formula_20 : decode cXR_formula 20 = .ok (.invokevirtual 49, 3) := by decide +kernel
theorem dXR_formula_23 : decode cXR_formula 23 = .ok (.ifCond .eq 11, 3) := by decide +kernel
theorem dXR_formula_26 : decode cXR_formula 26 = .ok (.aload_n 0, 1) := by decide +kernel
theorem dXR_formula_27 : decode cXR_formula 27 = .ok (.getfield 9, 3) := by decide +kernel
theorem dXR_formula_30 : decode cXR_formula 30 = .ok (.invokevirtual 54, 3) := by decide +kernel
theorem dXR_formula_33 : decode cXR_formula 33 = .ok (.ireturn, 1) := by decide +kernel
theorem dXR_formula_34 : decode cXR_formula 34 = .ok (.aload_n 1, 1) := by decide +kernel
theorem dXR_formula_35 : decode cXR_formula 35 = .ok (.iload_n 2, 1) := by decide +kernel
theorem dXR_formula_36 : decode cXR_formula 36 = .ok (.invokevirtual 57, 3) := by decide +kernel
theorem dXR_formula_39 : decode cXR_formula 39 = .ok (.aload_n 0, 1) := by decide +kernel
theorem dXR_formula_40 : decode cXR_formula 40 = .ok (.getfield 9, 3) := by decide +kernel
theorem dXR_formula_43 : decode cXR_formula 43 = .ok (.bipush 61, 2) := by decide +kernel
theorem dXR_formula_45 : decode cXR_formula 45 = .ok (.invokevirtual 35, 3) := by decide +kernel
theorem dXR_formula_48 : decode cXR_formula 48 = .ok (.ifCond .eq 16, 3) := by decide +kernel
theorem dXR_formula_51 : decode cXR_formula 51 = .ok (.aload_n 0, 1) := by decide +kernel
theorem dXR_formula_52 : decode cXR_formula 52 = .ok (.aload_n 1, 1) := by decide +kernel
theorem dXR_formula_53 : decode cXR_formula 53 = .ok (.iload_n 2, 1) := by decide +kernel
theorem dXR_formula_54 : decode cXR_formula 54 = .ok (.invokevirtual 61, 3) := by decide +kernel
theorem dXR_formula_57 : decode cXR_formula 57 = .ok (.ifCond .eq 7, 3) := by decide +kernel
theorem dXR_formula_60 : decode cXR_formula 60 = .ok (.iconst 1, 1) := by decide +kernel
theorem dXR_formula_61 : decode cXR_formula 61 = .ok (.goto 4, 3) := by decide +kernel
theorem dXR_formula_64 : decode cXR_formula 64 = .ok (.iconst 0, 1) := by decide +kernel
theorem dXR_formula_65 : decode cXR_formula 65 = .ok (.ireturn, 1) := by decide +kernel
theorem dXT_takeOneOf_0 : decode cXT_takeOneOf 0 = .ok (.aload_n 0, 1) := by decide +kernel
theorem dXT_takeOneOf_1 : decode cXT_takeOneOf 1 = .ok (.invokevirtual 27, 3) := by decide +kernel
theorem dXT_takeOneOf_4 : decode cXT_takeOneOf 4 = .ok (.iload_n 1, 1) := by decide +kernel
theorem dXT_takeOneOf_5 : decode cXT_takeOneOf 5 = .ok (.isub, 1) := by decide +kernel
theorem dXT_takeOneOf_6 : decode cXT_takeOneOf 6 = .ok (.istore_n 3, 1) := by decide +kernel
theorem dXT_takeOneOf_7 : decode cXT_takeOneOf 7 = .ok (.iload_n 3, 1) := by decide +kernel
theorem dXT_takeOneOf_8 : decode cXT_takeOneOf 8 = .ok (.ifCond .lt 8, 3) := by decide +kernel
theorem dXT_takeOneOf_11 : decode cXT_takeOneOf 11 = .ok (.iload_n 3, 1) := by decide +kernel
theorem dXT_takeOneOf_12 : decode cXT_takeOneOf 12 = .ok (.iload_n 2, 1) := by decide +kernel
theorem dXT_takeOneOf_13 : decode cXT_takeOneOf 13 = .ok (.if_icmp .lt 10, 3) := by decide +kernel
theorem dXT_takeOneOf_16 : decode cXT_takeOneOf 16 = .ok (.aload_n 0, 1) := by decide +kernel
theorem dXT_takeOneOf_17 : decode cXT_takeOneOf 17 = .ok (.invokevirtual 31, 3) := by decide +kernel
theorem dXT_takeOneOf_20 : decode cXT_takeOneOf 20 = .ok (.pop, 1) := by decide +kernel
theorem dXT_takeOneOf_21 : decode cXT_takeOneOf 21 = .ok (.iconst (-1), 1) := by decide +kernel
theorem dXT_takeOneOf_22 : decode cXT_takeOneOf 22 = .ok (.ireturn, 1) := by decide +kernel
theorem dXT_takeOneOf_23 : decode cXT_takeOneOf 23 = .ok (.aload_n 0, 1) := by decide +kernel
theorem dXT_takeOneOf_24 : decode cXT_takeOneOf 24 = .ok (.dup, 1) := by decide +kernel
theorem dXT_takeOneOf_25 : decode cXT_takeOneOf 25 = .ok (.getfield 19, 3) := by decide +kernel
theorem dXT_takeOneOf_28 : decode cXT_takeOneOf 28 = .ok (.iconst 1, 1) := by decide +kernel
theorem dXT_takeOneOf_29 : decode cXT_takeOneOf 29 = .ok (.iadd, 1) := by decide +kernel
theorem dXT_takeOneOf_30 : decode cXT_takeOneOf 30 = .ok (.putfield 19, 3) := by decide +kernel
theorem dXT_takeOneOf_33 : decode cXT_takeOneOf 33 = .ok (.iload_n 3, 1) := by decide +kernel
theorem dXT_takeOneOf_34 : decode cXT_takeOneOf 34 = .ok (.ireturn, 1) := by decide +kernel
theorem dXT_refuse_0 : decode cXT_refuse 0 = .ok (.aload_n 0, 1) := by decide +kernel
theorem dXT_refuse_1 : decode cXT_refuse 1 = .ok (.aload_n 0, 1) := by decide +kernel
theorem dXT_refuse_2 : decode cXT_refuse 2 = .ok (.getfield 19, 3) := by decide +kernel
theorem dXT_refuse_5 : decode cXT_refuse 5 = .ok (.putfield 22, 3) := by decide +kernel
theorem dXT_refuse_8 : decode cXT_refuse 8 = .ok (.iconst 0, 1) := by decide +kernel
theorem dXT_refuse_9 : decode cXT_refuse 9 = .ok (.ireturn, 1) := by decide +kernel
theorem dXB_hasFormula_0 : decode cXB_hasFormula 0 = .ok (.aload_n 0, 1) := by decide +kernel
theorem dXB_hasFormula_1 : decode cXB_hasFormula 1 = .ok (.getfield 37, 3) := by decide +kernel
theorem dXB_hasFormula_4 : decode cXB_hasFormula 4 = .ok (.iload_n 1, 1) := by decide +kernel
theorem dXB_hasFormula_5 : decode cXB_hasFormula 5 = .ok (.invokestatic 52, 3) := by decide +kernel
theorem dXB_hasFormula_8 : decode cXB_hasFormula 8 = .ok (.ireturn, 1) := by decide +kernel
theorem dXG_hasBit_0 : decode cXG_hasBit 0 = .ok (.iload_n 0, 1) := by decide +kernel
theorem dXG_hasBit_1 : decode cXG_hasBit 1 = .ok (.iconst 1, 1) := by decide +kernel
theorem dXG_hasBit_2 : decode cXG_hasBit 2 = .ok (.iload_n 1, 1) := by decide +kernel
theorem dXG_hasBit_3 : decode cXG_hasBit 3 = .ok (.ishl, 1) := by decide +kernel
theorem dXG_hasBit_4 : decode cXG_hasBit 4 = .ok (.iand, 1) := by decide +kernel
theorem dXG_hasBit_5 : decode cXG_hasBit 5 = .ok (.ifCond .eq 7, 3) := by decide +kernel
theorem dXG_hasBit_8 : decode cXG_hasBit 8 = .ok (.iconst 1, 1) := by decide +kernel
theorem dXG_hasBit_9 : decode cXG_hasBit 9 = .ok (.goto 4, 3) := by decide +kernel
theorem dXG_hasBit_12 : decode cXG_hasBit 12 = .ok (.iconst 0, 1) := by decide +kernel
theorem dXG_hasBit_13 : decode cXG_hasBit 13 = .ok (.ireturn, 1) := by decide +kernel
theorem dXT_refuseLast_0 : decode cXT_refuseLast 0 = .ok (.aload_n 0, 1) := by decide +kernel
theorem dXT_refuseLast_1 : decode cXT_refuseLast 1 = .ok (.aload_n 0, 1) := by decide +kernel
theorem dXT_refuseLast_2 : decode cXT_refuseLast 2 = .ok (.getfield 19, 3) := by decide +kernel
theorem dXT_refuseLast_5 : decode cXT_refuseLast 5 = .ok (.iconst 1, 1) := by decide +kernel
theorem dXT_refuseLast_6 : decode cXT_refuseLast 6 = .ok (.isub, 1) := by decide +kernel
theorem dXT_refuseLast_7 : decode cXT_refuseLast 7 = .ok (.putfield 22, 3) := by decide +kernel
theorem dXT_refuseLast_10 : decode cXT_refuseLast 10 = .ok (.iconst 0, 1) := by decide +kernel
theorem dXT_refuseLast_11 : decode cXT_refuseLast 11 = .ok (.ireturn, 1) := by decide +kernel
theorem dXB_tellFormula_0 : decode cXB_tellFormula 0 = .ok (.aload_n 0, 1) := by decide +kernel
theorem dXB_tellFormula_1 : decode cXB_tellFormula 1 = .ok (.dup, 1) := by decide +kernel
theorem dXB_tellFormula_2 : decode cXB_tellFormula 2 = .ok (.getfield 37, 3) := by decide +kernel
theorem dXB_tellFormula_5 : decode cXB_tellFormula 5 = .ok (.iconst 1, 1) := by decide +kernel
theorem dXB_tellFormula_6 : decode cXB_tellFormula 6 = .ok (.iload_n 1, 1) := by decide +kernel
theorem dXB_tellFormula_7 : decode cXB_tellFormula 7 = .ok (.ishl, 1) := by decide +kernel
theorem dXB_tellFormula_8 : decode cXB_tellFormula 8 = .ok (.ior, 1) := by decide +kernel
theorem dXB_tellFormula_9 : decode cXB_tellFormula 9 = .ok (.putfield 37, 3) := by decide +kernel
theorem dXB_tellFormula_12 : decode cXB_tellFormula 12 = .ok (.return_, 1) := by decide +kernel
theorem dXT_take_0 : decode cXT_take 0 = .ok (.aload_n 0, 1) := by decide +kernel
theorem dXT_take_1 : decode cXT_take 1 = .ok (.invokevirtual 27, 3) := by decide +kernel
theorem dXT_take_4 : decode cXT_take 4 = .ok (.iload_n 1, 1) := by decide +kernel
theorem dXT_take_5 : decode cXT_take 5 = .ok (.if_icmp .eq 8, 3) := by decide +kernel
theorem dXT_take_8 : decode cXT_take 8 = .ok (.aload_n 0, 1) := by decide +kernel
theorem dXT_take_9 : decode cXT_take 9 = .ok (.invokevirtual 31, 3) := by decide +kernel
theorem dXT_take_12 : decode cXT_take 12 = .ok (.ireturn, 1) := by decide +kernel
theorem dXT_take_13 : decode cXT_take 13 = .ok (.aload_n 0, 1) := by decide +kernel
theorem dXT_take_14 : decode cXT_take 14 = .ok (.dup, 1) := by decide +kernel
theorem dXT_take_15 : decode cXT_take 15 = .ok (.getfield 19, 3) := by decide +kernel
theorem dXT_take_18 : decode cXT_take 18 = .ok (.iconst 1, 1) := by decide +kernel
theorem dXT_take_19 : decode cXT_take 19 = .ok (.iadd, 1) := by decide +kernel
theorem dXT_take_20 : decode cXT_take 20 = .ok (.putfield 19, 3) := by decide +kernel
theorem dXT_take_23 : decode cXT_take 23 = .ok (.iconst 1, 1) := by decide +kernel
theorem dXT_take_24 : decode cXT_take 24 = .ok (.ireturn, 1) := by decide +kernel
theorem dXR_terms_0 : decode cXR_terms 0 = .ok (.iconst 0, 1) := by decide +kernel
theorem dXR_terms_1 : decode cXR_terms 1 = .ok (.istore_n 3, 1) := by decide +kernel
theorem dXR_terms_2 : decode cXR_terms 2 = .ok (.iload_n 3, 1) := by decide +kernel
theorem dXR_terms_3 : decode cXR_terms 3 = .ok (.bipush 8, 2) := by decide +kernel
theorem dXR_terms_5 : decode cXR_terms 5 = .ok (.if_icmp .gt 107, 3) := by decide +kernel
theorem dXR_terms_8 : decode cXR_terms 8 = .ok (.aload_n 0, 1) := by decide +kernel
theorem dXR_terms_9 : decode cXR_terms 9 = .ok (.getfield 9, 3) := by decide +kernel
theorem dXR_terms_12 : decode cXR_terms 12 = .ok (.bipush 65, 2) := by decide +kernel
theorem dXR_terms_14 : decode cXR_terms 14 = .ok (.bipush 8, 2) := by decide +kernel
theorem dXR_terms_16 : decode cXR_terms 16 = .ok (.invokevirtual 45, 3) := by decide +kernel
theorem dXR_terms_19 : decode cXR_terms 19 = .ok (.istore 4, 2) := by decide +kernel
theorem dXR_terms_21 : decode cXR_terms 21 = .ok (.iload 4, 2) := by decide +kernel
theorem dXR_terms_23 : decode cXR_terms 23 = .ok (.iconst (-1), 1) := by decide +kernel
theorem dXR_terms_24 : decode cXR_terms 24 = .ok (.if_icmp .ne 5, 3) := by decide +kernel
theorem dXR_terms_27 : decode cXR_terms 27 = .ok (.iconst 0, 1) := by decide +kernel
theorem dXR_terms_28 : decode cXR_terms 28 = .ok (.ireturn, 1) := by decide +kernel
theorem dXR_terms_29 : decode cXR_terms 29 = .ok (.aload_n 1, 1) := by decide +kernel
theorem dXR_terms_30 : decode cXR_terms 30 = .ok (.iload_n 2, 1) := by decide +kernel
theorem dXR_terms_31 : decode cXR_terms 31 = .ok (.iload 4, 2) := by decide +kernel
theorem dXR_terms_33 : decode cXR_terms 33 = .ok (.invokevirtual 65, 3) := by decide +kernel
theorem dXR_terms_36 : decode cXR_terms 36 = .ok (.ifCond .le 11, 3) := by decide +kernel
theorem dXR_terms_39 : decode cXR_terms 39 = .ok (.aload_n 0, 1) := by decide +kernel
theorem dXR_terms_40 : decode cXR_terms 40 = .ok (.getfield 9, 3) := by decide +kernel
theorem dXR_terms_43 : decode cXR_terms 43 = .ok (.invokevirtual 54, 3) := by decide +kernel
theorem dXR_terms_46 : decode cXR_terms 46 = .ok (.ireturn, 1) := by decide +kernel
theorem dXR_terms_47 : decode cXR_terms 47 = .ok (.aload_n 0, 1) := by decide +kernel
theorem dXR_terms_48 : decode cXR_terms 48 = .ok (.getfield 9, 3) := by decide +kernel
theorem dXR_terms_51 : decode cXR_terms 51 = .ok (.bipush 47, 2) := by decide +kernel
theorem dXR_terms_53 : decode cXR_terms 53 = .ok (.invokevirtual 28, 3) := by decide +kernel
theorem dXR_terms_56 : decode cXR_terms 56 = .ok (.ifCond .eq 16, 3) := by decide +kernel
theorem dXR_terms_59 : decode cXR_terms 59 = .ok (.aload_n 0, 1) := by decide +kernel
theorem dXR_terms_60 : decode cXR_terms 60 = .ok (.getfield 9, 3) := by decide +kernel
theorem dXR_terms_63 : decode cXR_terms 63 = .ok (.iconst 1, 1) := by decide +kernel
theorem dXR_terms_64 : decode cXR_terms 64 = .ok (.bipush 20, 2) := by decide +kernel
theorem dXR_terms_66 : decode cXR_terms 66 = .ok (.invokevirtual 68, 3) := by decide +kernel
theorem dXR_terms_69 : decode cXR_terms 69 = .ok (.goto 4, 3) := by decide +kernel
theorem dXR_terms_72 : decode cXR_terms 72 = .ok (.iconst 1, 1) := by decide +kernel
theorem dXR_terms_73 : decode cXR_terms 73 = .ok (.istore 5, 2) := by decide +kernel
theorem dXR_terms_75 : decode cXR_terms 75 = .ok (.iload 5, 2) := by decide +kernel
theorem dXR_terms_77 : decode cXR_terms 77 = .ok (.iconst (-1), 1) := by decide +kernel
theorem dXR_terms_78 : decode cXR_terms 78 = .ok (.if_icmp .ne 5, 3) := by decide +kernel
theorem dXR_terms_81 : decode cXR_terms 81 = .ok (.iconst 0, 1) := by decide +kernel
theorem dXR_terms_82 : decode cXR_terms 82 = .ok (.ireturn, 1) := by decide +kernel
theorem dXR_terms_83 : decode cXR_terms 83 = .ok (.aload_n 1, 1) := by decide +kernel
theorem dXR_terms_84 : decode cXR_terms 84 = .ok (.iload_n 2, 1) := by decide +kernel
theorem dXR_terms_85 : decode cXR_terms 85 = .ok (.iload 4, 2) := by decide +kernel
theorem dXR_terms_87 : decode cXR_terms 87 = .ok (.iload 5, 2) := by decide +kernel
theorem dXR_terms_89 : decode cXR_terms 89 = .ok (.invokevirtual 71, 3) := by decide +kernel
theorem dXR_terms_92 : decode cXR_terms 92 = .ok (.aload_n 0, 1) := by decide +kernel
theorem dXR_terms_93 : decode cXR_terms 93 = .ok (.getfield 9, 3) := by decide +kernel
theorem dXR_terms_96 : decode cXR_terms 96 = .ok (.bipush 43, 2) := by decide +kernel
theorem dXR_terms_98 : decode cXR_terms 98 = .ok (.invokevirtual 28, 3) := by decide +kernel
theorem dXR_terms_101 : decode cXR_terms 101 = .ok (.ifCond .ne 5, 3) := by decide +kernel
theorem dXR_terms_104 : decode cXR_terms 104 = .ok (.iconst 1, 1) := by decide +kernel
theorem dXR_terms_105 : decode cXR_terms 105 = .ok (.ireturn, 1) := by decide +kernel
theorem dXR_terms_106 : decode cXR_terms 106 = .ok (.iinc 3 1, 3) := by decide +kernel
theorem dXR_terms_109 : decode cXR_terms 109 = .ok (.goto (-107), 3) := by decide +kernel
theorem dXR_terms_112 : decode cXR_terms 112 = .ok (.aload_n 0, 1) := by decide +kernel
theorem dXR_terms_113 : decode cXR_terms 113 = .ok (.getfield 9, 3) := by decide +kernel
theorem dXR_terms_116 : decode cXR_terms 116 = .ok (.invokevirtual 41, 3) := by decide +kernel
theorem dXR_terms_119 : decode cXR_terms 119 = .ok (.ireturn, 1) := by decide +kernel
theorem dXB_divisorOf_0 : decode cXB_divisorOf 0 = .ok (.aload_n 0, 1) := by decide +kernel
theorem dXB_divisorOf_1 : decode cXB_divisorOf 1 = .ok (.getfield 30, 3) := by decide +kernel
theorem dXB_divisorOf_4 : decode cXB_divisorOf 4 = .ok (.iload_n 1, 1) := by decide +kernel
theorem dXB_divisorOf_5 : decode cXB_divisorOf 5 = .ok (.bipush 8, 2) := by decide +kernel
theorem dXB_divisorOf_7 : decode cXB_divisorOf 7 = .ok (.imul, 1) := by decide +kernel
theorem dXB_divisorOf_8 : decode cXB_divisorOf 8 = .ok (.iload_n 2, 1) := by decide +kernel
theorem dXB_divisorOf_9 : decode cXB_divisorOf 9 = .ok (.iadd, 1) := by decide +kernel
theorem dXB_divisorOf_10 : decode cXB_divisorOf 10 = .ok (.iaload, 1) := by decide +kernel
theorem dXB_divisorOf_11 : decode cXB_divisorOf 11 = .ok (.ireturn, 1) := by decide +kernel
theorem dXT_number_0 : decode cXT_number 0 = .ok (.aload_n 0, 1) := by decide +kernel
theorem dXT_number_1 : decode cXT_number 1 = .ok (.invokevirtual 27, 3) := by decide +kernel
theorem dXT_number_4 : decode cXT_number 4 = .ok (.invokestatic 35, 3) := by decide +kernel
theorem dXT_number_7 : decode cXT_number 7 = .ok (.ifCond .ne 10, 3) := by decide +kernel
theorem dXT_number_10 : decode cXT_number 10 = .ok (.aload_n 0, 1) := by decide +kernel
theorem dXT_number_11 : decode cXT_number 11 = .ok (.invokevirtual 31, 3) := by decide +kernel
theorem dXT_number_14 : decode cXT_number 14 = .ok (.pop, 1) := by decide +kernel
theorem dXT_number_15 : decode cXT_number 15 = .ok (.iconst (-1), 1) := by decide +kernel
theorem dXT_number_16 : decode cXT_number 16 = .ok (.ireturn, 1) := by decide +kernel
theorem dXT_number_17 : decode cXT_number 17 = .ok (.iconst 0, 1) := by decide +kernel
theorem dXT_number_18 : decode cXT_number 18 = .ok (.istore_n 3, 1) := by decide +kernel
theorem dXT_number_19 : decode cXT_number 19 = .ok (.iconst 0, 1) := by decide +kernel
theorem dXT_number_20 : decode cXT_number 20 = .ok (.istore 4, 2) := by decide +kernel
theorem dXT_number_22 : decode cXT_number 22 = .ok (.iload 4, 2) := by decide +kernel
theorem dXT_number_24 : decode cXT_number 24 = .ok (.bipush 6, 2) := by decide +kernel
theorem dXT_number_26 : decode cXT_number 26 = .ok (.if_icmp .ge 54, 3) := by decide +kernel
theorem dXT_number_29 : decode cXT_number 29 = .ok (.aload_n 0, 1) := by decide +kernel
theorem dXT_number_30 : decode cXT_number 30 = .ok (.invokevirtual 39, 3) := by decide +kernel
theorem dXT_number_33 : decode cXT_number 33 = .ok (.invokestatic 35, 3) := by decide +kernel
theorem dXT_number_36 : decode cXT_number 36 = .ok (.ifCond .eq 44, 3) := by decide +kernel
theorem dXT_number_39 : decode cXT_number 39 = .ok (.iload 4, 2) := by decide +kernel
theorem dXT_number_41 : decode cXT_number 41 = .ok (.ifCond .le 10, 3) := by decide +kernel
theorem dXT_number_44 : decode cXT_number 44 = .ok (.iload_n 3, 1) := by decide +kernel
theorem dXT_number_45 : decode cXT_number 45 = .ok (.ifCond .ne 6, 3) := by decide +kernel
theorem dXT_number_48 : decode cXT_number 48 = .ok (.goto 32, 3) := by decide +kernel
theorem dXT_number_51 : decode cXT_number 51 = .ok (.iload_n 3, 1) := by decide +kernel
theorem dXT_number_52 : decode cXT_number 52 = .ok (.bipush 10, 2) := by decide +kernel
theorem dXT_number_54 : decode cXT_number 54 = .ok (.imul, 1) := by decide +kernel
theorem dXT_number_55 : decode cXT_number 55 = .ok (.aload_n 0, 1) := by decide +kernel
theorem dXT_number_56 : decode cXT_number 56 = .ok (.invokevirtual 39, 3) := by decide +kernel
theorem dXT_number_59 : decode cXT_number 59 = .ok (.iadd, 1) := by decide +kernel
theorem dXT_number_60 : decode cXT_number 60 = .ok (.bipush 48, 2) := by decide +kernel
theorem dXT_number_62 : decode cXT_number 62 = .ok (.isub, 1) := by decide +kernel
theorem dXT_number_63 : decode cXT_number 63 = .ok (.istore_n 3, 1) := by decide +kernel
theorem dXT_number_64 : decode cXT_number 64 = .ok (.aload_n 0, 1) := by decide +kernel
theorem dXT_number_65 : decode cXT_number 65 = .ok (.dup, 1) := by decide +kernel
theorem dXT_number_66 : decode cXT_number 66 = .ok (.getfield 19, 3) := by decide +kernel
theorem dXT_number_69 : decode cXT_number 69 = .ok (.iconst 1, 1) := by decide +kernel
theorem dXT_number_70 : decode cXT_number 70 = .ok (.iadd, 1) := by decide +kernel
theorem dXT_number_71 : decode cXT_number 71 = .ok (.putfield 19, 3) := by decide +kernel
theorem dXT_number_74 : decode cXT_number 74 = .ok (.iinc 4 1, 3) := by decide +kernel
theorem dXT_number_77 : decode cXT_number 77 = .ok (.goto (-55), 3) := by decide +kernel
theorem dXT_number_80 : decode cXT_number 80 = .ok (.iload_n 3, 1) := by decide +kernel
theorem dXT_number_81 : decode cXT_number 81 = .ok (.iload_n 1, 1) := by decide +kernel
theorem dXT_number_82 : decode cXT_number 82 = .ok (.if_icmp .lt 8, 3) := by decide +kernel
theorem dXT_number_85 : decode cXT_number 85 = .ok (.iload_n 3, 1) := by decide +kernel
theorem dXT_number_86 : decode cXT_number 86 = .ok (.iload_n 2, 1) := by decide +kernel
theorem dXT_number_87 : decode cXT_number 87 = .ok (.if_icmp .le 10, 3) := by decide +kernel
theorem dXT_number_90 : decode cXT_number 90 = .ok (.aload_n 0, 1) := by decide +kernel
theorem dXT_number_91 : decode cXT_number 91 = .ok (.invokevirtual 42, 3) := by decide +kernel
theorem dXT_number_94 : decode cXT_number 94 = .ok (.pop, 1) := by decide +kernel
theorem dXT_number_95 : decode cXT_number 95 = .ok (.iconst (-1), 1) := by decide +kernel
theorem dXT_number_96 : decode cXT_number 96 = .ok (.ireturn, 1) := by decide +kernel
theorem dXT_number_97 : decode cXT_number 97 = .ok (.aload_n 0, 1) := by decide +kernel
theorem dXT_number_98 : decode cXT_number 98 = .ok (.invokevirtual 39, 3) := by decide +kernel
theorem dXT_number_101 : decode cXT_number 101 = .ok (.invokestatic 35, 3) := by decide +kernel
theorem dXT_number_104 : decode cXT_number 104 = .ok (.ifCond .eq 10, 3) := by decide +kernel
theorem dXT_number_107 : decode cXT_number 107 = .ok (.aload_n 0, 1) := by decide +kernel
theorem dXT_number_108 : decode cXT_number 108 = .ok (.invokevirtual 31, 3) := by decide +kernel
theorem dXT_number_111 : decode cXT_number 111 = .ok (.pop, 1) := by decide +kernel
theorem dXT_number_112 : decode cXT_number 112 = .ok (.iconst (-1), 1) := by decide +kernel
theorem dXT_number_113 : decode cXT_number 113 = .ok (.ireturn, 1) := by decide +kernel
theorem dXT_number_114 : decode cXT_number 114 = .ok (.iload_n 3, 1) := by decide +kernel
theorem dXT_number_115 : decode cXT_number 115 = .ok (.ireturn, 1) := by decide +kernel
theorem dXG_isDigit_0 : decode cXG_isDigit 0 = .ok (.iload_n 0, 1) := by decide +kernel
theorem dXG_isDigit_1 : decode cXG_isDigit 1 = .ok (.bipush 48, 2) := by decide +kernel
theorem dXG_isDigit_3 : decode cXG_isDigit 3 = .ok (.if_icmp .lt 13, 3) := by decide +kernel
theorem dXG_isDigit_6 : decode cXG_isDigit 6 = .ok (.iload_n 0, 1) := by decide +kernel
theorem dXG_isDigit_7 : decode cXG_isDigit 7 = .ok (.bipush 57, 2) := by decide +kernel
theorem dXG_isDigit_9 : decode cXG_isDigit 9 = .ok (.if_icmp .gt 7, 3) := by decide +kernel
theorem dXG_isDigit_12 : decode cXG_isDigit 12 = .ok (.iconst 1, 1) := by decide +kernel
theorem dXG_isDigit_13 : decode cXG_isDigit 13 = .ok (.goto 4, 3) := by decide +kernel
theorem dXG_isDigit_16 : decode cXG_isDigit 16 = .ok (.iconst 0, 1) := by decide +kernel
theorem dXG_isDigit_17 : decode cXG_isDigit 17 = .ok (.ireturn, 1) := by decide +kernel
theorem dXT_here_0 : decode cXT_here 0 = .ok (.aload_n 0, 1) := by decide +kernel
theorem dXT_here_1 : decode cXT_here 1 = .ok (.getfield 19, 3) := by decide +kernel
theorem dXT_here_4 : decode cXT_here 4 = .ok (.aload_n 0, 1) := by decide +kernel
theorem dXT_here_5 : decode cXT_here 5 = .ok (.getfield 15, 3) := by decide +kernel
theorem dXT_here_8 : decode cXT_here 8 = .ok (.if_icmp .ge 15, 3) := by decide +kernel
theorem dXT_here_11 : decode cXT_here 11 = .ok (.aload_n 0, 1) := by decide +kernel
theorem dXT_here_12 : decode cXT_here 12 = .ok (.getfield 9, 3) := by decide +kernel
theorem dXT_here_15 : decode cXT_here 15 = .ok (.aload_n 0, 1) := by decide +kernel
theorem dXT_here_16 : decode cXT_here 16 = .ok (.getfield 19, 3) := by decide +kernel
theorem dXT_here_19 : decode cXT_here 19 = .ok (.iaload, 1) := by decide +kernel
theorem dXT_here_20 : decode cXT_here 20 = .ok (.goto 4, 3) := by decide +kernel
theorem dXT_here_23 : decode cXT_here 23 = .ok (.iconst (-1), 1) := by decide +kernel
theorem dXT_here_24 : decode cXT_here 24 = .ok (.ireturn, 1) := by decide +kernel
theorem dXB_tellTerm_0 : decode cXB_tellTerm 0 = .ok (.aload_n 0, 1) := by decide +kernel
theorem dXB_tellTerm_1 : decode cXB_tellTerm 1 = .ok (.getfield 30, 3) := by decide +kernel
theorem dXB_tellTerm_4 : decode cXB_tellTerm 4 = .ok (.iload_n 1, 1) := by decide +kernel
theorem dXB_tellTerm_5 : decode cXB_tellTerm 5 = .ok (.bipush 8, 2) := by decide +kernel
theorem dXB_tellTerm_7 : decode cXB_tellTerm 7 = .ok (.imul, 1) := by decide +kernel
theorem dXB_tellTerm_8 : decode cXB_tellTerm 8 = .ok (.iload_n 2, 1) := by decide +kernel
theorem dXB_tellTerm_9 : decode cXB_tellTerm 9 = .ok (.iadd, 1) := by decide +kernel
theorem dXB_tellTerm_10 : decode cXB_tellTerm 10 = .ok (.iload_n 3, 1) := by decide +kernel
theorem dXB_tellTerm_11 : decode cXB_tellTerm 11 = .ok (.iastore, 1) := by decide +kernel
theorem dXB_tellTerm_12 : decode cXB_tellTerm 12 = .ok (.return_, 1) := by decide +kernel
theorem dXR_grade_0 : decode cXR_grade 0 = .ok (.aload_n 0, 1) := by decide +kernel
theorem dXR_grade_1 : decode cXR_grade 1 = .ok (.getfield 9, 3) := by decide +kernel
theorem dXR_grade_4 : decode cXR_grade 4 = .ok (.iconst 1, 1) := by decide +kernel
theorem dXR_grade_5 : decode cXR_grade 5 = .ok (.bipush 30, 2) := by decide +kernel
theorem dXR_grade_7 : decode cXR_grade 7 = .ok (.invokevirtual 68, 3) := by decide +kernel
theorem dXR_grade_10 : decode cXR_grade 10 = .ok (.istore_n 2, 1) := by decide +kernel
theorem dXR_grade_11 : decode cXR_grade 11 = .ok (.iload_n 2, 1) := by decide +kernel
theorem dXR_grade_12 : decode cXR_grade 12 = .ok (.iconst (-1), 1) := by decide +kernel
theorem dXR_grade_13 : decode cXR_grade 13 = .ok (.if_icmp .ne 5, 3) := by decide +kernel
theorem dXR_grade_16 : decode cXR_grade 16 = .ok (.iconst 0, 1) := by decide +kernel
theorem dXR_grade_17 : decode cXR_grade 17 = .ok (.ireturn, 1) := by decide +kernel
theorem dXR_grade_18 : decode cXR_grade 18 = .ok (.aload_n 1, 1) := by decide +kernel
theorem dXR_grade_19 : decode cXR_grade 19 = .ok (.iload_n 2, 1) := by decide +kernel
theorem dXR_grade_20 : decode cXR_grade 20 = .ok (.invokevirtual 75, 3) := by decide +kernel
theorem dXR_grade_23 : decode cXR_grade 23 = .ok (.ifCond .eq 11, 3) := by decide +kernel
theorem dXR_grade_26 : decode cXR_grade 26 = .ok (.aload_n 0, 1) := by decide +kernel
theorem dXR_grade_27 : decode cXR_grade 27 = .ok (.getfield 9, 3) := by decide +kernel
theorem dXR_grade_30 : decode cXR_grade 30 = .ok (.invokevirtual 54, 3) := by decide +kernel
theorem dXR_grade_33 : decode cXR_grade 33 = .ok (.ireturn, 1) := by decide +kernel
theorem dXR_grade_34 : decode cXR_grade 34 = .ok (.aload_n 1, 1) := by decide +kernel
theorem dXR_grade_35 : decode cXR_grade 35 = .ok (.iload_n 2, 1) := by decide +kernel
theorem dXR_grade_36 : decode cXR_grade 36 = .ok (.invokevirtual 78, 3) := by decide +kernel
theorem dXR_grade_39 : decode cXR_grade 39 = .ok (.aload_n 0, 1) := by decide +kernel
theorem dXR_grade_40 : decode cXR_grade 40 = .ok (.aload_n 1, 1) := by decide +kernel
theorem dXR_grade_41 : decode cXR_grade 41 = .ok (.iload_n 2, 1) := by decide +kernel
theorem dXR_grade_42 : decode cXR_grade 42 = .ok (.invokevirtual 81, 3) := by decide +kernel
theorem dXR_grade_45 : decode cXR_grade 45 = .ok (.ifCond .eq 34, 3) := by decide +kernel
theorem dXR_grade_48 : decode cXR_grade 48 = .ok (.aload_n 0, 1) := by decide +kernel
theorem dXR_grade_49 : decode cXR_grade 49 = .ok (.aload_n 1, 1) := by decide +kernel
theorem dXR_grade_50 : decode cXR_grade 50 = .ok (.iload_n 2, 1) := by decide +kernel
theorem dXR_grade_51 : decode cXR_grade 51 = .ok (.invokevirtual 84, 3) := by decide +kernel
theorem dXR_grade_54 : decode cXR_grade 54 = .ok (.ifCond .eq 25, 3) := by decide +kernel
theorem dXR_grade_57 : decode cXR_grade 57 = .ok (.aload_n 0, 1) := by decide +kernel
theorem dXR_grade_58 : decode cXR_grade 58 = .ok (.aload_n 1, 1) := by decide +kernel
theorem dXR_grade_59 : decode cXR_grade 59 = .ok (.iload_n 2, 1) := by decide +kernel
theorem dXR_grade_60 : decode cXR_grade 60 = .ok (.invokevirtual 87, 3) := by decide +kernel
theorem dXR_grade_63 : decode cXR_grade 63 = .ok (.ifCond .eq 16, 3) := by decide +kernel
theorem dXR_grade_66 : decode cXR_grade 66 = .ok (.aload_n 0, 1) := by decide +kernel
theorem dXR_grade_67 : decode cXR_grade 67 = .ok (.aload_n 1, 1) := by decide +kernel
theorem dXR_grade_68 : decode cXR_grade 68 = .ok (.iload_n 2, 1) := by decide +kernel
theorem dXR_grade_69 : decode cXR_grade 69 = .ok (.invokevirtual 90, 3) := by decide +kernel
theorem dXR_grade_72 : decode cXR_grade 72 = .ok (.ifCond .eq 7, 3) := by decide +kernel
theorem dXR_grade_75 : decode cXR_grade 75 = .ok (.iconst 1, 1) := by decide +kernel
theorem dXR_grade_76 : decode cXR_grade 76 = .ok (.goto 4, 3) := by decide +kernel
theorem dXR_grade_79 : decode cXR_grade 79 = .ok (.iconst 0, 1) := by decide +kernel
theorem dXR_grade_80 : decode cXR_grade 80 = .ok (.ireturn, 1) := by decide +kernel
theorem dXB_knows_0 : decode cXB_knows 0 = .ok (.iload_n 1, 1) := by decide +kernel
theorem dXB_knows_1 : decode cXB_knows 1 = .ok (.iconst 1, 1) := by decide +kernel
theorem dXB_knows_2 : decode cXB_knows 2 = .ok (.if_icmp .lt 24, 3) := by decide +kernel
theorem dXB_knows_5 : decode cXB_knows 5 = .ok (.iload_n 1, 1) := by decide +kernel
theorem dXB_knows_6 : decode cXB_knows 6 = .ok (.bipush 30, 2) := by decide +kernel
theorem dXB_knows_8 : decode cXB_knows 8 = .ok (.if_icmp .gt 18, 3) := by decide +kernel
theorem dXB_knows_11 : decode cXB_knows 11 = .ok (.aload_n 0, 1) := by decide +kernel
theorem dXB_knows_12 : decode cXB_knows 12 = .ok (.getfield 33, 3) := by decide +kernel
theorem dXB_knows_15 : decode cXB_knows 15 = .ok (.iload_n 1, 1) := by decide +kernel
theorem dXB_knows_16 : decode cXB_knows 16 = .ok (.invokestatic 52, 3) := by decide +kernel
theorem dXB_knows_19 : decode cXB_knows 19 = .ok (.ifCond .eq 7, 3) := by decide +kernel
theorem dXB_knows_22 : decode cXB_knows 22 = .ok (.iconst 1, 1) := by decide +kernel
theorem dXB_knows_23 : decode cXB_knows 23 = .ok (.goto 4, 3) := by decide +kernel
theorem dXB_knows_26 : decode cXB_knows 26 = .ok (.iconst 0, 1) := by decide +kernel
theorem dXB_knows_27 : decode cXB_knows 27 = .ok (.ireturn, 1) := by decide +kernel
theorem dXB_tellGrade_0 : decode cXB_tellGrade 0 = .ok (.aload_n 0, 1) := by decide +kernel
theorem dXB_tellGrade_1 : decode cXB_tellGrade 1 = .ok (.dup, 1) := by decide +kernel
theorem dXB_tellGrade_2 : decode cXB_tellGrade 2 = .ok (.getfield 33, 3) := by decide +kernel
theorem dXB_tellGrade_5 : decode cXB_tellGrade 5 = .ok (.iconst 1, 1) := by decide +kernel
theorem dXB_tellGrade_6 : decode cXB_tellGrade 6 = .ok (.iload_n 1, 1) := by decide +kernel
theorem dXB_tellGrade_7 : decode cXB_tellGrade 7 = .ok (.ishl, 1) := by decide +kernel
theorem dXB_tellGrade_8 : decode cXB_tellGrade 8 = .ok (.ior, 1) := by decide +kernel
theorem dXB_tellGrade_9 : decode cXB_tellGrade 9 = .ok (.putfield 33, 3) := by decide +kernel
theorem dXB_tellGrade_12 : decode cXB_tellGrade 12 = .ok (.return_, 1) := by decide +kernel
theorem dXR_parent_0 : decode cXR_parent 0 = .ok (.aload_n 0, 1) := by decide +kernel
theorem dXR_parent_1 : decode cXR_parent 1 = .ok (.getfield 9, 3) := by decide +kernel
theorem dXR_parent_4 : decode cXR_parent 4 = .ok (.bipush 60, 2) := by decide +kernel
theorem dXR_parent_6 : decode cXR_parent 6 = .ok (.invokevirtual 28, 3) := by decide +kernel
theorem dXR_parent_9 : decode cXR_parent 9 = .ok (.ifCond .ne 5, 3) := by decide +kernel
theorem dXR_parent_12 : decode cXR_parent 12 = .ok (.iconst 1, 1) := by decide +kernel
theorem dXR_parent_13 : decode cXR_parent 13 = .ok (.ireturn, 1) := by decide +kernel
theorem dXR_parent_14 : decode cXR_parent 14 = .ok (.aload_n 0, 1) := by decide +kernel
theorem dXR_parent_15 : decode cXR_parent 15 = .ok (.getfield 9, 3) := by decide +kernel
theorem dXR_parent_18 : decode cXR_parent 18 = .ok (.iconst 1, 1) := by decide +kernel
theorem dXR_parent_19 : decode cXR_parent 19 = .ok (.bipush 30, 2) := by decide +kernel
theorem dXR_parent_21 : decode cXR_parent 21 = .ok (.invokevirtual 68, 3) := by decide +kernel
theorem dXR_parent_24 : decode cXR_parent 24 = .ok (.istore_n 3, 1) := by decide +kernel
theorem dXR_parent_25 : decode cXR_parent 25 = .ok (.iload_n 3, 1) := by decide +kernel
theorem dXR_parent_26 : decode cXR_parent 26 = .ok (.iconst (-1), 1) := by decide +kernel
theorem dXR_parent_27 : decode cXR_parent 27 = .ok (.if_icmp .ne 5, 3) := by decide +kernel
theorem dXR_parent_30 : decode cXR_parent 30 = .ok (.iconst 0, 1) := by decide +kernel
theorem dXR_parent_31 : decode cXR_parent 31 = .ok (.ireturn, 1) := by decide +kernel
theorem dXR_parent_32 : decode cXR_parent 32 = .ok (.aload_n 1, 1) := by decide +kernel
theorem dXR_parent_33 : decode cXR_parent 33 = .ok (.iload_n 2, 1) := by decide +kernel
theorem dXR_parent_34 : decode cXR_parent 34 = .ok (.iload_n 3, 1) := by decide +kernel
theorem dXR_parent_35 : decode cXR_parent 35 = .ok (.invokevirtual 93, 3) := by decide +kernel
theorem dXR_parent_38 : decode cXR_parent 38 = .ok (.iconst 1, 1) := by decide +kernel
theorem dXR_parent_39 : decode cXR_parent 39 = .ok (.ireturn, 1) := by decide +kernel
theorem dXB_tellParent_0 : decode cXB_tellParent 0 = .ok (.aload_n 0, 1) := by decide +kernel
theorem dXB_tellParent_1 : decode cXB_tellParent 1 = .ok (.getfield 9, 3) := by decide +kernel
theorem dXB_tellParent_4 : decode cXB_tellParent 4 = .ok (.iload_n 1, 1) := by decide +kernel
theorem dXB_tellParent_5 : decode cXB_tellParent 5 = .ok (.iload_n 2, 1) := by decide +kernel
theorem dXB_tellParent_6 : decode cXB_tellParent 6 = .ok (.iastore, 1) := by decide +kernel
theorem dXB_tellParent_7 : decode cXB_tellParent 7 = .ok (.return_, 1) := by decide +kernel
theorem dXR_spans_0 : decode cXR_spans 0 = .ok (.iconst 0, 1) := by decide +kernel
theorem dXR_spans_1 : decode cXR_spans 1 = .ok (.istore_n 3, 1) := by decide +kernel
theorem dXR_spans_2 : decode cXR_spans 2 = .ok (.iload_n 3, 1) := by decide +kernel
theorem dXR_spans_3 : decode cXR_spans 3 = .ok (.bipush 8, 2) := by decide +kernel
theorem dXR_spans_5 : decode cXR_spans 5 = .ok (.if_icmp .gt 125, 3) := by decide +kernel
theorem dXR_spans_8 : decode cXR_spans 8 = .ok (.aload_n 0, 1) := by decide +kernel
theorem dXR_spans_9 : decode cXR_spans 9 = .ok (.getfield 9, 3) := by decide +kernel
theorem dXR_spans_12 : decode cXR_spans 12 = .ok (.invokevirtual 20, 3) := by decide +kernel
theorem dXR_spans_15 : decode cXR_spans 15 = .ok (.invokestatic 97, 3) := by decide +kernel
theorem dXR_spans_18 : decode cXR_spans 18 = .ok (.ifCond .eq 112, 3) := by decide +kernel
theorem dXR_spans_21 : decode cXR_spans 21 = .ok (.aload_n 0, 1) := by decide +kernel
theorem dXR_spans_22 : decode cXR_spans 22 = .ok (.getfield 9, 3) := by decide +kernel
theorem dXR_spans_25 : decode cXR_spans 25 = .ok (.bipush 65, 2) := by decide +kernel
theorem dXR_spans_27 : decode cXR_spans 27 = .ok (.bipush 8, 2) := by decide +kernel
theorem dXR_spans_29 : decode cXR_spans 29 = .ok (.invokevirtual 45, 3) := by decide +kernel
theorem dXR_spans_32 : decode cXR_spans 32 = .ok (.istore 4, 2) := by decide +kernel
theorem dXR_spans_34 : decode cXR_spans 34 = .ok (.iload 4, 2) := by decide +kernel
theorem dXR_spans_36 : decode cXR_spans 36 = .ok (.iconst (-1), 1) := by decide +kernel
theorem dXR_spans_37 : decode cXR_spans 37 = .ok (.if_icmp .ne 5, 3) := by decide +kernel
theorem dXR_spans_40 : decode cXR_spans 40 = .ok (.iconst 0, 1) := by decide +kernel
theorem dXR_spans_41 : decode cXR_spans 41 = .ok (.ireturn, 1) := by decide +kernel

