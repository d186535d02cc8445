theorem dXM_fits_18 : decode cXM_fits 18 = .ok (.bipush 8, 2) := by decide +kernel
theorem dXM_fits_20 : decode cXM_fits 20 = .ok (.if_icmp .ge 35, 3) := by decide +kernel
theorem dXM_fits_23 : decode cXM_fits 23 = .ok (.aload_n 0, 1) := by decide +kernel
theorem dXM_fits_24 : decode cXM_fits 24 = .ok (.getfield 41, 3) := by decide +kernel
theorem dXM_fits_27 : decode cXM_fits 27 = .ok (.iload_n 2, 1) := by decide +kernel
theorem dXM_fits_28 : decode cXM_fits 28 = .ok (.iaload, 1) := by decide +kernel
theorem dXM_fits_29 : decode cXM_fits 29 = .ok (.aload_n 0, 1) := by decide +kernel
theorem dXM_fits_30 : decode cXM_fits 30 = .ok (.iload_n 1, 1) := by decide +kernel
theorem dXM_fits_31 : decode cXM_fits 31 = .ok (.iload_n 2, 1) := by decide +kernel
theorem dXM_fits_32 : decode cXM_fits 32 = .ok (.invokevirtual 130, 3) := by decide +kernel
theorem dXM_fits_35 : decode cXM_fits 35 = .ok (.aload_n 0, 1) := by decide +kernel
theorem dXM_fits_36 : decode cXM_fits 36 = .ok (.iload_n 1, 1) := by decide +kernel
theorem dXM_fits_37 : decode cXM_fits 37 = .ok (.iload_n 2, 1) := by decide +kernel
theorem dXM_fits_38 : decode cXM_fits 38 = .ok (.invokevirtual 133, 3) := by decide +kernel
theorem dXM_fits_41 : decode cXM_fits 41 = .ok (.invokestatic 51, 3) := by decide +kernel
theorem dXM_fits_44 : decode cXM_fits 44 = .ok (.ifCond .ne 5, 3) := by decide +kernel
theorem dXM_fits_47 : decode cXM_fits 47 = .ok (.iload_n 2, 1) := by decide +kernel
theorem dXM_fits_48 : decode cXM_fits 48 = .ok (.ireturn, 1) := by decide +kernel
theorem dXM_fits_49 : decode cXM_fits 49 = .ok (.iinc 2 1, 3) := by decide +kernel
theorem dXM_fits_52 : decode cXM_fits 52 = .ok (.goto (-35), 3) := by decide +kernel
theorem dXM_fits_55 : decode cXM_fits 55 = .ok (.iconst 0, 1) := by decide +kernel
theorem dXM_fits_56 : decode cXM_fits 56 = .ok (.istore_n 2, 1) := by decide +kernel
theorem dXM_fits_57 : decode cXM_fits 57 = .ok (.iload_n 2, 1) := by decide +kernel
theorem dXM_fits_58 : decode cXM_fits 58 = .ok (.iconst 4, 1) := by decide +kernel
theorem dXM_fits_59 : decode cXM_fits 59 = .ok (.if_icmp .ge 25, 3) := by decide +kernel
theorem dXM_fits_62 : decode cXM_fits 62 = .ok (.aload_n 0, 1) := by decide +kernel
theorem dXM_fits_63 : decode cXM_fits 63 = .ok (.iload_n 1, 1) := by decide +kernel
theorem dXM_fits_64 : decode cXM_fits 64 = .ok (.iconst 0, 1) := by decide +kernel
theorem dXM_fits_65 : decode cXM_fits 65 = .ok (.iload_n 2, 1) := by decide +kernel
theorem dXM_fits_66 : decode cXM_fits 66 = .ok (.iconst 2, 1) := by decide +kernel
theorem dXM_fits_67 : decode cXM_fits 67 = .ok (.invokevirtual 157, 3) := by decide +kernel
theorem dXM_fits_70 : decode cXM_fits 70 = .ok (.ifCond .eq 8, 3) := by decide +kernel
theorem dXM_fits_73 : decode cXM_fits 73 = .ok (.bipush 8, 2) := by decide +kernel
theorem dXM_fits_75 : decode cXM_fits 75 = .ok (.iload_n 2, 1) := by decide +kernel
theorem dXM_fits_76 : decode cXM_fits 76 = .ok (.iadd, 1) := by decide +kernel
theorem dXM_fits_77 : decode cXM_fits 77 = .ok (.ireturn, 1) := by decide +kernel
theorem dXM_fits_78 : decode cXM_fits 78 = .ok (.iinc 2 1, 3) := by decide +kernel
theorem dXM_fits_81 : decode cXM_fits 81 = .ok (.goto (-24), 3) := by decide +kernel
theorem dXM_fits_84 : decode cXM_fits 84 = .ok (.iconst (-1), 1) := by decide +kernel
theorem dXM_fits_85 : decode cXM_fits 85 = .ok (.ireturn, 1) := by decide +kernel
theorem dXM_isAbove_0 : decode cXM_isAbove 0 = .ok (.aload_n 0, 1) := by decide +kernel
theorem dXM_isAbove_1 : decode cXM_isAbove 1 = .ok (.getfield 35, 3) := by decide +kernel
theorem dXM_isAbove_4 : decode cXM_isAbove 4 = .ok (.iload_n 3, 1) := by decide +kernel
theorem dXM_isAbove_5 : decode cXM_isAbove 5 = .ok (.baload, 1) := by decide +kernel
theorem dXM_isAbove_6 : decode cXM_isAbove 6 = .ok (.ifCond .eq 12, 3) := by decide +kernel
theorem dXM_isAbove_9 : decode cXM_isAbove 9 = .ok (.aload_n 0, 1) := by decide +kernel
theorem dXM_isAbove_10 : decode cXM_isAbove 10 = .ok (.iload_n 1, 1) := by decide +kernel
theorem dXM_isAbove_11 : decode cXM_isAbove 11 = .ok (.iload_n 3, 1) := by decide +kernel
theorem dXM_isAbove_12 : decode cXM_isAbove 12 = .ok (.invokevirtual 139, 3) := by decide +kernel
theorem dXM_isAbove_15 : decode cXM_isAbove 15 = .ok (.ifCond .ge 5, 3) := by decide +kernel
theorem dXM_isAbove_18 : decode cXM_isAbove 18 = .ok (.iconst 0, 1) := by decide +kernel
theorem dXM_isAbove_19 : decode cXM_isAbove 19 = .ok (.ireturn, 1) := by decide +kernel
theorem dXM_isAbove_20 : decode cXM_isAbove 20 = .ok (.aload_n 0, 1) := by decide +kernel
theorem dXM_isAbove_21 : decode cXM_isAbove 21 = .ok (.iload_n 2, 1) := by decide +kernel
theorem dXM_isAbove_22 : decode cXM_isAbove 22 = .ok (.iload_n 3, 1) := by decide +kernel
theorem dXM_isAbove_23 : decode cXM_isAbove 23 = .ok (.iload 4, 2) := by decide +kernel
theorem dXM_isAbove_25 : decode cXM_isAbove 25 = .ok (.invokevirtual 153, 3) := by decide +kernel
theorem dXM_isAbove_28 : decode cXM_isAbove 28 = .ok (.aload_n 0, 1) := by decide +kernel
theorem dXM_isAbove_29 : decode cXM_isAbove 29 = .ok (.getfield 142, 3) := by decide +kernel
theorem dXM_isAbove_32 : decode cXM_isAbove 32 = .ok (.aload_n 0, 1) := by decide +kernel
theorem dXM_isAbove_33 : decode cXM_isAbove 33 = .ok (.iload_n 1, 1) := by decide +kernel
theorem dXM_isAbove_34 : decode cXM_isAbove 34 = .ok (.iload_n 3, 1) := by decide +kernel
theorem dXM_isAbove_35 : decode cXM_isAbove 35 = .ok (.invokevirtual 139, 3) := by decide +kernel
theorem dXM_isAbove_38 : decode cXM_isAbove 38 = .ok (.i2l, 1) := by decide +kernel
theorem dXM_isAbove_39 : decode cXM_isAbove 39 = .ok (.aload_n 0, 1) := by decide +kernel
theorem dXM_isAbove_40 : decode cXM_isAbove 40 = .ok (.getfield 146, 3) := by decide +kernel
theorem dXM_isAbove_43 : decode cXM_isAbove 43 = .ok (.lmul, 1) := by decide +kernel
theorem dXM_isAbove_44 : decode cXM_isAbove 44 = .ok (.lcmp, 1) := by decide +kernel
theorem dXM_isAbove_45 : decode cXM_isAbove 45 = .ok (.ifCond .le 7, 3) := by decide +kernel
theorem dXM_isAbove_48 : decode cXM_isAbove 48 = .ok (.iconst 1, 1) := by decide +kernel
theorem dXM_isAbove_49 : decode cXM_isAbove 49 = .ok (.goto 4, 3) := by decide +kernel
theorem dXM_isAbove_52 : decode cXM_isAbove 52 = .ok (.iconst 0, 1) := by decide +kernel
theorem dXM_isAbove_53 : decode cXM_isAbove 53 = .ok (.ireturn, 1) := by decide +kernel
theorem dXM_holds_0 : decode cXM_holds 0 = .ok (.aload_n 0, 1) := by decide +kernel
theorem dXM_holds_1 : decode cXM_holds 1 = .ok (.aload_n 0, 1) := by decide +kernel
theorem dXM_holds_2 : decode cXM_holds 2 = .ok (.iload_n 1, 1) := by decide +kernel
theorem dXM_holds_3 : decode cXM_holds 3 = .ok (.invokevirtual 118, 3) := by decide +kernel
theorem dXM_holds_6 : decode cXM_holds 6 = .ok (.ifCond .eq 15, 3) := by decide +kernel
theorem dXM_holds_9 : decode cXM_holds 9 = .ok (.aload_n 0, 1) := by decide +kernel
theorem dXM_holds_10 : decode cXM_holds 10 = .ok (.iload_n 2, 1) := by decide +kernel
theorem dXM_holds_11 : decode cXM_holds 11 = .ok (.invokevirtual 118, 3) := by decide +kernel
theorem dXM_holds_14 : decode cXM_holds 14 = .ok (.ifCond .eq 7, 3) := by decide +kernel
theorem dXM_holds_17 : decode cXM_holds 17 = .ok (.iconst 1, 1) := by decide +kernel
theorem dXM_holds_18 : decode cXM_holds 18 = .ok (.goto 4, 3) := by decide +kernel
theorem dXM_holds_21 : decode cXM_holds 21 = .ok (.iconst 0, 1) := by decide +kernel
theorem dXM_holds_22 : decode cXM_holds 22 = .ok (.iconst 1, 1) := by decide +kernel
theorem dXM_holds_23 : decode cXM_holds 23 = .ok (.invokevirtual 58, 3) := by decide +kernel
theorem dXM_holds_26 : decode cXM_holds 26 = .ok (.ifCond .ne 5, 3) := by decide +kernel
theorem dXM_holds_29 : decode cXM_holds 29 = .ok (.iconst 0, 1) := by decide +kernel
theorem dXM_holds_30 : decode cXM_holds 30 = .ok (.ireturn, 1) := by decide +kernel
theorem dXM_holds_31 : decode cXM_holds 31 = .ok (.iconst 0, 1) := by decide +kernel
theorem dXM_holds_32 : decode cXM_holds 32 = .ok (.istore_n 3, 1) := by decide +kernel
theorem dXM_holds_33 : decode cXM_holds 33 = .ok (.iload_n 3, 1) := by decide +kernel
theorem dXM_holds_34 : decode cXM_holds 34 = .ok (.bipush 8, 2) := by decide +kernel
theorem dXM_holds_36 : decode cXM_holds 36 = .ok (.if_icmp .ge 41, 3) := by decide +kernel
theorem dXM_holds_39 : decode cXM_holds 39 = .ok (.aload_n 0, 1) := by decide +kernel
theorem dXM_holds_40 : decode cXM_holds 40 = .ok (.iload_n 2, 1) := by decide +kernel
theorem dXM_holds_41 : decode cXM_holds 41 = .ok (.iload_n 3, 1) := by decide +kernel
theorem dXM_holds_42 : decode cXM_holds 42 = .ok (.invokevirtual 130, 3) := by decide +kernel
theorem dXM_holds_45 : decode cXM_holds 45 = .ok (.aload_n 0, 1) := by decide +kernel
theorem dXM_holds_46 : decode cXM_holds 46 = .ok (.iload_n 1, 1) := by decide +kernel
theorem dXM_holds_47 : decode cXM_holds 47 = .ok (.iload_n 3, 1) := by decide +kernel
theorem dXM_holds_48 : decode cXM_holds 48 = .ok (.invokevirtual 130, 3) := by decide +kernel
theorem dXM_holds_51 : decode cXM_holds 51 = .ok (.if_icmp .lt 18, 3) := by decide +kernel
theorem dXM_holds_54 : decode cXM_holds 54 = .ok (.aload_n 0, 1) := by decide +kernel
theorem dXM_holds_55 : decode cXM_holds 55 = .ok (.iload_n 2, 1) := by decide +kernel
theorem dXM_holds_56 : decode cXM_holds 56 = .ok (.iload_n 3, 1) := by decide +kernel
theorem dXM_holds_57 : decode cXM_holds 57 = .ok (.invokevirtual 133, 3) := by decide +kernel
theorem dXM_holds_60 : decode cXM_holds 60 = .ok (.aload_n 0, 1) := by decide +kernel
theorem dXM_holds_61 : decode cXM_holds 61 = .ok (.iload_n 1, 1) := by decide +kernel
theorem dXM_holds_62 : decode cXM_holds 62 = .ok (.iload_n 3, 1) := by decide +kernel
theorem dXM_holds_63 : decode cXM_holds 63 = .ok (.invokevirtual 133, 3) := by decide +kernel
theorem dXM_holds_66 : decode cXM_holds 66 = .ok (.if_icmp .le 5, 3) := by decide +kernel
theorem dXM_holds_69 : decode cXM_holds 69 = .ok (.iconst 0, 1) := by decide +kernel
theorem dXM_holds_70 : decode cXM_holds 70 = .ok (.ireturn, 1) := by decide +kernel
theorem dXM_holds_71 : decode cXM_holds 71 = .ok (.iinc 3 1, 3) := by decide +kernel
theorem dXM_holds_74 : decode cXM_holds 74 = .ok (.goto (-41), 3) := by decide +kernel
theorem dXM_holds_77 : decode cXM_holds 77 = .ok (.iconst 0, 1) := by decide +kernel
theorem dXM_holds_78 : decode cXM_holds 78 = .ok (.istore_n 3, 1) := by decide +kernel
theorem dXM_holds_79 : decode cXM_holds 79 = .ok (.iload_n 3, 1) := by decide +kernel
theorem dXM_holds_80 : decode cXM_holds 80 = .ok (.iconst 4, 1) := by decide +kernel
theorem dXM_holds_81 : decode cXM_holds 81 = .ok (.if_icmp .ge 22, 3) := by decide +kernel
theorem dXM_holds_84 : decode cXM_holds 84 = .ok (.aload_n 0, 1) := by decide +kernel
theorem dXM_holds_85 : decode cXM_holds 85 = .ok (.iload_n 1, 1) := by decide +kernel
theorem dXM_holds_86 : decode cXM_holds 86 = .ok (.iload_n 2, 1) := by decide +kernel
theorem dXM_holds_87 : decode cXM_holds 87 = .ok (.iload_n 3, 1) := by decide +kernel
theorem dXM_holds_88 : decode cXM_holds 88 = .ok (.iconst 1, 1) := by decide +kernel
theorem dXM_holds_89 : decode cXM_holds 89 = .ok (.invokevirtual 157, 3) := by decide +kernel
theorem dXM_holds_92 : decode cXM_holds 92 = .ok (.ifCond .eq 5, 3) := by decide +kernel
theorem dXM_holds_95 : decode cXM_holds 95 = .ok (.iconst 0, 1) := by decide +kernel
theorem dXM_holds_96 : decode cXM_holds 96 = .ok (.ireturn, 1) := by decide +kernel
theorem dXM_holds_97 : decode cXM_holds 97 = .ok (.iinc 3 1, 3) := by decide +kernel
theorem dXM_holds_100 : decode cXM_holds 100 = .ok (.goto (-21), 3) := by decide +kernel
theorem dXM_holds_103 : decode cXM_holds 103 = .ok (.iconst 1, 1) := by decide +kernel
theorem dXM_holds_104 : decode cXM_holds 104 = .ok (.ireturn, 1) := by decide +kernel
theorem dXM_ring_0 : decode cXM_ring 0 = .ok (.aload_n 0, 1) := by decide +kernel
theorem dXM_ring_1 : decode cXM_ring 1 = .ok (.iload_n 1, 1) := by decide +kernel
theorem dXM_ring_2 : decode cXM_ring 2 = .ok (.ifCond .lt 7, 3) := by decide +kernel
theorem dXM_ring_5 : decode cXM_ring 5 = .ok (.iconst 1, 1) := by decide +kernel
theorem dXM_ring_6 : decode cXM_ring 6 = .ok (.goto 4, 3) := by decide +kernel
theorem dXM_ring_9 : decode cXM_ring 9 = .ok (.iconst 0, 1) := by decide +kernel
theorem dXM_ring_10 : decode cXM_ring 10 = .ok (.iconst 1, 1) := by decide +kernel
theorem dXM_ring_11 : decode cXM_ring 11 = .ok (.invokevirtual 58, 3) := by decide +kernel
theorem dXM_ring_14 : decode cXM_ring 14 = .ok (.ifCond .ne 5, 3) := by decide +kernel
theorem dXM_ring_17 : decode cXM_ring 17 = .ok (.iconst 0, 1) := by decide +kernel
theorem dXM_ring_18 : decode cXM_ring 18 = .ok (.ireturn, 1) := by decide +kernel
theorem dXM_ring_19 : decode cXM_ring 19 = .ok (.iload_n 1, 1) := by decide +kernel
theorem dXM_ring_20 : decode cXM_ring 20 = .ok (.istore_n 2, 1) := by decide +kernel
theorem dXM_ring_21 : decode cXM_ring 21 = .ok (.iconst 1, 1) := by decide +kernel
theorem dXM_ring_22 : decode cXM_ring 22 = .ok (.istore_n 3, 1) := by decide +kernel
theorem dXM_ring_23 : decode cXM_ring 23 = .ok (.iload_n 3, 1) := by decide +kernel
theorem dXM_ring_24 : decode cXM_ring 24 = .ok (.bipush 31, 2) := by decide +kernel
theorem dXM_ring_26 : decode cXM_ring 26 = .ok (.if_icmp .ge 38, 3) := by decide +kernel
theorem dXM_ring_29 : decode cXM_ring 29 = .ok (.aload_n 0, 1) := by decide +kernel
theorem dXM_ring_30 : decode cXM_ring 30 = .ok (.getfield 13, 3) := by decide +kernel
theorem dXM_ring_33 : decode cXM_ring 33 = .ok (.iload_n 3, 1) := by decide +kernel
theorem dXM_ring_34 : decode cXM_ring 34 = .ok (.baload, 1) := by decide +kernel
theorem dXM_ring_35 : decode cXM_ring 35 = .ok (.ifCond .eq 23, 3) := by decide +kernel
theorem dXM_ring_38 : decode cXM_ring 38 = .ok (.aload_n 0, 1) := by decide +kernel
theorem dXM_ring_39 : decode cXM_ring 39 = .ok (.iload_n 3, 1) := by decide +kernel
theorem dXM_ring_40 : decode cXM_ring 40 = .ok (.invokevirtual 121, 3) := by decide +kernel
theorem dXM_ring_43 : decode cXM_ring 43 = .ok (.ifCond .ne 6, 3) := by decide +kernel
theorem dXM_ring_46 : decode cXM_ring 46 = .ok (.goto 12, 3) := by decide +kernel
theorem dXM_ring_49 : decode cXM_ring 49 = .ok (.iload_n 2, 1) := by decide +kernel
theorem dXM_ring_50 : decode cXM_ring 50 = .ok (.ifCond .ne 5, 3) := by decide +kernel
theorem dXM_ring_53 : decode cXM_ring 53 = .ok (.iload_n 3, 1) := by decide +kernel
theorem dXM_ring_54 : decode cXM_ring 54 = .ok (.ireturn, 1) := by decide +kernel
theorem dXM_ring_55 : decode cXM_ring 55 = .ok (.iinc 2 (-1), 3) := by decide +kernel
theorem dXM_ring_58 : decode cXM_ring 58 = .ok (.iinc 3 1, 3) := by decide +kernel
theorem dXM_ring_61 : decode cXM_ring 61 = .ok (.goto (-38), 3) := by decide +kernel
theorem dXM_ring_64 : decode cXM_ring 64 = .ok (.iconst (-1), 1) := by decide +kernel
theorem dXM_ring_65 : decode cXM_ring 65 = .ok (.ireturn, 1) := by decide +kernel
theorem dXM_route_0 : decode cXM_route 0 = .ok (.aload_n 0, 1) := by decide +kernel
theorem dXM_route_1 : decode cXM_route 1 = .ok (.aload_n 0, 1) := by decide +kernel
theorem dXM_route_2 : decode cXM_route 2 = .ok (.iload_n 1, 1) := by decide +kernel
theorem dXM_route_3 : decode cXM_route 3 = .ok (.invokevirtual 118, 3) := by decide +kernel
theorem dXM_route_6 : decode cXM_route 6 = .ok (.ifCond .eq 11, 3) := by decide +kernel
theorem dXM_route_9 : decode cXM_route 9 = .ok (.iload_n 2, 1) := by decide +kernel
theorem dXM_route_10 : decode cXM_route 10 = .ok (.ifCond .lt 7, 3) := by decide +kernel
theorem dXM_route_13 : decode cXM_route 13 = .ok (.iconst 1, 1) := by decide +kernel
theorem dXM_route_14 : decode cXM_route 14 = .ok (.goto 4, 3) := by decide +kernel
theorem dXM_route_17 : decode cXM_route 17 = .ok (.iconst 0, 1) := by decide +kernel
theorem dXM_route_18 : decode cXM_route 18 = .ok (.iconst 1, 1) := by decide +kernel
theorem dXM_route_19 : decode cXM_route 19 = .ok (.invokevirtual 58, 3) := by decide +kernel
theorem dXM_route_22 : decode cXM_route 22 = .ok (.ifCond .ne 5, 3) := by decide +kernel
theorem dXM_route_25 : decode cXM_route 25 = .ok (.iconst 0, 1) := by decide +kernel
theorem dXM_route_26 : decode cXM_route 26 = .ok (.ireturn, 1) := by decide +kernel
theorem dXM_route_27 : decode cXM_route 27 = .ok (.iconst 0, 1) := by decide +kernel
theorem dXM_route_28 : decode cXM_route 28 = .ok (.istore_n 3, 1) := by decide +kernel
theorem dXM_route_29 : decode cXM_route 29 = .ok (.iload_n 1, 1) := by decide +kernel
theorem dXM_route_30 : decode cXM_route 30 = .ok (.istore 4, 2) := by decide +kernel
theorem dXM_route_32 : decode cXM_route 32 = .ok (.iload 4, 2) := by decide +kernel
theorem dXM_route_34 : decode cXM_route 34 = .ok (.ifCond .le 26, 3) := by decide +kernel
theorem dXM_route_37 : decode cXM_route 37 = .ok (.iload_n 3, 1) := by decide +kernel
theorem dXM_route_38 : decode cXM_route 38 = .ok (.ifCond .ne 22, 3) := by decide +kernel
theorem dXM_route_41 : decode cXM_route 41 = .ok (.aload_n 0, 1) := by decide +kernel
theorem dXM_route_42 : decode cXM_route 42 = .ok (.getfield 29, 3) := by decide +kernel
theorem dXM_route_45 : decode cXM_route 45 = .ok (.iload 4, 2) := by decide +kernel
theorem dXM_route_47 : decode cXM_route 47 = .ok (.iaload, 1) := by decide +kernel
theorem dXM_route_48 : decode cXM_route 48 = .ok (.istore_n 3, 1) := by decide +kernel
theorem dXM_route_49 : decode cXM_route 49 = .ok (.aload_n 0, 1) := by decide +kernel
theorem dXM_route_50 : decode cXM_route 50 = .ok (.iload 4, 2) := by decide +kernel
theorem dXM_route_52 : decode cXM_route 52 = .ok (.invokevirtual 124, 3) := by decide +kernel
theorem dXM_route_55 : decode cXM_route 55 = .ok (.istore 4, 2) := by decide +kernel
theorem dXM_route_57 : decode cXM_route 57 = .ok (.goto (-25), 3) := by decide +kernel
theorem dXM_route_60 : decode cXM_route 60 = .ok (.iload_n 2, 1) := by decide +kernel
theorem dXM_route_61 : decode cXM_route 61 = .ok (.istore 4, 2) := by decide +kernel
theorem dXM_route_63 : decode cXM_route 63 = .ok (.iconst 0, 1) := by decide +kernel
theorem dXM_route_64 : decode cXM_route 64 = .ok (.istore 5, 2) := by decide +kernel
theorem dXM_route_66 : decode cXM_route 66 = .ok (.iload 5, 2) := by decide +kernel
theorem dXM_route_68 : decode cXM_route 68 = .ok (.bipush 8, 2) := by decide +kernel
theorem dXM_route_70 : decode cXM_route 70 = .ok (.if_icmp .ge 32, 3) := by decide +kernel
theorem dXM_route_73 : decode cXM_route 73 = .ok (.iload_n 3, 1) := by decide +kernel
theorem dXM_route_74 : decode cXM_route 74 = .ok (.iload 5, 2) := by decide +kernel
theorem dXM_route_76 : decode cXM_route 76 = .ok (.ishr, 1) := by decide +kernel
theorem dXM_route_77 : decode cXM_route 77 = .ok (.iconst 1, 1) := by decide +kernel
theorem dXM_route_78 : decode cXM_route 78 = .ok (.iand, 1) := by decide +kernel
theorem dXM_route_79 : decode cXM_route 79 = .ok (.ifCond .ne 6, 3) := by decide +kernel
theorem dXM_route_82 : decode cXM_route 82 = .ok (.goto 14, 3) := by decide +kernel
theorem dXM_route_85 : decode cXM_route 85 = .ok (.iload 4, 2) := by decide +kernel
theorem dXM_route_87 : decode cXM_route 87 = .ok (.ifCond .ne 6, 3) := by decide +kernel
theorem dXM_route_90 : decode cXM_route 90 = .ok (.iload 5, 2) := by decide +kernel
theorem dXM_route_92 : decode cXM_route 92 = .ok (.ireturn, 1) := by decide +kernel
theorem dXM_route_93 : decode cXM_route 93 = .ok (.iinc 4 (-1), 3) := by decide +kernel
theorem dXM_route_96 : decode cXM_route 96 = .ok (.iinc 5 1, 3) := by decide +kernel
theorem dXM_route_99 : decode cXM_route 99 = .ok (.goto (-33), 3) := by decide +kernel
theorem dXM_route_102 : decode cXM_route 102 = .ok (.iconst (-1), 1) := by decide +kernel
theorem dXM_route_103 : decode cXM_route 103 = .ok (.ireturn, 1) := by decide +kernel
theorem dXM_difference_0 : decode cXM_difference 0 = .ok (.aload_n 0, 1) := by decide +kernel
theorem dXM_difference_1 : decode cXM_difference 1 = .ok (.aload_n 0, 1) := by decide +kernel
theorem dXM_difference_2 : decode cXM_difference 2 = .ok (.iload_n 1, 1) := by decide +kernel
theorem dXM_difference_3 : decode cXM_difference 3 = .ok (.invokevirtual 118, 3) := by decide +kernel
theorem dXM_difference_6 : decode cXM_difference 6 = .ok (.ifCond .eq 19, 3) := by decide +kernel
theorem dXM_difference_9 : decode cXM_difference 9 = .ok (.aload_n 0, 1) := by decide +kernel
theorem dXM_difference_10 : decode cXM_difference 10 = .ok (.iload_n 2, 1) := by decide +kernel
theorem dXM_difference_11 : decode cXM_difference 11 = .ok (.invokevirtual 118, 3) := by decide +kernel
theorem dXM_difference_14 : decode cXM_difference 14 = .ok (.ifCond .eq 11, 3) := by decide +kernel
theorem dXM_difference_17 : decode cXM_difference 17 = .ok (.iload_n 3, 1) := by decide +kernel
theorem dXM_difference_18 : decode cXM_difference 18 = .ok (.ifCond .lt 7, 3) := by decide +kernel
theorem dXM_difference_21 : decode cXM_difference 21 = .ok (.iconst 1, 1) := by decide +kernel
theorem dXM_difference_22 : decode cXM_difference 22 = .ok (.goto 4, 3) := by decide +kernel
theorem dXM_difference_25 : decode cXM_difference 25 = .ok (.iconst 0, 1) := by decide +kernel
theorem dXM_difference_26 : decode cXM_difference 26 = .ok (.iconst 1, 1) := by decide +kernel
theorem dXM_difference_27 : decode cXM_difference 27 = .ok (.invokevirtual 58, 3) := by decide +kernel
theorem dXM_difference_30 : decode cXM_difference 30 = .ok (.ifCond .ne 5, 3) := by decide +kernel
theorem dXM_difference_33 : decode cXM_difference 33 = .ok (.iconst 0, 1) := by decide +kernel
theorem dXM_difference_34 : decode cXM_difference 34 = .ok (.ireturn, 1) := by decide +kernel
theorem dXM_difference_35 : decode cXM_difference 35 = .ok (.iload_n 3, 1) := by decide +kernel
theorem dXM_difference_36 : decode cXM_difference 36 = .ok (.istore 4, 2) := by decide +kernel
theorem dXM_difference_38 : decode cXM_difference 38 = .ok (.iconst 0, 1) := by decide +kernel
theorem dXM_difference_39 : decode cXM_difference 39 = .ok (.istore 5, 2) := by decide +kernel
theorem dXM_difference_41 : decode cXM_difference 41 = .ok (.iload 5, 2) := by decide +kernel
theorem dXM_difference_43 : decode cXM_difference 43 = .ok (.bipush 8, 2) := by decide +kernel
theorem dXM_difference_45 : decode cXM_difference 45 = .ok (.if_icmp .ge 57, 3) := by decide +kernel
theorem dXM_difference_48 : decode cXM_difference 48 = .ok (.aload_n 0, 1) := by decide +kernel
theorem dXM_difference_49 : decode cXM_difference 49 = .ok (.iload_n 1, 1) := by decide +kernel
theorem dXM_difference_50 : decode cXM_difference 50 = .ok (.iload 5, 2) := by decide +kernel
theorem dXM_difference_52 : decode cXM_difference 52 = .ok (.invokevirtual 130, 3) := by decide +kernel
theorem dXM_difference_55 : decode cXM_difference 55 = .ok (.aload_n 0, 1) := by decide +kernel
theorem dXM_difference_56 : decode cXM_difference 56 = .ok (.iload_n 2, 1) := by decide +kernel
theorem dXM_difference_57 : decode cXM_difference 57 = .ok (.iload 5, 2) := by decide +kernel
theorem dXM_difference_59 : decode cXM_difference 59 = .ok (.invokevirtual 130, 3) := by decide +kernel
theorem dXM_difference_62 : decode cXM_difference 62 = .ok (.if_icmp .ne 23, 3) := by decide +kernel
theorem dXM_difference_65 : decode cXM_difference 65 = .ok (.aload_n 0, 1) := by decide +kernel
theorem dXM_difference_66 : decode cXM_difference 66 = .ok (.iload_n 1, 1) := by decide +kernel
theorem dXM_difference_67 : decode cXM_difference 67 = .ok (.iload 5, 2) := by decide +kernel
theorem dXM_difference_69 : decode cXM_difference 69 = .ok (.invokevirtual 133, 3) := by decide +kernel
theorem dXM_difference_72 : decode cXM_difference 72 = .ok (.aload_n 0, 1) := by decide +kernel
theorem dXM_difference_73 : decode cXM_difference 73 = .ok (.iload_n 2, 1) := by decide +kernel
theorem dXM_difference_74 : decode cXM_difference 74 = .ok (.iload 5, 2) := by decide +kernel
theorem dXM_difference_76 : decode cXM_difference 76 = .ok (.invokevirtual 133, 3) := by decide +kernel
theorem dXM_difference_79 : decode cXM_difference 79 = .ok (.if_icmp .ne 6, 3) := by decide +kernel
theorem dXM_difference_82 : decode cXM_difference 82 = .ok (.goto 14, 3) := by decide +kernel
theorem dXM_difference_85 : decode cXM_difference 85 = .ok (.iload 4, 2) := by decide +kernel
theorem dXM_difference_87 : decode cXM_difference 87 = .ok (.ifCond .ne 6, 3) := by decide +kernel
theorem dXM_difference_90 : decode cXM_difference 90 = .ok (.iload 5, 2) := by decide +kernel
theorem dXM_difference_92 : decode cXM_difference 92 = .ok (.ireturn, 1) := by decide +kernel
theorem dXM_difference_93 : decode cXM_difference 93 = .ok (.iinc 4 (-1), 3) := by decide +kernel
theorem dXM_difference_96 : decode cXM_difference 96 = .ok (.iinc 5 1, 3) := by decide +kernel
theorem dXM_difference_99 : decode cXM_difference 99 = .ok (.goto (-58), 3) := by decide +kernel
theorem dXM_difference_102 : decode cXM_difference 102 = .ok (.iconst (-1), 1) := by decide +kernel
theorem dXM_difference_103 : decode cXM_difference 103 = .ok (.ireturn, 1) := by decide +kernel
theorem dXM_write_0 : decode cXM_write 0 = .ok (.aload_n 0, 1) := by decide +kernel
theorem dXM_write_1 : decode cXM_write 1 = .ok (.aload_n 0, 1) := by decide +kernel
theorem dXM_write_2 : decode cXM_write 2 = .ok (.iload_n 1, 1) := by decide +kernel
theorem dXM_write_3 : decode cXM_write 3 = .ok (.invokevirtual 118, 3) := by decide +kernel
theorem dXM_write_6 : decode cXM_write 6 = .ok (.iconst 1, 1) := by decide +kernel
theorem dXM_write_7 : decode cXM_write 7 = .ok (.invokevirtual 58, 3) := by decide +kernel
theorem dXM_write_10 : decode cXM_write 10 = .ok (.ifCond .ne 5, 3) := by decide +kernel
theorem dXM_write_13 : decode cXM_write 13 = .ok (.iconst 0, 1) := by decide +kernel
theorem dXM_write_14 : decode cXM_write 14 = .ok (.ireturn, 1) := by decide +kernel
theorem dXM_write_15 : decode cXM_write 15 = .ok (.aload_n 0, 1) := by decide +kernel
theorem dXM_write_16 : decode cXM_write 16 = .ok (.iconst 0, 1) := by decide +kernel
theorem dXM_write_17 : decode cXM_write 17 = .ok (.putfield 161, 3) := by decide +kernel
theorem dXM_write_20 : decode cXM_write 20 = .ok (.aload_n 0, 1) := by decide +kernel
theorem dXM_write_21 : decode cXM_write 21 = .ok (.bipush 103, 2) := by decide +kernel
theorem dXM_write_23 : decode cXM_write 23 = .ok (.iload_n 1, 1) := by decide +kernel
theorem dXM_write_24 : decode cXM_write 24 = .ok (.invokevirtual 167, 3) := by decide +kernel
theorem dXM_write_27 : decode cXM_write 27 = .ok (.aload_n 0, 1) := by decide +kernel
theorem dXM_write_28 : decode cXM_write 28 = .ok (.getfield 17, 3) := by decide +kernel
theorem dXM_write_31 : decode cXM_write 31 = .ok (.iload_n 1, 1) := by decide +kernel
theorem dXM_write_32 : decode cXM_write 32 = .ok (.iaload, 1) := by decide +kernel
theorem dXM_write_33 : decode cXM_write 33 = .ok (.ifCond .le 15, 3) := by decide +kernel
theorem dXM_write_36 : decode cXM_write 36 = .ok (.aload_n 0, 1) := by decide +kernel
theorem dXM_write_37 : decode cXM_write 37 = .ok (.bipush 60, 2) := by decide +kernel
theorem dXM_write_39 : decode cXM_write 39 = .ok (.aload_n 0, 1) := by decide +kernel
theorem dXM_write_40 : decode cXM_write 40 = .ok (.getfield 17, 3) := by decide +kernel
theorem dXM_write_43 : decode cXM_write 43 = .ok (.iload_n 1, 1) := by decide +kernel
theorem dXM_write_44 : decode cXM_write 44 = .ok (.iaload, 1) := by decide +kernel
theorem dXM_write_45 : decode cXM_write 45 = .ok (.invokevirtual 167, 3) := by decide +kernel
theorem dXM_write_48 : decode cXM_write 48 = .ok (.iconst 0, 1) := by decide +kernel
theorem dXM_write_49 : decode cXM_write 49 = .ok (.istore_n 2, 1) := by decide +kernel
theorem dXM_write_50 : decode cXM_write 50 = .ok (.iload_n 2, 1) := by decide +kernel
theorem dXM_write_51 : decode cXM_write 51 = .ok (.bipush 8, 2) := by decide +kernel
theorem dXM_write_53 : decode cXM_write 53 = .ok (.if_icmp .ge 62, 3) := by decide +kernel
theorem dXM_write_56 : decode cXM_write 56 = .ok (.aload_n 0, 1) := by decide +kernel
theorem dXM_write_57 : decode cXM_write 57 = .ok (.getfield 20, 3) := by decide +kernel
theorem dXM_write_60 : decode cXM_write 60 = .ok (.bipush 8, 2) := by decide +kernel
theorem dXM_write_62 : decode cXM_write 62 = .ok (.iload_n 1, 1) := by decide +kernel
theorem dXM_write_63 : decode cXM_write 63 = .ok (.imul, 1) := by decide +kernel
theorem dXM_write_64 : decode cXM_write 64 = .ok (.iload_n 2, 1) := by decide +kernel
theorem dXM_write_65 : decode cXM_write 65 = .ok (.iadd, 1) := by decide +kernel
theorem dXM_write_66 : decode cXM_write 66 = .ok (.baload, 1) := by decide +kernel
theorem dXM_write_67 : decode cXM_write 67 = .ok (.ifCond .ne 6, 3) := by decide +kernel
theorem dXM_write_70 : decode cXM_write 70 = .ok (.goto 39, 3) := by decide +kernel
theorem dXM_write_73 : decode cXM_write 73 = .ok (.aload_n 0, 1) := by decide +kernel
theorem dXM_write_74 : decode cXM_write 74 = .ok (.bipush 65, 2) := by decide +kernel
theorem dXM_write_76 : decode cXM_write 76 = .ok (.iload_n 2, 1) := by decide +kernel
theorem dXM_write_77 : decode cXM_write 77 = .ok (.iadd, 1) := by decide +kernel
theorem dXM_write_78 : decode cXM_write 78 = .ok (.aload_n 0, 1) := by decide +kernel
theorem dXM_write_79 : decode cXM_write 79 = .ok (.getfield 23, 3) := by decide +kernel
theorem dXM_write_82 : decode cXM_write 82 = .ok (.bipush 8, 2) := by decide +kernel
theorem dXM_write_84 : decode cXM_write 84 = .ok (.iload_n 1, 1) := by decide +kernel
theorem dXM_write_85 : decode cXM_write 85 = .ok (.imul, 1) := by decide +kernel
theorem dXM_write_86 : decode cXM_write 86 = .ok (.iload_n 2, 1) := by decide +kernel
theorem dXM_write_87 : decode cXM_write 87 = .ok (.iadd, 1) := by decide +kernel
theorem dXM_write_88 : decode cXM_write 88 = .ok (.iaload, 1) := by decide +kernel
theorem dXM_write_89 : decode cXM_write 89 = .ok (.invokevirtual 167, 3) := by decide +kernel
theorem dXM_write_92 : decode cXM_write 92 = .ok (.aload_n 0, 1) := by decide +kernel
theorem dXM_write_93 : decode cXM_write 93 = .ok (.bipush 45, 2) := by decide +kernel
theorem dXM_write_95 : decode cXM_write 95 = .ok (.aload_n 0, 1) := by decide +kernel
theorem dXM_write_96 : decode cXM_write 96 = .ok (.getfield 26, 3) := by decide +kernel
theorem dXM_write_99 : decode cXM_write 99 = .ok (.bipush 8, 2) := by decide +kernel
theorem dXM_write_101 : decode cXM_write 101 = .ok (.iload_n 1, 1) := by decide +kernel
theorem dXM_write_102 : decode cXM_write 102 = .ok (.imul, 1) := by decide +kernel
theorem dXM_write_103 : decode cXM_write 103 = .ok (.iload_n 2, 1) := by decide +kernel
theorem dXM_write_104 : decode cXM_write 104 = .ok (.iadd, 1) := by decide +kernel
theorem dXM_write_105 : decode cXM_write 105 = .ok (.iaload, 1) := by decide +kernel
theorem dXM_write_106 : decode cXM_write 106 = .ok (.invokevirtual 167, 3) := by decide +kernel
theorem dXM_write_109 : decode cXM_write 109 = .ok (.iinc 2 1, 3) := by decide +kernel
theorem dXM_write_112 : decode cXM_write 112 = .ok (.goto (-62), 3) := by decide +kernel
theorem dXM_write_115 : decode cXM_write 115 = .ok (.aload_n 0, 1) := by decide +kernel
theorem dXM_write_116 : decode cXM_write 116 = .ok (.getfield 29, 3) := by decide +kernel
theorem dXM_write_119 : decode cXM_write 119 = .ok (.iload_n 1, 1) := by decide +kernel
theorem dXM_write_120 : decode cXM_write 120 = .ok (.iaload, 1) := by decide +kernel
theorem dXM_write_121 : decode cXM_write 121 = .ok (.ifCond .le 9, 3) := by decide +kernel
theorem dXM_write_124 : decode cXM_write 124 = .ok (.aload_n 0, 1) := by decide +kernel
theorem dXM_write_125 : decode cXM_write 125 = .ok (.bipush 114, 2) := by decide +kernel
theorem dXM_write_127 : decode cXM_write 127 = .ok (.invokevirtual 164, 3) := by decide +kernel
theorem dXM_write_130 : decode cXM_write 130 = .ok (.iconst 0, 1) := by decide +kernel
theorem dXM_write_131 : decode cXM_write 131 = .ok (.istore_n 2, 1) := by decide +kernel
theorem dXM_write_132 : decode cXM_write 132 = .ok (.iload_n 2, 1) := by decide +kernel
theorem dXM_write_133 : decode cXM_write 133 = .ok (.bipush 8, 2) := by decide +kernel
theorem dXM_write_135 : decode cXM_write 135 = .ok (.if_icmp .ge 31, 3) := by decide +kernel
theorem dXM_write_138 : decode cXM_write 138 = .ok (.aload_n 0, 1) := by decide +kernel
theorem dXM_write_139 : decode cXM_write 139 = .ok (.getfield 29, 3) := by decide +kernel
theorem dXM_write_142 : decode cXM_write 142 = .ok (.iload_n 1, 1) := by decide +kernel
theorem dXM_write_143 : decode cXM_write 143 = .ok (.iaload, 1) := by decide +kernel
theorem dXM_write_144 : decode cXM_write 144 = .ok (.iload_n 2, 1) := by decide +kernel
theorem dXM_write_145 : decode cXM_write 145 = .ok (.ishr, 1) := by decide +kernel
theorem dXM_write_146 : decode cXM_write 146 = .ok (.iconst 1, 1) := by decide +kernel
theorem dXM_write_147 : decode cXM_write 147 = .ok (.iand, 1) := by decide +kernel
theorem dXM_write_148 : decode cXM_write 148 = .ok (.iconst 1, 1) := by decide +kernel
theorem dXM_write_149 : decode cXM_write 149 = .ok (.if_icmp .ne 11, 3) := by decide +kernel
theorem dXM_write_152 : decode cXM_write 152 = .ok (.aload_n 0, 1) := by decide +kernel
theorem dXM_write_153 : decode cXM_write 153 = .ok (.bipush 48, 2) := by decide +kernel
theorem dXM_write_155 : decode cXM_write 155 = .ok (.iload_n 2, 1) := by decide +kernel
theorem dXM_write_156 : decode cXM_write 156 = .ok (.iadd, 1) := by decide +kernel
theorem dXM_write_157 : decode cXM_write 157 = .ok (.invokevirtual 164, 3) := by decide +kernel
theorem dXM_write_160 : decode cXM_write 160 = .ok (.iinc 2 1, 3) := by decide +kernel
theorem dXM_write_163 : decode cXM_write 163 = .ok (.goto (-31), 3) := by decide +kernel
theorem dXM_write_166 : decode cXM_write 166 = .ok (.iconst 0, 1) := by decide +kernel
theorem dXM_write_167 : decode cXM_write 167 = .ok (.istore_n 2, 1) := by decide +kernel
theorem dXM_write_168 : decode cXM_write 168 = .ok (.iload_n 2, 1) := by decide +kernel
theorem dXM_write_169 : decode cXM_write 169 = .ok (.iconst 4, 1) := by decide +kernel
theorem dXM_write_170 : decode cXM_write 170 = .ok (.if_icmp .ge 48, 3) := by decide +kernel
theorem dXM_write_173 : decode cXM_write 173 = .ok (.aload_n 0, 1) := by decide +kernel
theorem dXM_write_174 : decode cXM_write 174 = .ok (.getfield 32, 3) := by decide +kernel
theorem dXM_write_177 : decode cXM_write 177 = .ok (.iconst 4, 1) := by decide +kernel
theorem dXM_write_178 : decode cXM_write 178 = .ok (.iload_n 1, 1) := by decide +kernel
theorem dXM_write_179 : decode cXM_write 179 = .ok (.imul, 1) := by decide +kernel
theorem dXM_write_180 : decode cXM_write 180 = .ok (.iload_n 2, 1) := by decide +kernel
theorem dXM_write_181 : decode cXM_write 181 = .ok (.iadd, 1) := by decide +kernel
theorem dXM_write_182 : decode cXM_write 182 = .ok (.iaload, 1) := by decide +kernel
theorem dXM_write_183 : decode cXM_write 183 = .ok (.ifCond .ge 6, 3) := by decide +kernel
theorem dXM_write_186 : decode cXM_write 186 = .ok (.goto 26, 3) := by decide +kernel
theorem dXM_write_189 : decode cXM_write 189 = .ok (.aload_n 0, 1) := by decide +kernel
theorem dXM_write_190 : decode cXM_write 190 = .ok (.bipush 113, 2) := by decide +kernel
theorem dXM_write_192 : decode cXM_write 192 = .ok (.iload_n 2, 1) := by decide +kernel
theorem dXM_write_193 : decode cXM_write 193 = .ok (.invokevirtual 167, 3) := by decide +kernel
theorem dXM_write_196 : decode cXM_write 196 = .ok (.aload_n 0, 1) := by decide +kernel
theorem dXM_write_197 : decode cXM_write 197 = .ok (.bipush 60, 2) := by decide +kernel
theorem dXM_write_199 : decode cXM_write 199 = .ok (.aload_n 0, 1) := by decide +kernel
theorem dXM_write_200 : decode cXM_write 200 = .ok (.getfield 32, 3) := by decide +kernel
theorem dXM_write_203 : decode cXM_write 203 = .ok (.iconst 4, 1) := by decide +kernel
theorem dXM_write_204 : decode cXM_write 204 = .ok (.iload_n 1, 1) := by decide +kernel
theorem dXM_write_205 : decode cXM_write 205 = .ok (.imul, 1) := by decide +kernel
theorem dXM_write_206 : decode cXM_write 206 = .ok (.iload_n 2, 1) := by decide +kernel
theorem dXM_write_207 : decode cXM_write 207 = .ok (.iadd, 1) := by decide +kernel
theorem dXM_write_208 : decode cXM_write 208 = .ok (.iaload, 1) := by decide +kernel
theorem dXM_write_209 : decode cXM_write 209 = .ok (.invokevirtual 167, 3) := by decide +kernel
theorem dXM_write_212 : decode cXM_write 212 = .ok (.iinc 2 1, 3) := by decide +kernel
theorem dXM_write_215 : decode cXM_write 215 = .ok (.goto (-47), 3) := by decide +kernel
theorem dXM_write_218 : decode cXM_write 218 = .ok (.aload_n 0, 1) := by decide +kernel
theorem dXM_write_219 : decode cXM_write 219 = .ok (.bipush 59, 2) := by decide +kernel
theorem dXM_write_221 : decode cXM_write 221 = .ok (.invokevirtual 164, 3) := by decide +kernel
theorem dXM_write_224 : decode cXM_write 224 = .ok (.aload_n 0, 1) := by decide +kernel
theorem dXM_write_225 : decode cXM_write 225 = .ok (.getfield 161, 3) := by decide +kernel
theorem dXM_write_228 : decode cXM_write 228 = .ok (.ireturn, 1) := by decide +kernel
theorem dXM_tell_0 : decode cXM_tell 0 = .ok (.aload_n 0, 1) := by decide +kernel
theorem dXM_tell_1 : decode cXM_tell 1 = .ok (.iload_n 1, 1) := by decide +kernel
theorem dXM_tell_2 : decode cXM_tell 2 = .ok (.invokevirtual 164, 3) := by decide +kernel
theorem dXM_tell_5 : decode cXM_tell 5 = .ok (.iconst 1, 1) := by decide +kernel
theorem dXM_tell_6 : decode cXM_tell 6 = .ok (.istore_n 3, 1) := by decide +kernel
theorem dXM_tell_7 : decode cXM_tell 7 = .ok (.iload_n 2, 1) := by decide +kernel
theorem dXM_tell_8 : decode cXM_tell 8 = .ok (.iload_n 3, 1) := by decide +kernel
theorem dXM_tell_9 : decode cXM_tell 9 = .ok (.idiv, 1) := by decide +kernel
theorem dXM_tell_10 : decode cXM_tell 10 = .ok (.bipush 9, 2) := by decide +kernel
theorem dXM_tell_12 : decode cXM_tell 12 = .ok (.if_icmp .le 11, 3) := by decide +kernel
theorem dXM_tell_15 : decode cXM_tell 15 = .ok (.bipush 10, 2) := by decide +kernel
theorem dXM_tell_17 : decode cXM_tell 17 = .ok (.iload_n 3, 1) := by decide +kernel
theorem dXM_tell_18 : decode cXM_tell 18 = .ok (.imul, 1) := by decide +kernel
theorem dXM_tell_19 : decode cXM_tell 19 = .ok (.istore_n 3, 1) := by decide +kernel
theorem dXM_tell_20 : decode cXM_tell 20 = .ok (.goto (-13), 3) := by decide +kernel
theorem dXM_tell_23 : decode cXM_tell 23 = .ok (.iload_n 3, 1) := by decide +kernel
theorem dXM_tell_24 : decode cXM_tell 24 = .ok (.ifCond .le 24, 3) := by decide +kernel
theorem dXM_tell_27 : decode cXM_tell 27 = .ok (.aload_n 0, 1) := by decide +kernel
theorem dXM_tell_28 : decode cXM_tell 28 = .ok (.bipush 48, 2) := by decide +kernel
theorem dXM_tell_30 : decode cXM_tell 30 = .ok (.iload_n 2, 1) := by decide +kernel
theorem dXM_tell_31 : decode cXM_tell 31 = .ok (.iload_n 3, 1) := by decide +kernel
theorem dXM_tell_32 : decode cXM_tell 32 = .ok (.idiv, 1) := by decide +kernel
theorem dXM_tell_33 : decode cXM_tell 33 = .ok (.bipush 10, 2) := by decide +kernel
theorem dXM_tell_35 : decode cXM_tell 35 = .ok (.irem, 1) := by decide +kernel
theorem dXM_tell_36 : decode cXM_tell 36 = .ok (.iadd, 1) := by decide +kernel
theorem dXM_tell_37 : decode cXM_tell 37 = .ok (.invokevirtual 164, 3) := by decide +kernel
theorem dXM_tell_40 : decode cXM_tell 40 = .ok (.iload_n 3, 1) := by decide +kernel
theorem dXM_tell_41 : decode cXM_tell 41 = .ok (.bipush 10, 2) := by decide +kernel
theorem dXM_tell_43 : decode cXM_tell 43 = .ok (.idiv, 1) := by decide +kernel
theorem dXM_tell_44 : decode cXM_tell 44 = .ok (.istore_n 3, 1) := by decide +kernel
theorem dXM_tell_45 : decode cXM_tell 45 = .ok (.goto (-22), 3) := by decide +kernel
theorem dXM_tell_48 : decode cXM_tell 48 = .ok (.return_, 1) := by decide +kernel
theorem dXM_put_0 : decode cXM_put 0 = .ok (.aload_n 0, 1) := by decide +kernel
theorem dXM_put_1 : decode cXM_put 1 = .ok (.getfield 44, 3) := by decide +kernel
theorem dXM_put_4 : decode cXM_put 4 = .ok (.aload_n 0, 1) := by decide +kernel
theorem dXM_put_5 : decode cXM_put 5 = .ok (.getfield 161, 3) := by decide +kernel
theorem dXM_put_8 : decode cXM_put 8 = .ok (.iload_n 1, 1) := by decide +kernel
theorem dXM_put_9 : decode cXM_put 9 = .ok (.iastore, 1) := by decide +kernel
theorem dXM_put_10 : decode cXM_put 10 = .ok (.aload_n 0, 1) := by decide +kernel
theorem dXM_put_11 : decode cXM_put 11 = .ok (.dup, 1) := by decide +kernel
theorem dXM_put_12 : decode cXM_put 12 = .ok (.getfield 161, 3) := by decide +kernel
theorem dXM_put_15 : decode cXM_put 15 = .ok (.iconst 1, 1) := by decide +kernel
theorem dXM_put_16 : decode cXM_put 16 = .ok (.iadd, 1) := by decide +kernel
theorem dXM_put_17 : decode cXM_put 17 = .ok (.putfield 161, 3) := by decide +kernel
theorem dXM_put_20 : decode cXM_put 20 = .ok (.return_, 1) := by decide +kernel
theorem dXM_at_0 : decode cXM_at 0 = .ok (.aload_n 0, 1) := by decide +kernel
theorem dXM_at_1 : decode cXM_at 1 = .ok (.iload_n 1, 1) := by decide +kernel
theorem dXM_at_2 : decode cXM_at 2 = .ok (.ifCond .lt 7, 3) := by decide +kernel
theorem dXM_at_5 : decode cXM_at 5 = .ok (.iconst 1, 1) := by decide +kernel
theorem dXM_at_6 : decode cXM_at 6 = .ok (.goto 4, 3) := by decide +kernel
theorem dXM_at_9 : decode cXM_at 9 = .ok (.iconst 0, 1) := by decide +kernel
theorem dXM_at_10 : decode cXM_at 10 = .ok (.iconst 1, 1) := by decide +kernel
theorem dXM_at_11 : decode cXM_at 11 = .ok (.invokevirtual 58, 3) := by decide +kernel
theorem dXM_at_14 : decode cXM_at 14 = .ok (.ifCond .ne 5, 3) := by decide +kernel
theorem dXM_at_17 : decode cXM_at 17 = .ok (.iconst 0, 1) := by decide +kernel
theorem dXM_at_18 : decode cXM_at 18 = .ok (.ireturn, 1) := by decide +kernel
theorem dXM_at_19 : decode cXM_at 19 = .ok (.iload_n 1, 1) := by decide +kernel
theorem dXM_at_20 : decode cXM_at 20 = .ok (.aload_n 0, 1) := by decide +kernel
theorem dXM_at_21 : decode cXM_at 21 = .ok (.getfield 161, 3) := by decide +kernel
theorem dXM_at_24 : decode cXM_at 24 = .ok (.if_icmp .ge 12, 3) := by decide +kernel
theorem dXM_at_27 : decode cXM_at 27 = .ok (.aload_n 0, 1) := by decide +kernel
theorem dXM_at_28 : decode cXM_at 28 = .ok (.getfield 44, 3) := by decide +kernel
theorem dXM_at_31 : decode cXM_at 31 = .ok (.iload_n 1, 1) := by decide +kernel
theorem dXM_at_32 : decode cXM_at 32 = .ok (.iaload, 1) := by decide +kernel
theorem dXM_at_33 : decode cXM_at 33 = .ok (.goto 4, 3) := by decide +kernel
theorem dXM_at_36 : decode cXM_at 36 = .ok (.iconst (-1), 1) := by decide +kernel
theorem dXM_at_37 : decode cXM_at 37 = .ok (.ireturn, 1) := by decide +kernel
theorem dXM_clear_0 : decode cXM_clear 0 = .ok (.aload_n 0, 1) := by decide +kernel
theorem dXM_clear_1 : decode cXM_clear 1 = .ok (.iconst 0, 1) := by decide +kernel
theorem dXM_clear_2 : decode cXM_clear 2 = .ok (.putfield 47, 3) := by decide +kernel
theorem dXM_clear_5 : decode cXM_clear 5 = .ok (.aload_n 0, 1) := by decide +kernel
theorem dXM_clear_6 : decode cXM_clear 6 = .ok (.iconst 0, 1) := by decide +kernel
theorem dXM_clear_7 : decode cXM_clear 7 = .ok (.putfield 55, 3) := by decide +kernel
theorem dXM_clear_10 : decode cXM_clear 10 = .ok (.aload_n 0, 1) := by decide +kernel
theorem dXM_clear_11 : decode cXM_clear 11 = .ok (.iconst 0, 1) := by decide +kernel
theorem dXM_clear_12 : decode cXM_clear 12 = .ok (.invokevirtual 106, 3) := by decide +kernel
theorem dXM_clear_15 : decode cXM_clear 15 = .ok (.iconst 0, 1) := by decide +kernel
theorem dXM_clear_16 : decode cXM_clear 16 = .ok (.istore_n 1, 1) := by decide +kernel
theorem dXM_clear_17 : decode cXM_clear 17 = .ok (.iload_n 1, 1) := by decide +kernel
theorem dXM_clear_18 : decode cXM_clear 18 = .ok (.bipush 8, 2) := by decide +kernel
theorem dXM_clear_20 : decode cXM_clear 20 = .ok (.if_icmp .ge 16, 3) := by decide +kernel
theorem dXM_clear_23 : decode cXM_clear 23 = .ok (.aload_n 0, 1) := by decide +kernel
theorem dXM_clear_24 : decode cXM_clear 24 = .ok (.getfield 41, 3) := by decide +kernel
theorem dXM_clear_27 : decode cXM_clear 27 = .ok (.iload_n 1, 1) := by decide +kernel
theorem dXM_clear_28 : decode cXM_clear 28 = .ok (.iconst 0, 1) := by decide +kernel
theorem dXM_clear_29 : decode cXM_clear 29 = .ok (.iastore, 1) := by decide +kernel
theorem dXM_clear_30 : decode cXM_clear 30 = .ok (.iinc 1 1, 3) := by decide +kernel
theorem dXM_clear_33 : decode cXM_clear 33 = .ok (.goto (-16), 3) := by decide +kernel
theorem dXM_clear_36 : decode cXM_clear 36 = .ok (.return_, 1) := by decide +kernel

