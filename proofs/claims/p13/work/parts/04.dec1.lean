theorem dXR_spans_42 : decode cXR_spans 42 = .ok (.aload_n 1, 1) := by decide +kernel
theorem dXR_spans_43 : decode cXR_spans 43 = .ok (.iload_n 2, 1) := by decide +kernel
theorem dXR_spans_44 : decode cXR_spans 44 = .ok (.iload 4, 2) := by decide +kernel
theorem dXR_spans_46 : decode cXR_spans 46 = .ok (.invokevirtual 100, 3) := by decide +kernel
theorem dXR_spans_49 : decode cXR_spans 49 = .ok (.ifCond .eq 11, 3) := by decide +kernel
theorem dXR_spans_52 : decode cXR_spans 52 = .ok (.aload_n 0, 1) := by decide +kernel
theorem dXR_spans_53 : decode cXR_spans 53 = .ok (.getfield 9, 3) := by decide +kernel
theorem dXR_spans_56 : decode cXR_spans 56 = .ok (.invokevirtual 54, 3) := by decide +kernel
theorem dXR_spans_59 : decode cXR_spans 59 = .ok (.ireturn, 1) := by decide +kernel
theorem dXR_spans_60 : decode cXR_spans 60 = .ok (.aload_n 0, 1) := by decide +kernel
theorem dXR_spans_61 : decode cXR_spans 61 = .ok (.getfield 9, 3) := by decide +kernel
theorem dXR_spans_64 : decode cXR_spans 64 = .ok (.iconst 0, 1) := by decide +kernel
theorem dXR_spans_65 : decode cXR_spans 65 = .ok (.ldc 104, 2) := by decide +kernel
theorem dXR_spans_67 : decode cXR_spans 67 = .ok (.invokevirtual 68, 3) := by decide +kernel
theorem dXR_spans_70 : decode cXR_spans 70 = .ok (.istore 5, 2) := by decide +kernel
theorem dXR_spans_72 : decode cXR_spans 72 = .ok (.iload 5, 2) := by decide +kernel
theorem dXR_spans_74 : decode cXR_spans 74 = .ok (.iconst (-1), 1) := by decide +kernel
theorem dXR_spans_75 : decode cXR_spans 75 = .ok (.if_icmp .eq 15, 3) := by decide +kernel
theorem dXR_spans_78 : decode cXR_spans 78 = .ok (.aload_n 0, 1) := by decide +kernel
theorem dXR_spans_79 : decode cXR_spans 79 = .ok (.getfield 9, 3) := by decide +kernel
theorem dXR_spans_82 : decode cXR_spans 82 = .ok (.bipush 45, 2) := by decide +kernel
theorem dXR_spans_84 : decode cXR_spans 84 = .ok (.invokevirtual 35, 3) := by decide +kernel
theorem dXR_spans_87 : decode cXR_spans 87 = .ok (.ifCond .ne 5, 3) := by decide +kernel
theorem dXR_spans_90 : decode cXR_spans 90 = .ok (.iconst 0, 1) := by decide +kernel
theorem dXR_spans_91 : decode cXR_spans 91 = .ok (.ireturn, 1) := by decide +kernel
theorem dXR_spans_92 : decode cXR_spans 92 = .ok (.aload_n 0, 1) := by decide +kernel
theorem dXR_spans_93 : decode cXR_spans 93 = .ok (.getfield 9, 3) := by decide +kernel
theorem dXR_spans_96 : decode cXR_spans 96 = .ok (.iload 5, 2) := by decide +kernel
theorem dXR_spans_98 : decode cXR_spans 98 = .ok (.ldc 104, 2) := by decide +kernel
theorem dXR_spans_100 : decode cXR_spans 100 = .ok (.invokevirtual 68, 3) := by decide +kernel
theorem dXR_spans_103 : decode cXR_spans 103 = .ok (.istore 6, 2) := by decide +kernel
theorem dXR_spans_105 : decode cXR_spans 105 = .ok (.iload 6, 2) := by decide +kernel
theorem dXR_spans_107 : decode cXR_spans 107 = .ok (.iconst (-1), 1) := by decide +kernel
theorem dXR_spans_108 : decode cXR_spans 108 = .ok (.if_icmp .ne 5, 3) := by decide +kernel
theorem dXR_spans_111 : decode cXR_spans 111 = .ok (.iconst 0, 1) := by decide +kernel
theorem dXR_spans_112 : decode cXR_spans 112 = .ok (.ireturn, 1) := by decide +kernel
theorem dXR_spans_113 : decode cXR_spans 113 = .ok (.aload_n 1, 1) := by decide +kernel
theorem dXR_spans_114 : decode cXR_spans 114 = .ok (.iload_n 2, 1) := by decide +kernel
theorem dXR_spans_115 : decode cXR_spans 115 = .ok (.iload 4, 2) := by decide +kernel
theorem dXR_spans_117 : decode cXR_spans 117 = .ok (.iload 5, 2) := by decide +kernel
theorem dXR_spans_119 : decode cXR_spans 119 = .ok (.iload 6, 2) := by decide +kernel
theorem dXR_spans_121 : decode cXR_spans 121 = .ok (.invokevirtual 105, 3) := by decide +kernel
theorem dXR_spans_124 : decode cXR_spans 124 = .ok (.iinc 3 1, 3) := by decide +kernel
theorem dXR_spans_127 : decode cXR_spans 127 = .ok (.goto (-125), 3) := by decide +kernel
theorem dXR_spans_130 : decode cXR_spans 130 = .ok (.iconst 1, 1) := by decide +kernel
theorem dXR_spans_131 : decode cXR_spans 131 = .ok (.ireturn, 1) := by decide +kernel
theorem dXG_isElement_0 : decode cXG_isElement 0 = .ok (.iload_n 0, 1) := by decide +kernel
theorem dXG_isElement_1 : decode cXG_isElement 1 = .ok (.bipush 65, 2) := by decide +kernel
theorem dXG_isElement_3 : decode cXG_isElement 3 = .ok (.if_icmp .lt 13, 3) := by decide +kernel
theorem dXG_isElement_6 : decode cXG_isElement 6 = .ok (.iload_n 0, 1) := by decide +kernel
theorem dXG_isElement_7 : decode cXG_isElement 7 = .ok (.bipush 73, 2) := by decide +kernel
theorem dXG_isElement_9 : decode cXG_isElement 9 = .ok (.if_icmp .ge 7, 3) := by decide +kernel
theorem dXG_isElement_12 : decode cXG_isElement 12 = .ok (.iconst 1, 1) := by decide +kernel
theorem dXG_isElement_13 : decode cXG_isElement 13 = .ok (.goto 4, 3) := by decide +kernel
theorem dXG_isElement_16 : decode cXG_isElement 16 = .ok (.iconst 0, 1) := by decide +kernel
theorem dXG_isElement_17 : decode cXG_isElement 17 = .ok (.ireturn, 1) := by decide +kernel
theorem dXB_tellsSpan_0 : decode cXB_tellsSpan 0 = .ok (.aload_n 0, 1) := by decide +kernel
theorem dXB_tellsSpan_1 : decode cXB_tellsSpan 1 = .ok (.getfield 21, 3) := by decide +kernel
theorem dXB_tellsSpan_4 : decode cXB_tellsSpan 4 = .ok (.iload_n 1, 1) := by decide +kernel
theorem dXB_tellsSpan_5 : decode cXB_tellsSpan 5 = .ok (.bipush 8, 2) := by decide +kernel
theorem dXB_tellsSpan_7 : decode cXB_tellsSpan 7 = .ok (.imul, 1) := by decide +kernel
theorem dXB_tellsSpan_8 : decode cXB_tellsSpan 8 = .ok (.iload_n 2, 1) := by decide +kernel
theorem dXB_tellsSpan_9 : decode cXB_tellsSpan 9 = .ok (.iadd, 1) := by decide +kernel
theorem dXB_tellsSpan_10 : decode cXB_tellsSpan 10 = .ok (.iaload, 1) := by decide +kernel
theorem dXB_tellsSpan_11 : decode cXB_tellsSpan 11 = .ok (.iconst (-1), 1) := by decide +kernel
theorem dXB_tellsSpan_12 : decode cXB_tellsSpan 12 = .ok (.if_icmp .eq 7, 3) := by decide +kernel
theorem dXB_tellsSpan_15 : decode cXB_tellsSpan 15 = .ok (.iconst 1, 1) := by decide +kernel
theorem dXB_tellsSpan_16 : decode cXB_tellsSpan 16 = .ok (.goto 4, 3) := by decide +kernel
theorem dXB_tellsSpan_19 : decode cXB_tellsSpan 19 = .ok (.iconst 0, 1) := by decide +kernel
theorem dXB_tellsSpan_20 : decode cXB_tellsSpan 20 = .ok (.ireturn, 1) := by decide +kernel
theorem dXB_tellSpan_0 : decode cXB_tellSpan 0 = .ok (.aload_n 0, 1) := by decide +kernel
theorem dXB_tellSpan_1 : decode cXB_tellSpan 1 = .ok (.getfield 18, 3) := by decide +kernel
theorem dXB_tellSpan_4 : decode cXB_tellSpan 4 = .ok (.iload_n 1, 1) := by decide +kernel
theorem dXB_tellSpan_5 : decode cXB_tellSpan 5 = .ok (.bipush 8, 2) := by decide +kernel
theorem dXB_tellSpan_7 : decode cXB_tellSpan 7 = .ok (.imul, 1) := by decide +kernel
theorem dXB_tellSpan_8 : decode cXB_tellSpan 8 = .ok (.iload_n 2, 1) := by decide +kernel
theorem dXB_tellSpan_9 : decode cXB_tellSpan 9 = .ok (.iadd, 1) := by decide +kernel
theorem dXB_tellSpan_10 : decode cXB_tellSpan 10 = .ok (.iload_n 3, 1) := by decide +kernel
theorem dXB_tellSpan_11 : decode cXB_tellSpan 11 = .ok (.iastore, 1) := by decide +kernel
theorem dXB_tellSpan_12 : decode cXB_tellSpan 12 = .ok (.aload_n 0, 1) := by decide +kernel
theorem dXB_tellSpan_13 : decode cXB_tellSpan 13 = .ok (.getfield 21, 3) := by decide +kernel
theorem dXB_tellSpan_16 : decode cXB_tellSpan 16 = .ok (.iload_n 1, 1) := by decide +kernel
theorem dXB_tellSpan_17 : decode cXB_tellSpan 17 = .ok (.bipush 8, 2) := by decide +kernel
theorem dXB_tellSpan_19 : decode cXB_tellSpan 19 = .ok (.imul, 1) := by decide +kernel
theorem dXB_tellSpan_20 : decode cXB_tellSpan 20 = .ok (.iload_n 2, 1) := by decide +kernel
theorem dXB_tellSpan_21 : decode cXB_tellSpan 21 = .ok (.iadd, 1) := by decide +kernel
theorem dXB_tellSpan_22 : decode cXB_tellSpan 22 = .ok (.iload 4, 2) := by decide +kernel
theorem dXB_tellSpan_24 : decode cXB_tellSpan 24 = .ok (.iastore, 1) := by decide +kernel
theorem dXB_tellSpan_25 : decode cXB_tellSpan 25 = .ok (.return_, 1) := by decide +kernel
theorem dXR_routes_0 : decode cXR_routes 0 = .ok (.aload_n 0, 1) := by decide +kernel
theorem dXR_routes_1 : decode cXR_routes 1 = .ok (.getfield 9, 3) := by decide +kernel
theorem dXR_routes_4 : decode cXR_routes 4 = .ok (.bipush 114, 2) := by decide +kernel
theorem dXR_routes_6 : decode cXR_routes 6 = .ok (.invokevirtual 28, 3) := by decide +kernel
theorem dXR_routes_9 : decode cXR_routes 9 = .ok (.ifCond .ne 5, 3) := by decide +kernel
theorem dXR_routes_12 : decode cXR_routes 12 = .ok (.iconst 1, 1) := by decide +kernel
theorem dXR_routes_13 : decode cXR_routes 13 = .ok (.ireturn, 1) := by decide +kernel
theorem dXR_routes_14 : decode cXR_routes 14 = .ok (.iconst (-1), 1) := by decide +kernel
theorem dXR_routes_15 : decode cXR_routes 15 = .ok (.istore_n 3, 1) := by decide +kernel
theorem dXR_routes_16 : decode cXR_routes 16 = .ok (.iconst 0, 1) := by decide +kernel
theorem dXR_routes_17 : decode cXR_routes 17 = .ok (.istore 4, 2) := by decide +kernel
theorem dXR_routes_19 : decode cXR_routes 19 = .ok (.iload 4, 2) := by decide +kernel
theorem dXR_routes_21 : decode cXR_routes 21 = .ok (.iconst 4, 1) := by decide +kernel
theorem dXR_routes_22 : decode cXR_routes 22 = .ok (.if_icmp .ge 74, 3) := by decide +kernel
theorem dXR_routes_25 : decode cXR_routes 25 = .ok (.iload 4, 2) := by decide +kernel
theorem dXR_routes_27 : decode cXR_routes 27 = .ok (.ifCond .le 18, 3) := by decide +kernel
theorem dXR_routes_30 : decode cXR_routes 30 = .ok (.aload_n 0, 1) := by decide +kernel
theorem dXR_routes_31 : decode cXR_routes 31 = .ok (.getfield 9, 3) := by decide +kernel
theorem dXR_routes_34 : decode cXR_routes 34 = .ok (.invokevirtual 20, 3) := by decide +kernel
theorem dXR_routes_37 : decode cXR_routes 37 = .ok (.invokestatic 109, 3) := by decide +kernel
theorem dXR_routes_40 : decode cXR_routes 40 = .ok (.ifCond .ne 5, 3) := by decide +kernel
theorem dXR_routes_43 : decode cXR_routes 43 = .ok (.iconst 1, 1) := by decide +kernel
theorem dXR_routes_44 : decode cXR_routes 44 = .ok (.ireturn, 1) := by decide +kernel
theorem dXR_routes_45 : decode cXR_routes 45 = .ok (.aload_n 0, 1) := by decide +kernel
theorem dXR_routes_46 : decode cXR_routes 46 = .ok (.getfield 9, 3) := by decide +kernel
theorem dXR_routes_49 : decode cXR_routes 49 = .ok (.bipush 48, 2) := by decide +kernel
theorem dXR_routes_51 : decode cXR_routes 51 = .ok (.bipush 8, 2) := by decide +kernel
theorem dXR_routes_53 : decode cXR_routes 53 = .ok (.invokevirtual 45, 3) := by decide +kernel
theorem dXR_routes_56 : decode cXR_routes 56 = .ok (.istore 5, 2) := by decide +kernel
theorem dXR_routes_58 : decode cXR_routes 58 = .ok (.iload 5, 2) := by decide +kernel
theorem dXR_routes_60 : decode cXR_routes 60 = .ok (.iconst (-1), 1) := by decide +kernel
theorem dXR_routes_61 : decode cXR_routes 61 = .ok (.if_icmp .ne 5, 3) := by decide +kernel
theorem dXR_routes_64 : decode cXR_routes 64 = .ok (.iconst 0, 1) := by decide +kernel
theorem dXR_routes_65 : decode cXR_routes 65 = .ok (.ireturn, 1) := by decide +kernel
theorem dXR_routes_66 : decode cXR_routes 66 = .ok (.iload 5, 2) := by decide +kernel
theorem dXR_routes_68 : decode cXR_routes 68 = .ok (.iload_n 3, 1) := by decide +kernel
theorem dXR_routes_69 : decode cXR_routes 69 = .ok (.if_icmp .gt 11, 3) := by decide +kernel
theorem dXR_routes_72 : decode cXR_routes 72 = .ok (.aload_n 0, 1) := by decide +kernel
theorem dXR_routes_73 : decode cXR_routes 73 = .ok (.getfield 9, 3) := by decide +kernel
theorem dXR_routes_76 : decode cXR_routes 76 = .ok (.invokevirtual 54, 3) := by decide +kernel
theorem dXR_routes_79 : decode cXR_routes 79 = .ok (.ireturn, 1) := by decide +kernel
theorem dXR_routes_80 : decode cXR_routes 80 = .ok (.aload_n 1, 1) := by decide +kernel
theorem dXR_routes_81 : decode cXR_routes 81 = .ok (.iload_n 2, 1) := by decide +kernel
theorem dXR_routes_82 : decode cXR_routes 82 = .ok (.iload 5, 2) := by decide +kernel
theorem dXR_routes_84 : decode cXR_routes 84 = .ok (.invokevirtual 112, 3) := by decide +kernel
theorem dXR_routes_87 : decode cXR_routes 87 = .ok (.iload 5, 2) := by decide +kernel
theorem dXR_routes_89 : decode cXR_routes 89 = .ok (.istore_n 3, 1) := by decide +kernel
theorem dXR_routes_90 : decode cXR_routes 90 = .ok (.iinc 4 1, 3) := by decide +kernel
theorem dXR_routes_93 : decode cXR_routes 93 = .ok (.goto (-74), 3) := by decide +kernel
theorem dXR_routes_96 : decode cXR_routes 96 = .ok (.iconst 1, 1) := by decide +kernel
theorem dXR_routes_97 : decode cXR_routes 97 = .ok (.ireturn, 1) := by decide +kernel
theorem dXB_tellRoute_0 : decode cXB_tellRoute 0 = .ok (.aload_n 0, 1) := by decide +kernel
theorem dXB_tellRoute_1 : decode cXB_tellRoute 1 = .ok (.getfield 27, 3) := by decide +kernel
theorem dXB_tellRoute_4 : decode cXB_tellRoute 4 = .ok (.iload_n 1, 1) := by decide +kernel
theorem dXB_tellRoute_5 : decode cXB_tellRoute 5 = .ok (.dup2, 1) := by decide +kernel
theorem dXB_tellRoute_6 : decode cXB_tellRoute 6 = .ok (.iaload, 1) := by decide +kernel
theorem dXB_tellRoute_7 : decode cXB_tellRoute 7 = .ok (.iconst 1, 1) := by decide +kernel
theorem dXB_tellRoute_8 : decode cXB_tellRoute 8 = .ok (.iload_n 2, 1) := by decide +kernel
theorem dXB_tellRoute_9 : decode cXB_tellRoute 9 = .ok (.ishl, 1) := by decide +kernel
theorem dXB_tellRoute_10 : decode cXB_tellRoute 10 = .ok (.ior, 1) := by decide +kernel
theorem dXB_tellRoute_11 : decode cXB_tellRoute 11 = .ok (.iastore, 1) := by decide +kernel
theorem dXB_tellRoute_12 : decode cXB_tellRoute 12 = .ok (.return_, 1) := by decide +kernel
theorem dXR_limits_0 : decode cXR_limits 0 = .ok (.iconst 0, 1) := by decide +kernel
theorem dXR_limits_1 : decode cXR_limits 1 = .ok (.istore_n 3, 1) := by decide +kernel
theorem dXR_limits_2 : decode cXR_limits 2 = .ok (.iload_n 3, 1) := by decide +kernel
theorem dXR_limits_3 : decode cXR_limits 3 = .ok (.iconst 4, 1) := by decide +kernel
theorem dXR_limits_4 : decode cXR_limits 4 = .ok (.if_icmp .gt 102, 3) := by decide +kernel
theorem dXR_limits_7 : decode cXR_limits 7 = .ok (.aload_n 0, 1) := by decide +kernel
theorem dXR_limits_8 : decode cXR_limits 8 = .ok (.getfield 9, 3) := by decide +kernel
theorem dXR_limits_11 : decode cXR_limits 11 = .ok (.bipush 113, 2) := by decide +kernel
theorem dXR_limits_13 : decode cXR_limits 13 = .ok (.invokevirtual 28, 3) := by decide +kernel
theorem dXR_limits_16 : decode cXR_limits 16 = .ok (.ifCond .eq 90, 3) := by decide +kernel
theorem dXR_limits_19 : decode cXR_limits 19 = .ok (.aload_n 0, 1) := by decide +kernel
theorem dXR_limits_20 : decode cXR_limits 20 = .ok (.getfield 9, 3) := by decide +kernel
theorem dXR_limits_23 : decode cXR_limits 23 = .ok (.bipush 48, 2) := by decide +kernel
theorem dXR_limits_25 : decode cXR_limits 25 = .ok (.iconst 4, 1) := by decide +kernel
theorem dXR_limits_26 : decode cXR_limits 26 = .ok (.invokevirtual 45, 3) := by decide +kernel
theorem dXR_limits_29 : decode cXR_limits 29 = .ok (.istore 4, 2) := by decide +kernel
theorem dXR_limits_31 : decode cXR_limits 31 = .ok (.iload 4, 2) := by decide +kernel
theorem dXR_limits_33 : decode cXR_limits 33 = .ok (.iconst (-1), 1) := by decide +kernel
theorem dXR_limits_34 : decode cXR_limits 34 = .ok (.if_icmp .ne 5, 3) := by decide +kernel
theorem dXR_limits_37 : decode cXR_limits 37 = .ok (.iconst 0, 1) := by decide +kernel
theorem dXR_limits_38 : decode cXR_limits 38 = .ok (.ireturn, 1) := by decide +kernel
theorem dXR_limits_39 : decode cXR_limits 39 = .ok (.aload_n 1, 1) := by decide +kernel
theorem dXR_limits_40 : decode cXR_limits 40 = .ok (.iload_n 2, 1) := by decide +kernel
theorem dXR_limits_41 : decode cXR_limits 41 = .ok (.iload 4, 2) := by decide +kernel
theorem dXR_limits_43 : decode cXR_limits 43 = .ok (.invokevirtual 115, 3) := by decide +kernel
theorem dXR_limits_46 : decode cXR_limits 46 = .ok (.ifCond .eq 11, 3) := by decide +kernel
theorem dXR_limits_49 : decode cXR_limits 49 = .ok (.aload_n 0, 1) := by decide +kernel
theorem dXR_limits_50 : decode cXR_limits 50 = .ok (.getfield 9, 3) := by decide +kernel
theorem dXR_limits_53 : decode cXR_limits 53 = .ok (.invokevirtual 54, 3) := by decide +kernel
theorem dXR_limits_56 : decode cXR_limits 56 = .ok (.ireturn, 1) := by decide +kernel
theorem dXR_limits_57 : decode cXR_limits 57 = .ok (.aload_n 0, 1) := by decide +kernel
theorem dXR_limits_58 : decode cXR_limits 58 = .ok (.getfield 9, 3) := by decide +kernel
theorem dXR_limits_61 : decode cXR_limits 61 = .ok (.bipush 60, 2) := by decide +kernel
theorem dXR_limits_63 : decode cXR_limits 63 = .ok (.invokevirtual 35, 3) := by decide +kernel
theorem dXR_limits_66 : decode cXR_limits 66 = .ok (.ifCond .ne 5, 3) := by decide +kernel
theorem dXR_limits_69 : decode cXR_limits 69 = .ok (.iconst 0, 1) := by decide +kernel
theorem dXR_limits_70 : decode cXR_limits 70 = .ok (.ireturn, 1) := by decide +kernel
theorem dXR_limits_71 : decode cXR_limits 71 = .ok (.aload_n 0, 1) := by decide +kernel
theorem dXR_limits_72 : decode cXR_limits 72 = .ok (.getfield 9, 3) := by decide +kernel
theorem dXR_limits_75 : decode cXR_limits 75 = .ok (.iconst 0, 1) := by decide +kernel
theorem dXR_limits_76 : decode cXR_limits 76 = .ok (.ldc 118, 2) := by decide +kernel
theorem dXR_limits_78 : decode cXR_limits 78 = .ok (.invokevirtual 68, 3) := by decide +kernel
theorem dXR_limits_81 : decode cXR_limits 81 = .ok (.istore 5, 2) := by decide +kernel
theorem dXR_limits_83 : decode cXR_limits 83 = .ok (.iload 5, 2) := by decide +kernel
theorem dXR_limits_85 : decode cXR_limits 85 = .ok (.iconst (-1), 1) := by decide +kernel
theorem dXR_limits_86 : decode cXR_limits 86 = .ok (.if_icmp .ne 5, 3) := by decide +kernel
theorem dXR_limits_89 : decode cXR_limits 89 = .ok (.iconst 0, 1) := by decide +kernel
theorem dXR_limits_90 : decode cXR_limits 90 = .ok (.ireturn, 1) := by decide +kernel
theorem dXR_limits_91 : decode cXR_limits 91 = .ok (.aload_n 1, 1) := by decide +kernel
theorem dXR_limits_92 : decode cXR_limits 92 = .ok (.iload_n 2, 1) := by decide +kernel
theorem dXR_limits_93 : decode cXR_limits 93 = .ok (.iload 4, 2) := by decide +kernel
theorem dXR_limits_95 : decode cXR_limits 95 = .ok (.iload 5, 2) := by decide +kernel
theorem dXR_limits_97 : decode cXR_limits 97 = .ok (.invokevirtual 119, 3) := by decide +kernel
theorem dXR_limits_100 : decode cXR_limits 100 = .ok (.iinc 3 1, 3) := by decide +kernel
theorem dXR_limits_103 : decode cXR_limits 103 = .ok (.goto (-101), 3) := by decide +kernel
theorem dXR_limits_106 : decode cXR_limits 106 = .ok (.iconst 1, 1) := by decide +kernel
theorem dXR_limits_107 : decode cXR_limits 107 = .ok (.ireturn, 1) := by decide +kernel
theorem dXB_tellsLimit_0 : decode cXB_tellsLimit 0 = .ok (.aload_n 0, 1) := by decide +kernel
theorem dXB_tellsLimit_1 : decode cXB_tellsLimit 1 = .ok (.getfield 24, 3) := by decide +kernel
theorem dXB_tellsLimit_4 : decode cXB_tellsLimit 4 = .ok (.iload_n 1, 1) := by decide +kernel
theorem dXB_tellsLimit_5 : decode cXB_tellsLimit 5 = .ok (.iconst 4, 1) := by decide +kernel
theorem dXB_tellsLimit_6 : decode cXB_tellsLimit 6 = .ok (.imul, 1) := by decide +kernel
theorem dXB_tellsLimit_7 : decode cXB_tellsLimit 7 = .ok (.iload_n 2, 1) := by decide +kernel
theorem dXB_tellsLimit_8 : decode cXB_tellsLimit 8 = .ok (.iadd, 1) := by decide +kernel
theorem dXB_tellsLimit_9 : decode cXB_tellsLimit 9 = .ok (.iaload, 1) := by decide +kernel
theorem dXB_tellsLimit_10 : decode cXB_tellsLimit 10 = .ok (.iconst (-1), 1) := by decide +kernel
theorem dXB_tellsLimit_11 : decode cXB_tellsLimit 11 = .ok (.if_icmp .eq 7, 3) := by decide +kernel
theorem dXB_tellsLimit_14 : decode cXB_tellsLimit 14 = .ok (.iconst 1, 1) := by decide +kernel
theorem dXB_tellsLimit_15 : decode cXB_tellsLimit 15 = .ok (.goto 4, 3) := by decide +kernel
theorem dXB_tellsLimit_18 : decode cXB_tellsLimit 18 = .ok (.iconst 0, 1) := by decide +kernel
theorem dXB_tellsLimit_19 : decode cXB_tellsLimit 19 = .ok (.ireturn, 1) := by decide +kernel
theorem dXB_tellLimit_0 : decode cXB_tellLimit 0 = .ok (.aload_n 0, 1) := by decide +kernel
theorem dXB_tellLimit_1 : decode cXB_tellLimit 1 = .ok (.getfield 24, 3) := by decide +kernel
theorem dXB_tellLimit_4 : decode cXB_tellLimit 4 = .ok (.iload_n 1, 1) := by decide +kernel
theorem dXB_tellLimit_5 : decode cXB_tellLimit 5 = .ok (.iconst 4, 1) := by decide +kernel
theorem dXB_tellLimit_6 : decode cXB_tellLimit 6 = .ok (.imul, 1) := by decide +kernel
theorem dXB_tellLimit_7 : decode cXB_tellLimit 7 = .ok (.iload_n 2, 1) := by decide +kernel
theorem dXB_tellLimit_8 : decode cXB_tellLimit 8 = .ok (.iadd, 1) := by decide +kernel
theorem dXB_tellLimit_9 : decode cXB_tellLimit 9 = .ok (.iload_n 3, 1) := by decide +kernel
theorem dXB_tellLimit_10 : decode cXB_tellLimit 10 = .ok (.iastore, 1) := by decide +kernel
theorem dXB_tellLimit_11 : decode cXB_tellLimit 11 = .ok (.return_, 1) := by decide +kernel
theorem dXT_empty_0 : decode cXT_empty 0 = .ok (.aload_n 0, 1) := by decide +kernel
theorem dXT_empty_1 : decode cXT_empty 1 = .ok (.iconst 0, 1) := by decide +kernel
theorem dXT_empty_2 : decode cXT_empty 2 = .ok (.putfield 15, 3) := by decide +kernel
theorem dXT_empty_5 : decode cXT_empty 5 = .ok (.return_, 1) := by decide +kernel
theorem dXT_wrongPlace_0 : decode cXT_wrongPlace 0 = .ok (.aload_n 0, 1) := by decide +kernel
theorem dXT_wrongPlace_1 : decode cXT_wrongPlace 1 = .ok (.getfield 22, 3) := by decide +kernel
theorem dXT_wrongPlace_4 : decode cXT_wrongPlace 4 = .ok (.ireturn, 1) := by decide +kernel
theorem dXB_settle_0 : decode cXB_settle 0 = .ok (.iconst 1, 1) := by decide +kernel
theorem dXB_settle_1 : decode cXB_settle 1 = .ok (.istore_n 1, 1) := by decide +kernel
theorem dXB_settle_2 : decode cXB_settle 2 = .ok (.iload_n 1, 1) := by decide +kernel
theorem dXB_settle_3 : decode cXB_settle 3 = .ok (.bipush 30, 2) := by decide +kernel
theorem dXB_settle_5 : decode cXB_settle 5 = .ok (.if_icmp .gt 43, 3) := by decide +kernel
theorem dXB_settle_8 : decode cXB_settle 8 = .ok (.aload_n 0, 1) := by decide +kernel
theorem dXB_settle_9 : decode cXB_settle 9 = .ok (.getfield 9, 3) := by decide +kernel
theorem dXB_settle_12 : decode cXB_settle 12 = .ok (.iload_n 1, 1) := by decide +kernel
theorem dXB_settle_13 : decode cXB_settle 13 = .ok (.iaload, 1) := by decide +kernel
theorem dXB_settle_14 : decode cXB_settle 14 = .ok (.istore_n 2, 1) := by decide +kernel
theorem dXB_settle_15 : decode cXB_settle 15 = .ok (.aload_n 0, 1) := by decide +kernel
theorem dXB_settle_16 : decode cXB_settle 16 = .ok (.getfield 15, 3) := by decide +kernel
theorem dXB_settle_19 : decode cXB_settle 19 = .ok (.iload_n 1, 1) := by decide +kernel
theorem dXB_settle_20 : decode cXB_settle 20 = .ok (.aload_n 0, 1) := by decide +kernel
theorem dXB_settle_21 : decode cXB_settle 21 = .ok (.iload_n 2, 1) := by decide +kernel
theorem dXB_settle_22 : decode cXB_settle 22 = .ok (.invokevirtual 56, 3) := by decide +kernel
theorem dXB_settle_25 : decode cXB_settle 25 = .ok (.ifCond .eq 15, 3) := by decide +kernel
theorem dXB_settle_28 : decode cXB_settle 28 = .ok (.aload_n 0, 1) := by decide +kernel
theorem dXB_settle_29 : decode cXB_settle 29 = .ok (.iload_n 1, 1) := by decide +kernel
theorem dXB_settle_30 : decode cXB_settle 30 = .ok (.invokevirtual 60, 3) := by decide +kernel
theorem dXB_settle_33 : decode cXB_settle 33 = .ok (.ifCond .ne 7, 3) := by decide +kernel
theorem dXB_settle_36 : decode cXB_settle 36 = .ok (.iload_n 2, 1) := by decide +kernel
theorem dXB_settle_37 : decode cXB_settle 37 = .ok (.goto 4, 3) := by decide +kernel
theorem dXB_settle_40 : decode cXB_settle 40 = .ok (.iconst 0, 1) := by decide +kernel
theorem dXB_settle_41 : decode cXB_settle 41 = .ok (.iastore, 1) := by decide +kernel
theorem dXB_settle_42 : decode cXB_settle 42 = .ok (.iinc 1 1, 3) := by decide +kernel
theorem dXB_settle_45 : decode cXB_settle 45 = .ok (.goto (-43), 3) := by decide +kernel
theorem dXB_settle_48 : decode cXB_settle 48 = .ok (.return_, 1) := by decide +kernel
theorem dXB_onRing_0 : decode cXB_onRing 0 = .ok (.aload_n 0, 1) := by decide +kernel
theorem dXB_onRing_1 : decode cXB_onRing 1 = .ok (.getfield 9, 3) := by decide +kernel
theorem dXB_onRing_4 : decode cXB_onRing 4 = .ok (.iload_n 1, 1) := by decide +kernel
theorem dXB_onRing_5 : decode cXB_onRing 5 = .ok (.iaload, 1) := by decide +kernel
theorem dXB_onRing_6 : decode cXB_onRing 6 = .ok (.istore_n 2, 1) := by decide +kernel
theorem dXB_onRing_7 : decode cXB_onRing 7 = .ok (.iconst 0, 1) := by decide +kernel
theorem dXB_onRing_8 : decode cXB_onRing 8 = .ok (.istore_n 3, 1) := by decide +kernel
theorem dXB_onRing_9 : decode cXB_onRing 9 = .ok (.iload_n 3, 1) := by decide +kernel
theorem dXB_onRing_10 : decode cXB_onRing 10 = .ok (.bipush 30, 2) := by decide +kernel
theorem dXB_onRing_12 : decode cXB_onRing 12 = .ok (.if_icmp .ge 27, 3) := by decide +kernel
theorem dXB_onRing_15 : decode cXB_onRing 15 = .ok (.iload_n 2, 1) := by decide +kernel
theorem dXB_onRing_16 : decode cXB_onRing 16 = .ok (.ifCond .le 23, 3) := by decide +kernel
theorem dXB_onRing_19 : decode cXB_onRing 19 = .ok (.iload_n 2, 1) := by decide +kernel
theorem dXB_onRing_20 : decode cXB_onRing 20 = .ok (.iload_n 1, 1) := by decide +kernel
theorem dXB_onRing_21 : decode cXB_onRing 21 = .ok (.if_icmp .ne 5, 3) := by decide +kernel
theorem dXB_onRing_24 : decode cXB_onRing 24 = .ok (.iconst 1, 1) := by decide +kernel
theorem dXB_onRing_25 : decode cXB_onRing 25 = .ok (.ireturn, 1) := by decide +kernel
theorem dXB_onRing_26 : decode cXB_onRing 26 = .ok (.aload_n 0, 1) := by decide +kernel
theorem dXB_onRing_27 : decode cXB_onRing 27 = .ok (.getfield 9, 3) := by decide +kernel
theorem dXB_onRing_30 : decode cXB_onRing 30 = .ok (.iload_n 2, 1) := by decide +kernel
theorem dXB_onRing_31 : decode cXB_onRing 31 = .ok (.iaload, 1) := by decide +kernel
theorem dXB_onRing_32 : decode cXB_onRing 32 = .ok (.istore_n 2, 1) := by decide +kernel
theorem dXB_onRing_33 : decode cXB_onRing 33 = .ok (.iinc 3 1, 3) := by decide +kernel
theorem dXB_onRing_36 : decode cXB_onRing 36 = .ok (.goto (-27), 3) := by decide +kernel
theorem dXB_onRing_39 : decode cXB_onRing 39 = .ok (.iconst 0, 1) := by decide +kernel
theorem dXB_onRing_40 : decode cXB_onRing 40 = .ok (.ireturn, 1) := by decide +kernel
theorem dXB_count_0 : decode cXB_count 0 = .ok (.aload_n 0, 1) := by decide +kernel
theorem dXB_count_1 : decode cXB_count 1 = .ok (.getfield 33, 3) := by decide +kernel
theorem dXB_count_4 : decode cXB_count 4 = .ok (.invokestatic 46, 3) := by decide +kernel
theorem dXB_count_7 : decode cXB_count 7 = .ok (.ireturn, 1) := by decide +kernel
theorem dXI_bitCount_0 : decode cXI_bitCount 0 = .ok (.iload_n 0, 1) := by decide +kernel
theorem dXI_bitCount_1 : decode cXI_bitCount 1 = .ok (.iload_n 0, 1) := by decide +kernel
theorem dXI_bitCount_2 : decode cXI_bitCount 2 = .ok (.iconst 1, 1) := by decide +kernel
theorem dXI_bitCount_3 : decode cXI_bitCount 3 = .ok (.iushr, 1) := by decide +kernel
theorem dXI_bitCount_4 : decode cXI_bitCount 4 = .ok (.ldc_w 265, 3) := by decide +kernel
theorem dXI_bitCount_7 : decode cXI_bitCount 7 = .ok (.iand, 1) := by decide +kernel
theorem dXI_bitCount_8 : decode cXI_bitCount 8 = .ok (.isub, 1) := by decide +kernel
theorem dXI_bitCount_9 : decode cXI_bitCount 9 = .ok (.istore_n 0, 1) := by decide +kernel
theorem dXI_bitCount_10 : decode cXI_bitCount 10 = .ok (.iload_n 0, 1) := by decide +kernel
theorem dXI_bitCount_11 : decode cXI_bitCount 11 = .ok (.ldc_w 266, 3) := by decide +kernel
theorem dXI_bitCount_14 : decode cXI_bitCount 14 = .ok (.iand, 1) := by decide +kernel
theorem dXI_bitCount_15 : decode cXI_bitCount 15 = .ok (.iload_n 0, 1) := by decide +kernel
theorem dXI_bitCount_16 : decode cXI_bitCount 16 = .ok (.iconst 2, 1) := by decide +kernel
theorem dXI_bitCount_17 : decode cXI_bitCount 17 = .ok (.iushr, 1) := by decide +kernel
theorem dXI_bitCount_18 : decode cXI_bitCount 18 = .ok (.ldc_w 266, 3) := by decide +kernel
theorem dXI_bitCount_21 : decode cXI_bitCount 21 = .ok (.iand, 1) := by decide +kernel
theorem dXI_bitCount_22 : decode cXI_bitCount 22 = .ok (.iadd, 1) := by decide +kernel
theorem dXI_bitCount_23 : decode cXI_bitCount 23 = .ok (.istore_n 0, 1) := by decide +kernel
theorem dXI_bitCount_24 : decode cXI_bitCount 24 = .ok (.iload_n 0, 1) := by decide +kernel
theorem dXI_bitCount_25 : decode cXI_bitCount 25 = .ok (.iload_n 0, 1) := by decide +kernel
theorem dXI_bitCount_26 : decode cXI_bitCount 26 = .ok (.iconst 4, 1) := by decide +kernel
theorem dXI_bitCount_27 : decode cXI_bitCount 27 = .ok (.iushr, 1) := by decide +kernel
theorem dXI_bitCount_28 : decode cXI_bitCount 28 = .ok (.iadd, 1) := by decide +kernel
theorem dXI_bitCount_29 : decode cXI_bitCount 29 = .ok (.ldc_w 267, 3) := by decide +kernel
theorem dXI_bitCount_32 : decode cXI_bitCount 32 = .ok (.iand, 1) := by decide +kernel
theorem dXI_bitCount_33 : decode cXI_bitCount 33 = .ok (.istore_n 0, 1) := by decide +kernel
theorem dXI_bitCount_34 : decode cXI_bitCount 34 = .ok (.iload_n 0, 1) := by decide +kernel
theorem dXI_bitCount_35 : decode cXI_bitCount 35 = .ok (.iload_n 0, 1) := by decide +kernel
theorem dXI_bitCount_36 : decode cXI_bitCount 36 = .ok (.bipush 8, 2) := by decide +kernel
theorem dXI_bitCount_38 : decode cXI_bitCount 38 = .ok (.iushr, 1) := by decide +kernel
theorem dXI_bitCount_39 : decode cXI_bitCount 39 = .ok (.iadd, 1) := by decide +kernel
theorem dXI_bitCount_40 : decode cXI_bitCount 40 = .ok (.istore_n 0, 1) := by decide +kernel
theorem dXI_bitCount_41 : decode cXI_bitCount 41 = .ok (.iload_n 0, 1) := by decide +kernel
theorem dXI_bitCount_42 : decode cXI_bitCount 42 = .ok (.iload_n 0, 1) := by decide +kernel
theorem dXI_bitCount_43 : decode cXI_bitCount 43 = .ok (.bipush 16, 2) := by decide +kernel
theorem dXI_bitCount_45 : decode cXI_bitCount 45 = .ok (.iushr, 1) := by decide +kernel
theorem dXI_bitCount_46 : decode cXI_bitCount 46 = .ok (.iadd, 1) := by decide +kernel
theorem dXI_bitCount_47 : decode cXI_bitCount 47 = .ok (.istore_n 0, 1) := by decide +kernel
theorem dXI_bitCount_48 : decode cXI_bitCount 48 = .ok (.iload_n 0, 1) := by decide +kernel
theorem dXI_bitCount_49 : decode cXI_bitCount 49 = .ok (.bipush 63, 2) := by decide +kernel
theorem dXI_bitCount_51 : decode cXI_bitCount 51 = .ok (.iand, 1) := by decide +kernel
theorem dXI_bitCount_52 : decode cXI_bitCount 52 = .ok (.ireturn, 1) := by decide +kernel
theorem dXG_clear_0 : decode cXG_clear 0 = .ok (.aload_n 0, 1) := by decide +kernel
theorem dXG_clear_1 : decode cXG_clear 1 = .ok (.getfield 10, 3) := by decide +kernel
theorem dXG_clear_4 : decode cXG_clear 4 = .ok (.invokevirtual 76, 3) := by decide +kernel
theorem dXG_clear_7 : decode cXG_clear 7 = .ok (.aload_n 0, 1) := by decide +kernel
theorem dXG_clear_8 : decode cXG_clear 8 = .ok (.getfield 42, 3) := by decide +kernel
theorem dXG_clear_11 : decode cXG_clear 11 = .ok (.invokevirtual 69, 3) := by decide +kernel
theorem dXG_clear_14 : decode cXG_clear 14 = .ok (.aload_n 0, 1) := by decide +kernel
theorem dXG_clear_15 : decode cXG_clear 15 = .ok (.getfield 32, 3) := by decide +kernel
theorem dXG_clear_18 : decode cXG_clear 18 = .ok (.iconst 0, 1) := by decide +kernel
theorem dXG_clear_19 : decode cXG_clear 19 = .ok (.invokestatic 154, 3) := by decide +kernel
theorem dXG_clear_22 : decode cXG_clear 22 = .ok (.return_, 1) := by decide +kernel
theorem dXL_sign_0 : decode cXL_sign 0 = .ok (.aload 4, 2) := by decide +kernel
theorem dXL_sign_2 : decode cXL_sign 2 = .ok (.iconst 0, 1) := by decide +kernel
theorem dXL_sign_3 : decode cXL_sign 3 = .ok (.aload_n 0, 1) := by decide +kernel
theorem dXL_sign_4 : decode cXL_sign 4 = .ok (.lload_n 1, 1) := by decide +kernel
theorem dXL_sign_5 : decode cXL_sign 5 = .ok (.iload_n 3, 1) := by decide +kernel
theorem dXL_sign_6 : decode cXL_sign 6 = .ok (.invokevirtual 7, 3) := by decide +kernel
theorem dXL_sign_9 : decode cXL_sign 9 = .ok (.i2l, 1) := by decide +kernel
theorem dXL_sign_10 : decode cXL_sign 10 = .ok (.lastore, 1) := by decide +kernel
theorem dXL_sign_11 : decode cXL_sign 11 = .ok (.goto 11, 3) := by decide +kernel
theorem dXL_sign_14 : decode cXL_sign 14 = .ok (.astore 5, 2) := by decide +kernel
theorem dXL_sign_16 : decode cXL_sign 16 = .ok (.iconst 1, 1) := by decide +kernel
theorem dXL_sign_17 : decode cXL_sign 17 = .ok (.ireturn, 1) := by decide +kernel
theorem dXL_sign_18 : decode cXL_sign 18 = .ok (.astore 5, 2) := by decide +kernel
theorem dXL_sign_20 : decode cXL_sign 20 = .ok (.iconst 2, 1) := by decide +kernel
theorem dXL_sign_21 : decode cXL_sign 21 = .ok (.ireturn, 1) := by decide +kernel
theorem dXL_sign_22 : decode cXL_sign 22 = .ok (.iconst 0, 1) := by decide +kernel
theorem dXL_sign_23 : decode cXL_sign 23 = .ok (.ireturn, 1) := by decide +kernel
theorem dXG_sign_0 : decode cXG_sign 0 = .ok (.iload_n 3, 1) := by decide +kernel
theorem dXG_sign_1 : decode cXG_sign 1 = .ok (.iconst 1, 1) := by decide +kernel
theorem dXG_sign_2 : decode cXG_sign 2 = .ok (.if_icmp .lt 9, 3) := by decide +kernel
theorem dXG_sign_5 : decode cXG_sign 5 = .ok (.iload_n 3, 1) := by decide +kernel
theorem dXG_sign_6 : decode cXG_sign 6 = .ok (.bipush 8, 2) := by decide +kernel
theorem dXG_sign_8 : decode cXG_sign 8 = .ok (.if_icmp .le 13, 3) := by decide +kernel
theorem dXG_sign_11 : decode cXG_sign 11 = .ok (.new 49, 3) := by decide +kernel
theorem dXG_sign_14 : decode cXG_sign 14 = .ok (.dup, 1) := by decide +kernel
theorem dXG_sign_15 : decode cXG_sign 15 = .ok (.ldc 51, 2) := by decide +kernel
theorem dXG_sign_17 : decode cXG_sign 17 = .ok (.invokespecial 53, 3) := by decide +kernel
theorem dXG_sign_20 : decode cXG_sign 20 = .ok (.athrow, 1) := by decide +kernel
theorem dXG_sign_21 : decode cXG_sign 21 = .ok (.aload_n 0, 1) := by decide +kernel
theorem dXG_sign_22 : decode cXG_sign 22 = .ok (.getfield 10, 3) := by decide +kernel
theorem dXG_sign_25 : decode cXG_sign 25 = .ok (.iload_n 3, 1) := by decide +kernel
theorem dXG_sign_26 : decode cXG_sign 26 = .ok (.invokevirtual 56, 3) := by decide +kernel
theorem dXG_sign_29 : decode cXG_sign 29 = .ok (.ifCond .ne 13, 3) := by decide +kernel
theorem dXG_sign_32 : decode cXG_sign 32 = .ok (.new 60, 3) := by decide +kernel
theorem dXG_sign_35 : decode cXG_sign 35 = .ok (.dup, 1) := by decide +kernel
theorem dXG_sign_36 : decode cXG_sign 36 = .ok (.ldc 62, 2) := by decide +kernel
theorem dXG_sign_38 : decode cXG_sign 38 = .ok (.invokespecial 64, 3) := by decide +kernel
theorem dXG_sign_41 : decode cXG_sign 41 = .ok (.athrow, 1) := by decide +kernel
theorem dXG_sign_42 : decode cXG_sign 42 = .ok (.aload_n 0, 1) := by decide +kernel
theorem dXG_sign_43 : decode cXG_sign 43 = .ok (.getfield 10, 3) := by decide +kernel
theorem dXG_sign_46 : decode cXG_sign 46 = .ok (.lload_n 1, 1) := by decide +kernel
theorem dXG_sign_47 : decode cXG_sign 47 = .ok (.iload_n 3, 1) := by decide +kernel
theorem dXG_sign_48 : decode cXG_sign 48 = .ok (.invokevirtual 65, 3) := by decide +kernel
theorem dXG_sign_51 : decode cXG_sign 51 = .ok (.ireturn, 1) := by decide +kernel
theorem dXT_hasRoom_0 : decode cXT_hasRoom 0 = .ok (.iload_n 1, 1) := by decide +kernel
theorem dXT_hasRoom_1 : decode cXT_hasRoom 1 = .ok (.sipush 400, 3) := by decide +kernel
theorem dXT_hasRoom_4 : decode cXT_hasRoom 4 = .ok (.aload_n 0, 1) := by decide +kernel
theorem dXT_hasRoom_5 : decode cXT_hasRoom 5 = .ok (.getfield 15, 3) := by decide +kernel
theorem dXT_hasRoom_8 : decode cXT_hasRoom 8 = .ok (.isub, 1) := by decide +kernel
theorem dXT_hasRoom_9 : decode cXT_hasRoom 9 = .ok (.if_icmp .gt 7, 3) := by decide +kernel
theorem dXT_hasRoom_12 : decode cXT_hasRoom 12 = .ok (.iconst 1, 1) := by decide +kernel
theorem dXT_hasRoom_13 : decode cXT_hasRoom 13 = .ok (.goto 4, 3) := by decide +kernel
theorem dXT_hasRoom_16 : decode cXT_hasRoom 16 = .ok (.iconst 0, 1) := by decide +kernel
theorem dXT_hasRoom_17 : decode cXT_hasRoom 17 = .ok (.ireturn, 1) := by decide +kernel
theorem dXT_append_0 : decode cXT_append 0 = .ok (.iload_n 3, 1) := by decide +kernel
theorem dXT_append_1 : decode cXT_append 1 = .ok (.iconst 1, 1) := by decide +kernel
theorem dXT_append_2 : decode cXT_append 2 = .ok (.isub, 1) := by decide +kernel
theorem dXT_append_3 : decode cXT_append 3 = .ok (.istore 4, 2) := by decide +kernel
theorem dXT_append_5 : decode cXT_append 5 = .ok (.iload 4, 2) := by decide +kernel
theorem dXT_append_7 : decode cXT_append 7 = .ok (.ifCond .lt 50, 3) := by decide +kernel
theorem dXT_append_10 : decode cXT_append 10 = .ok (.aload_n 0, 1) := by decide +kernel
theorem dXT_append_11 : decode cXT_append 11 = .ok (.getfield 15, 3) := by decide +kernel
theorem dXT_append_14 : decode cXT_append 14 = .ok (.sipush 400, 3) := by decide +kernel
theorem dXT_append_17 : decode cXT_append 17 = .ok (.if_icmp .ge 40, 3) := by decide +kernel
theorem dXT_append_20 : decode cXT_append 20 = .ok (.aload_n 0, 1) := by decide +kernel
theorem dXT_append_21 : decode cXT_append 21 = .ok (.getfield 9, 3) := by decide +kernel
theorem dXT_append_24 : decode cXT_append 24 = .ok (.aload_n 0, 1) := by decide +kernel
theorem dXT_append_25 : decode cXT_append 25 = .ok (.getfield 15, 3) := by decide +kernel
theorem dXT_append_28 : decode cXT_append 28 = .ok (.lload_n 1, 1) := by decide +kernel
theorem dXT_append_29 : decode cXT_append 29 = .ok (.bipush 8, 2) := by decide +kernel
theorem dXT_append_31 : decode cXT_append 31 = .ok (.iload 4, 2) := by decide +kernel
theorem dXT_append_33 : decode cXT_append 33 = .ok (.imul, 1) := by decide +kernel
theorem dXT_append_34 : decode cXT_append 34 = .ok (.lushr, 1) := by decide +kernel
theorem dXT_append_35 : decode cXT_append 35 = .ok (.ldc2_w 25, 3) := by decide +kernel
theorem dXT_append_38 : decode cXT_append 38 = .ok (.land, 1) := by decide +kernel
theorem dXT_append_39 : decode cXT_append 39 = .ok (.l2i, 1) := by decide +kernel
theorem dXT_append_40 : decode cXT_append 40 = .ok (.iastore, 1) := by decide +kernel
theorem dXT_append_41 : decode cXT_append 41 = .ok (.aload_n 0, 1) := by decide +kernel
theorem dXT_append_42 : decode cXT_append 42 = .ok (.dup, 1) := by decide +kernel
theorem dXT_append_43 : decode cXT_append 43 = .ok (.getfield 15, 3) := by decide +kernel
theorem dXT_append_46 : decode cXT_append 46 = .ok (.iconst 1, 1) := by decide +kernel
theorem dXT_append_47 : decode cXT_append 47 = .ok (.iadd, 1) := by decide +kernel
theorem dXT_append_48 : decode cXT_append 48 = .ok (.putfield 15, 3) := by decide +kernel
theorem dXT_append_51 : decode cXT_append 51 = .ok (.iinc 4 (-1), 3) := by decide +kernel
theorem dXT_append_54 : decode cXT_append 54 = .ok (.goto (-49), 3) := by decide +kernel
theorem dXT_append_57 : decode cXT_append 57 = .ok (.aload_n 0, 1) := by decide +kernel
theorem dXT_append_58 : decode cXT_append 58 = .ok (.getfield 15, 3) := by decide +kernel
theorem dXT_append_61 : decode cXT_append 61 = .ok (.ireturn, 1) := by decide +kernel
theorem dXL_span_0 : decode cXL_span 0 = .ok (.aload 4, 2) := by decide +kernel
theorem dXL_span_2 : decode cXL_span 2 = .ok (.iconst 0, 1) := by decide +kernel
theorem dXL_span_3 : decode cXL_span 3 = .ok (.aload_n 0, 1) := by decide +kernel
theorem dXL_span_4 : decode cXL_span 4 = .ok (.iload_n 1, 1) := by decide +kernel
theorem dXL_span_5 : decode cXL_span 5 = .ok (.iload_n 2, 1) := by decide +kernel
theorem dXL_span_6 : decode cXL_span 6 = .ok (.iload_n 3, 1) := by decide +kernel
theorem dXL_span_7 : decode cXL_span 7 = .ok (.invokevirtual 17, 3) := by decide +kernel
theorem dXL_span_10 : decode cXL_span 10 = .ok (.i2l, 1) := by decide +kernel
theorem dXL_span_11 : decode cXL_span 11 = .ok (.lastore, 1) := by decide +kernel
theorem dXL_span_12 : decode cXL_span 12 = .ok (.goto 7, 3) := by decide +kernel
theorem dXL_span_15 : decode cXL_span 15 = .ok (.astore 5, 2) := by decide +kernel
theorem dXL_span_17 : decode cXL_span 17 = .ok (.iconst 1, 1) := by decide +kernel
theorem dXL_span_18 : decode cXL_span 18 = .ok (.ireturn, 1) := by decide +kernel
theorem dXL_span_19 : decode cXL_span 19 = .ok (.iconst 0, 1) := by decide +kernel
theorem dXL_span_20 : decode cXL_span 20 = .ok (.ireturn, 1) := by decide +kernel
theorem dXG_span_0 : decode cXG_span 0 = .ok (.aload_n 0, 1) := by decide +kernel
theorem dXG_span_1 : decode cXG_span 1 = .ok (.iload_n 1, 1) := by decide +kernel
theorem dXG_span_2 : decode cXG_span 2 = .ok (.invokevirtual 89, 3) := by decide +kernel
theorem dXG_span_5 : decode cXG_span 5 = .ok (.iload_n 2, 1) := by decide +kernel
theorem dXG_span_6 : decode cXG_span 6 = .ok (.bipush 8, 2) := by decide +kernel
theorem dXG_span_8 : decode cXG_span 8 = .ok (.invokestatic 93, 3) := by decide +kernel
theorem dXG_span_11 : decode cXG_span 11 = .ok (.iload_n 3, 1) := by decide +kernel
theorem dXG_span_12 : decode cXG_span 12 = .ok (.iconst 2, 1) := by decide +kernel
theorem dXG_span_13 : decode cXG_span 13 = .ok (.invokestatic 93, 3) := by decide +kernel
theorem dXG_span_16 : decode cXG_span 16 = .ok (.aload_n 0, 1) := by decide +kernel
theorem dXG_span_17 : decode cXG_span 17 = .ok (.getfield 42, 3) := by decide +kernel
theorem dXG_span_20 : decode cXG_span 20 = .ok (.iload_n 1, 1) := by decide +kernel
theorem dXG_span_21 : decode cXG_span 21 = .ok (.iload_n 2, 1) := by decide +kernel
theorem dXG_span_22 : decode cXG_span 22 = .ok (.iload_n 3, 1) := by decide +kernel
theorem dXG_span_23 : decode cXG_span 23 = .ok (.invokevirtual 97, 3) := by decide +kernel
theorem dXG_span_26 : decode cXG_span 26 = .ok (.ireturn, 1) := by decide +kernel
theorem dXG_needGrade_0 : decode cXG_needGrade 0 = .ok (.aload_n 0, 1) := by decide +kernel
theorem dXG_needGrade_1 : decode cXG_needGrade 1 = .ok (.getfield 42, 3) := by decide +kernel
theorem dXG_needGrade_4 : decode cXG_needGrade 4 = .ok (.iload_n 1, 1) := by decide +kernel
theorem dXG_needGrade_5 : decode cXG_needGrade 5 = .ok (.invokevirtual 160, 3) := by decide +kernel
theorem dXG_needGrade_8 : decode cXG_needGrade 8 = .ok (.ifCond .ne 13, 3) := by decide +kernel
theorem dXG_needGrade_11 : decode cXG_needGrade 11 = .ok (.new 163, 3) := by decide +kernel
theorem dXG_needGrade_14 : decode cXG_needGrade 14 = .ok (.dup, 1) := by decide +kernel
theorem dXG_needGrade_15 : decode cXG_needGrade 15 = .ok (.ldc 165, 2) := by decide +kernel
theorem dXG_needGrade_17 : decode cXG_needGrade 17 = .ok (.invokespecial 167, 3) := by decide +kernel
theorem dXG_needGrade_20 : decode cXG_needGrade 20 = .ok (.athrow, 1) := by decide +kernel
theorem dXG_needGrade_21 : decode cXG_needGrade 21 = .ok (.return_, 1) := by decide +kernel
theorem dXG_needBelow_0 : decode cXG_needBelow 0 = .ok (.iload_n 0, 1) := by decide +kernel
theorem dXG_needBelow_1 : decode cXG_needBelow 1 = .ok (.ifCond .lt 8, 3) := by decide +kernel
theorem dXG_needBelow_4 : decode cXG_needBelow 4 = .ok (.iload_n 0, 1) := by decide +kernel
theorem dXG_needBelow_5 : decode cXG_needBelow 5 = .ok (.iload_n 1, 1) := by decide +kernel
theorem dXG_needBelow_6 : decode cXG_needBelow 6 = .ok (.if_icmp .lt 13, 3) := by decide +kernel
theorem dXG_needBelow_9 : decode cXG_needBelow 9 = .ok (.new 163, 3) := by decide +kernel
theorem dXG_needBelow_12 : decode cXG_needBelow 12 = .ok (.dup, 1) := by decide +kernel
theorem dXG_needBelow_13 : decode cXG_needBelow 13 = .ok (.ldc 168, 2) := by decide +kernel
theorem dXG_needBelow_15 : decode cXG_needBelow 15 = .ok (.invokespecial 167, 3) := by decide +kernel
theorem dXG_needBelow_18 : decode cXG_needBelow 18 = .ok (.athrow, 1) := by decide +kernel
theorem dXG_needBelow_19 : decode cXG_needBelow 19 = .ok (.return_, 1) := by decide +kernel
theorem dXB_endOf_0 : decode cXB_endOf 0 = .ok (.iload_n 1, 1) := by decide +kernel
theorem dXB_endOf_1 : decode cXB_endOf 1 = .ok (.istore 4, 2) := by decide +kernel
theorem dXB_endOf_3 : decode cXB_endOf 3 = .ok (.iconst 0, 1) := by decide +kernel
theorem dXB_endOf_4 : decode cXB_endOf 4 = .ok (.istore 5, 2) := by decide +kernel
theorem dXB_endOf_6 : decode cXB_endOf 6 = .ok (.iload 5, 2) := by decide +kernel
theorem dXB_endOf_8 : decode cXB_endOf 8 = .ok (.bipush 30, 2) := by decide +kernel
theorem dXB_endOf_10 : decode cXB_endOf 10 = .ok (.if_icmp .ge 33, 3) := by decide +kernel
theorem dXB_endOf_13 : decode cXB_endOf 13 = .ok (.iload 4, 2) := by decide +kernel
theorem dXB_endOf_15 : decode cXB_endOf 15 = .ok (.ifCond .le 28, 3) := by decide +kernel
theorem dXB_endOf_18 : decode cXB_endOf 18 = .ok (.aload_n 0, 1) := by decide +kernel
theorem dXB_endOf_19 : decode cXB_endOf 19 = .ok (.iload 4, 2) := by decide +kernel
theorem dXB_endOf_21 : decode cXB_endOf 21 = .ok (.iload_n 2, 1) := by decide +kernel
theorem dXB_endOf_22 : decode cXB_endOf 22 = .ok (.invokevirtual 63, 3) := by decide +kernel
theorem dXB_endOf_25 : decode cXB_endOf 25 = .ok (.ifCond .ne 18, 3) := by decide +kernel
theorem dXB_endOf_28 : decode cXB_endOf 28 = .ok (.aload_n 0, 1) := by decide +kernel
theorem dXB_endOf_29 : decode cXB_endOf 29 = .ok (.getfield 15, 3) := by decide +kernel
theorem dXB_endOf_32 : decode cXB_endOf 32 = .ok (.iload 4, 2) := by decide +kernel
theorem dXB_endOf_34 : decode cXB_endOf 34 = .ok (.iaload, 1) := by decide +kernel
theorem dXB_endOf_35 : decode cXB_endOf 35 = .ok (.istore 4, 2) := by decide +kernel
theorem dXB_endOf_37 : decode cXB_endOf 37 = .ok (.iinc 5 1, 3) := by decide +kernel
theorem dXB_endOf_40 : decode cXB_endOf 40 = .ok (.goto (-34), 3) := by decide +kernel
theorem dXB_endOf_43 : decode cXB_endOf 43 = .ok (.iload 4, 2) := by decide +kernel
theorem dXB_endOf_45 : decode cXB_endOf 45 = .ok (.ifCond .ne 14, 3) := by decide +kernel
theorem dXB_endOf_48 : decode cXB_endOf 48 = .ok (.iload_n 3, 1) := by decide +kernel
theorem dXB_endOf_49 : decode cXB_endOf 49 = .ok (.ifCond .ne 7, 3) := by decide +kernel
theorem dXB_endOf_52 : decode cXB_endOf 52 = .ok (.iconst 0, 1) := by decide +kernel
theorem dXB_endOf_53 : decode cXB_endOf 53 = .ok (.goto 5, 3) := by decide +kernel
theorem dXB_endOf_56 : decode cXB_endOf 56 = .ok (.ldc 66, 2) := by decide +kernel
theorem dXB_endOf_58 : decode cXB_endOf 58 = .ok (.ireturn, 1) := by decide +kernel
theorem dXB_endOf_59 : decode cXB_endOf 59 = .ok (.iload_n 3, 1) := by decide +kernel
theorem dXB_endOf_60 : decode cXB_endOf 60 = .ok (.ifCond .ne 18, 3) := by decide +kernel
theorem dXB_endOf_63 : decode cXB_endOf 63 = .ok (.aload_n 0, 1) := by decide +kernel
theorem dXB_endOf_64 : decode cXB_endOf 64 = .ok (.getfield 18, 3) := by decide +kernel
theorem dXB_endOf_67 : decode cXB_endOf 67 = .ok (.iload 4, 2) := by decide +kernel
theorem dXB_endOf_69 : decode cXB_endOf 69 = .ok (.bipush 8, 2) := by decide +kernel
theorem dXB_endOf_71 : decode cXB_endOf 71 = .ok (.imul, 1) := by decide +kernel
theorem dXB_endOf_72 : decode cXB_endOf 72 = .ok (.iload_n 2, 1) := by decide +kernel
theorem dXB_endOf_73 : decode cXB_endOf 73 = .ok (.iadd, 1) := by decide +kernel
theorem dXB_endOf_74 : decode cXB_endOf 74 = .ok (.iaload, 1) := by decide +kernel
theorem dXB_endOf_75 : decode cXB_endOf 75 = .ok (.goto 15, 3) := by decide +kernel
theorem dXB_endOf_78 : decode cXB_endOf 78 = .ok (.aload_n 0, 1) := by decide +kernel
theorem dXB_endOf_79 : decode cXB_endOf 79 = .ok (.getfield 21, 3) := by decide +kernel
theorem dXB_endOf_82 : decode cXB_endOf 82 = .ok (.iload 4, 2) := by decide +kernel
theorem dXB_endOf_84 : decode cXB_endOf 84 = .ok (.bipush 8, 2) := by decide +kernel
theorem dXB_endOf_86 : decode cXB_endOf 86 = .ok (.imul, 1) := by decide +kernel
theorem dXB_endOf_87 : decode cXB_endOf 87 = .ok (.iload_n 2, 1) := by decide +kernel
theorem dXB_endOf_88 : decode cXB_endOf 88 = .ok (.iadd, 1) := by decide +kernel
theorem dXB_endOf_89 : decode cXB_endOf 89 = .ok (.iaload, 1) := by decide +kernel
theorem dXB_endOf_90 : decode cXB_endOf 90 = .ok (.ireturn, 1) := by decide +kernel
theorem dXL_limit_0 : decode cXL_limit 0 = .ok (.aload_n 3, 1) := by decide +kernel
theorem dXL_limit_1 : decode cXL_limit 1 = .ok (.iconst 0, 1) := by decide +kernel
theorem dXL_limit_2 : decode cXL_limit 2 = .ok (.aload_n 0, 1) := by decide +kernel
theorem dXL_limit_3 : decode cXL_limit 3 = .ok (.iload_n 1, 1) := by decide +kernel
theorem dXL_limit_4 : decode cXL_limit 4 = .ok (.iload_n 2, 1) := by decide +kernel
theorem dXL_limit_5 : decode cXL_limit 5 = .ok (.invokevirtual 23, 3) := by decide +kernel
theorem dXL_limit_8 : decode cXL_limit 8 = .ok (.i2l, 1) := by decide +kernel
theorem dXL_limit_9 : decode cXL_limit 9 = .ok (.lastore, 1) := by decide +kernel
theorem dXL_limit_10 : decode cXL_limit 10 = .ok (.goto 7, 3) := by decide +kernel
theorem dXL_limit_13 : decode cXL_limit 13 = .ok (.astore 4, 2) := by decide +kernel
theorem dXL_limit_15 : decode cXL_limit 15 = .ok (.iconst 1, 1) := by decide +kernel
theorem dXL_limit_16 : decode cXL_limit 16 = .ok (.ireturn, 1) := by decide +kernel
theorem dXL_limit_17 : decode cXL_limit 17 = .ok (.iconst 0, 1) := by decide +kernel
theorem dXL_limit_18 : decode cXL_limit 18 = .ok (.ireturn, 1) := by decide +kernel
theorem dXG_limit_0 : decode cXG_limit 0 = .ok (.aload_n 0, 1) := by decide +kernel
theorem dXG_limit_1 : decode cXG_limit 1 = .ok (.iload_n 1, 1) := by decide +kernel
theorem dXG_limit_2 : decode cXG_limit 2 = .ok (.invokevirtual 89, 3) := by decide +kernel
theorem dXG_limit_5 : decode cXG_limit 5 = .ok (.iload_n 2, 1) := by decide +kernel
theorem dXG_limit_6 : decode cXG_limit 6 = .ok (.iconst 4, 1) := by decide +kernel
theorem dXG_limit_7 : decode cXG_limit 7 = .ok (.invokestatic 93, 3) := by decide +kernel
theorem dXG_limit_10 : decode cXG_limit 10 = .ok (.aload_n 0, 1) := by decide +kernel
theorem dXG_limit_11 : decode cXG_limit 11 = .ok (.getfield 42, 3) := by decide +kernel
theorem dXG_limit_14 : decode cXG_limit 14 = .ok (.iload_n 1, 1) := by decide +kernel
theorem dXG_limit_15 : decode cXG_limit 15 = .ok (.iload_n 2, 1) := by decide +kernel
theorem dXG_limit_16 : decode cXG_limit 16 = .ok (.invokevirtual 101, 3) := by decide +kernel
theorem dXG_limit_19 : decode cXG_limit 19 = .ok (.ireturn, 1) := by decide +kernel
theorem dXB_limitOf_0 : decode cXB_limitOf 0 = .ok (.iload_n 1, 1) := by decide +kernel
theorem dXB_limitOf_1 : decode cXB_limitOf 1 = .ok (.istore_n 3, 1) := by decide +kernel
theorem dXB_limitOf_2 : decode cXB_limitOf 2 = .ok (.iconst 0, 1) := by decide +kernel
theorem dXB_limitOf_3 : decode cXB_limitOf 3 = .ok (.istore 4, 2) := by decide +kernel
theorem dXB_limitOf_5 : decode cXB_limitOf 5 = .ok (.iload 4, 2) := by decide +kernel
theorem dXB_limitOf_7 : decode cXB_limitOf 7 = .ok (.bipush 30, 2) := by decide +kernel
theorem dXB_limitOf_9 : decode cXB_limitOf 9 = .ok (.if_icmp .ge 29, 3) := by decide +kernel
theorem dXB_limitOf_12 : decode cXB_limitOf 12 = .ok (.iload_n 3, 1) := by decide +kernel
theorem dXB_limitOf_13 : decode cXB_limitOf 13 = .ok (.ifCond .le 25, 3) := by decide +kernel
theorem dXB_limitOf_16 : decode cXB_limitOf 16 = .ok (.aload_n 0, 1) := by decide +kernel
theorem dXB_limitOf_17 : decode cXB_limitOf 17 = .ok (.iload_n 3, 1) := by decide +kernel
theorem dXB_limitOf_18 : decode cXB_limitOf 18 = .ok (.iload_n 2, 1) := by decide +kernel
theorem dXB_limitOf_19 : decode cXB_limitOf 19 = .ok (.invokevirtual 67, 3) := by decide +kernel
theorem dXB_limitOf_22 : decode cXB_limitOf 22 = .ok (.ifCond .ne 16, 3) := by decide +kernel
theorem dXB_limitOf_25 : decode cXB_limitOf 25 = .ok (.aload_n 0, 1) := by decide +kernel
theorem dXB_limitOf_26 : decode cXB_limitOf 26 = .ok (.getfield 15, 3) := by decide +kernel
theorem dXB_limitOf_29 : decode cXB_limitOf 29 = .ok (.iload_n 3, 1) := by decide +kernel
theorem dXB_limitOf_30 : decode cXB_limitOf 30 = .ok (.iaload, 1) := by decide +kernel
theorem dXB_limitOf_31 : decode cXB_limitOf 31 = .ok (.istore_n 3, 1) := by decide +kernel
theorem dXB_limitOf_32 : decode cXB_limitOf 32 = .ok (.iinc 4 1, 3) := by decide +kernel
theorem dXB_limitOf_35 : decode cXB_limitOf 35 = .ok (.goto (-30), 3) := by decide +kernel
theorem dXB_limitOf_38 : decode cXB_limitOf 38 = .ok (.iload_n 3, 1) := by decide +kernel
theorem dXB_limitOf_39 : decode cXB_limitOf 39 = .ok (.ifCond .ne 7, 3) := by decide +kernel
theorem dXB_limitOf_42 : decode cXB_limitOf 42 = .ok (.iconst (-1), 1) := by decide +kernel
theorem dXB_limitOf_43 : decode cXB_limitOf 43 = .ok (.goto 13, 3) := by decide +kernel
theorem dXB_limitOf_46 : decode cXB_limitOf 46 = .ok (.aload_n 0, 1) := by decide +kernel
theorem dXB_limitOf_47 : decode cXB_limitOf 47 = .ok (.getfield 24, 3) := by decide +kernel
theorem dXB_limitOf_50 : decode cXB_limitOf 50 = .ok (.iload_n 3, 1) := by decide +kernel
theorem dXB_limitOf_51 : decode cXB_limitOf 51 = .ok (.iconst 4, 1) := by decide +kernel
theorem dXB_limitOf_52 : decode cXB_limitOf 52 = .ok (.imul, 1) := by decide +kernel
theorem dXB_limitOf_53 : decode cXB_limitOf 53 = .ok (.iload_n 2, 1) := by decide +kernel
theorem dXB_limitOf_54 : decode cXB_limitOf 54 = .ok (.iadd, 1) := by decide +kernel
theorem dXB_limitOf_55 : decode cXB_limitOf 55 = .ok (.iaload, 1) := by decide +kernel
theorem dXB_limitOf_56 : decode cXB_limitOf 56 = .ok (.ireturn, 1) := by decide +kernel
theorem dXL_equivalent_0 : decode cXL_equivalent 0 = .ok (.aload 5, 2) := by decide +kernel
theorem dXL_equivalent_2 : decode cXL_equivalent 2 = .ok (.iconst 0, 1) := by decide +kernel
theorem dXL_equivalent_3 : decode cXL_equivalent 3 = .ok (.aload_n 0, 1) := by decide +kernel
theorem dXL_equivalent_4 : decode cXL_equivalent 4 = .ok (.iload_n 1, 1) := by decide +kernel
theorem dXL_equivalent_5 : decode cXL_equivalent 5 = .ok (.iload_n 2, 1) := by decide +kernel
theorem dXL_equivalent_6 : decode cXL_equivalent 6 = .ok (.iload_n 3, 1) := by decide +kernel
theorem dXL_equivalent_7 : decode cXL_equivalent 7 = .ok (.iload 4, 2) := by decide +kernel
theorem dXL_equivalent_9 : decode cXL_equivalent 9 = .ok (.invokevirtual 27, 3) := by decide +kernel
theorem dXL_equivalent_12 : decode cXL_equivalent 12 = .ok (.lastore, 1) := by decide +kernel
theorem dXL_equivalent_13 : decode cXL_equivalent 13 = .ok (.goto 11, 3) := by decide +kernel
theorem dXL_equivalent_16 : decode cXL_equivalent 16 = .ok (.astore 6, 2) := by decide +kernel
theorem dXL_equivalent_18 : decode cXL_equivalent 18 = .ok (.iconst 1, 1) := by decide +kernel
theorem dXL_equivalent_19 : decode cXL_equivalent 19 = .ok (.ireturn, 1) := by decide +kernel
theorem dXL_equivalent_20 : decode cXL_equivalent 20 = .ok (.astore 6, 2) := by decide +kernel
theorem dXL_equivalent_22 : decode cXL_equivalent 22 = .ok (.iconst 2, 1) := by decide +kernel
theorem dXL_equivalent_23 : decode cXL_equivalent 23 = .ok (.ireturn, 1) := by decide +kernel
theorem dXL_equivalent_24 : decode cXL_equivalent 24 = .ok (.iconst 0, 1) := by decide +kernel
theorem dXL_equivalent_25 : decode cXL_equivalent 25 = .ok (.ireturn, 1) := by decide +kernel
theorem dXG_equivalent_0 : decode cXG_equivalent 0 = .ok (.aload_n 0, 1) := by decide +kernel
theorem dXG_equivalent_1 : decode cXG_equivalent 1 = .ok (.iload_n 1, 1) := by decide +kernel
theorem dXG_equivalent_2 : decode cXG_equivalent 2 = .ok (.invokevirtual 89, 3) := by decide +kernel
theorem dXG_equivalent_5 : decode cXG_equivalent 5 = .ok (.iload_n 2, 1) := by decide +kernel
theorem dXG_equivalent_6 : decode cXG_equivalent 6 = .ok (.iconst 4, 1) := by decide +kernel
theorem dXG_equivalent_7 : decode cXG_equivalent 7 = .ok (.invokestatic 93, 3) := by decide +kernel
theorem dXG_equivalent_10 : decode cXG_equivalent 10 = .ok (.iload_n 3, 1) := by decide +kernel
theorem dXG_equivalent_11 : decode cXG_equivalent 11 = .ok (.iconst 2, 1) := by decide +kernel
theorem dXG_equivalent_12 : decode cXG_equivalent 12 = .ok (.invokestatic 93, 3) := by decide +kernel
theorem dXG_equivalent_15 : decode cXG_equivalent 15 = .ok (.iload 4, 2) := by decide +kernel
theorem dXG_equivalent_17 : decode cXG_equivalent 17 = .ok (.iconst 2, 1) := by decide +kernel
theorem dXG_equivalent_18 : decode cXG_equivalent 18 = .ok (.invokestatic 93, 3) := by decide +kernel
theorem dXG_equivalent_21 : decode cXG_equivalent 21 = .ok (.aload_n 0, 1) := by decide +kernel
theorem dXG_equivalent_22 : decode cXG_equivalent 22 = .ok (.iload_n 2, 1) := by decide +kernel
theorem dXG_equivalent_23 : decode cXG_equivalent 23 = .ok (.invokevirtual 105, 3) := by decide +kernel
theorem dXG_equivalent_26 : decode cXG_equivalent 26 = .ok (.aload_n 0, 1) := by decide +kernel
theorem dXG_equivalent_27 : decode cXG_equivalent 27 = .ok (.getfield 42, 3) := by decide +kernel
theorem dXG_equivalent_30 : decode cXG_equivalent 30 = .ok (.iload_n 1, 1) := by decide +kernel
theorem dXG_equivalent_31 : decode cXG_equivalent 31 = .ok (.iload_n 3, 1) := by decide +kernel
theorem dXG_equivalent_32 : decode cXG_equivalent 32 = .ok (.aload_n 0, 1) := by decide +kernel
theorem dXG_equivalent_33 : decode cXG_equivalent 33 = .ok (.getfield 36, 3) := by decide +kernel
theorem dXG_equivalent_36 : decode cXG_equivalent 36 = .ok (.invokevirtual 108, 3) := by decide +kernel
theorem dXG_equivalent_39 : decode cXG_equivalent 39 = .ok (.aload_n 0, 1) := by decide +kernel
theorem dXG_equivalent_40 : decode cXG_equivalent 40 = .ok (.getfield 42, 3) := by decide +kernel
theorem dXG_equivalent_43 : decode cXG_equivalent 43 = .ok (.iload_n 2, 1) := by decide +kernel
theorem dXG_equivalent_44 : decode cXG_equivalent 44 = .ok (.aload_n 0, 1) := by decide +kernel
theorem dXG_equivalent_45 : decode cXG_equivalent 45 = .ok (.getfield 36, 3) := by decide +kernel
theorem dXG_equivalent_48 : decode cXG_equivalent 48 = .ok (.invokevirtual 112, 3) := by decide +kernel
theorem dXG_equivalent_51 : decode cXG_equivalent 51 = .ok (.iload 4, 2) := by decide +kernel
theorem dXG_equivalent_53 : decode cXG_equivalent 53 = .ok (.invokestatic 116, 3) := by decide +kernel
theorem dXG_equivalent_56 : decode cXG_equivalent 56 = .ok (.lreturn, 1) := by decide +kernel
theorem dXG_needFormula_0 : decode cXG_needFormula 0 = .ok (.aload_n 0, 1) := by decide +kernel
theorem dXG_needFormula_1 : decode cXG_needFormula 1 = .ok (.getfield 42, 3) := by decide +kernel
theorem dXG_needFormula_4 : decode cXG_needFormula 4 = .ok (.iload_n 1, 1) := by decide +kernel
theorem dXG_needFormula_5 : decode cXG_needFormula 5 = .ok (.invokevirtual 172, 3) := by decide +kernel
theorem dXG_needFormula_8 : decode cXG_needFormula 8 = .ok (.ifCond .ne 13, 3) := by decide +kernel
theorem dXG_needFormula_11 : decode cXG_needFormula 11 = .ok (.new 175, 3) := by decide +kernel
theorem dXG_needFormula_14 : decode cXG_needFormula 14 = .ok (.dup, 1) := by decide +kernel
theorem dXG_needFormula_15 : decode cXG_needFormula 15 = .ok (.ldc 177, 2) := by decide +kernel
theorem dXG_needFormula_17 : decode cXG_needFormula 17 = .ok (.invokespecial 179, 3) := by decide +kernel
theorem dXG_needFormula_20 : decode cXG_needFormula 20 = .ok (.athrow, 1) := by decide +kernel
theorem dXG_needFormula_21 : decode cXG_needFormula 21 = .ok (.return_, 1) := by decide +kernel
theorem dXB_copyEnds_0 : decode cXB_copyEnds 0 = .ok (.iconst 0, 1) := by decide +kernel
theorem dXB_copyEnds_1 : decode cXB_copyEnds 1 = .ok (.istore 4, 2) := by decide +kernel
theorem dXB_copyEnds_3 : decode cXB_copyEnds 3 = .ok (.iload 4, 2) := by decide +kernel
theorem dXB_copyEnds_5 : decode cXB_copyEnds 5 = .ok (.bipush 8, 2) := by decide +kernel
theorem dXB_copyEnds_7 : decode cXB_copyEnds 7 = .ok (.if_icmp .ge 28, 3) := by decide +kernel
theorem dXB_copyEnds_10 : decode cXB_copyEnds 10 = .ok (.iload 4, 2) := by decide +kernel
theorem dXB_copyEnds_12 : decode cXB_copyEnds 12 = .ok (.aload_n 3, 1) := by decide +kernel
theorem dXB_copyEnds_13 : decode cXB_copyEnds 13 = .ok (.arraylength, 1) := by decide +kernel
theorem dXB_copyEnds_14 : decode cXB_copyEnds 14 = .ok (.if_icmp .ge 21, 3) := by decide +kernel
theorem dXB_copyEnds_17 : decode cXB_copyEnds 17 = .ok (.aload_n 3, 1) := by decide +kernel
theorem dXB_copyEnds_18 : decode cXB_copyEnds 18 = .ok (.iload 4, 2) := by decide +kernel
theorem dXB_copyEnds_20 : decode cXB_copyEnds 20 = .ok (.aload_n 0, 1) := by decide +kernel
theorem dXB_copyEnds_21 : decode cXB_copyEnds 21 = .ok (.iload_n 1, 1) := by decide +kernel
theorem dXB_copyEnds_22 : decode cXB_copyEnds 22 = .ok (.iload 4, 2) := by decide +kernel
theorem dXB_copyEnds_24 : decode cXB_copyEnds 24 = .ok (.iload_n 2, 1) := by decide +kernel
theorem dXB_copyEnds_25 : decode cXB_copyEnds 25 = .ok (.invokevirtual 70, 3) := by decide +kernel
theorem dXB_copyEnds_28 : decode cXB_copyEnds 28 = .ok (.iastore, 1) := by decide +kernel
theorem dXB_copyEnds_29 : decode cXB_copyEnds 29 = .ok (.iinc 4 1, 3) := by decide +kernel
theorem dXB_copyEnds_32 : decode cXB_copyEnds 32 = .ok (.goto (-29), 3) := by decide +kernel
theorem dXB_copyEnds_35 : decode cXB_copyEnds 35 = .ok (.return_, 1) := by decide +kernel
theorem dXB_scaledSum_0 : decode cXB_scaledSum 0 = .ok (.lconst 0, 1) := by decide +kernel
theorem dXB_scaledSum_1 : decode cXB_scaledSum 1 = .ok (.lstore_n 3, 1) := by decide +kernel
theorem dXB_scaledSum_2 : decode cXB_scaledSum 2 = .ok (.iconst 0, 1) := by decide +kernel
theorem dXB_scaledSum_3 : decode cXB_scaledSum 3 = .ok (.istore 5, 2) := by decide +kernel
theorem dXB_scaledSum_5 : decode cXB_scaledSum 5 = .ok (.iload 5, 2) := by decide +kernel
theorem dXB_scaledSum_7 : decode cXB_scaledSum 7 = .ok (.bipush 8, 2) := by decide +kernel
theorem dXB_scaledSum_9 : decode cXB_scaledSum 9 = .ok (.if_icmp .ge 46, 3) := by decide +kernel
theorem dXB_scaledSum_12 : decode cXB_scaledSum 12 = .ok (.iload 5, 2) := by decide +kernel
theorem dXB_scaledSum_14 : decode cXB_scaledSum 14 = .ok (.aload_n 2, 1) := by decide +kernel
theorem dXB_scaledSum_15 : decode cXB_scaledSum 15 = .ok (.arraylength, 1) := by decide +kernel
theorem dXB_scaledSum_16 : decode cXB_scaledSum 16 = .ok (.if_icmp .ge 39, 3) := by decide +kernel
theorem dXB_scaledSum_19 : decode cXB_scaledSum 19 = .ok (.aload_n 0, 1) := by decide +kernel
theorem dXB_scaledSum_20 : decode cXB_scaledSum 20 = .ok (.iload_n 1, 1) := by decide +kernel
theorem dXB_scaledSum_21 : decode cXB_scaledSum 21 = .ok (.iload 5, 2) := by decide +kernel
theorem dXB_scaledSum_23 : decode cXB_scaledSum 23 = .ok (.invokevirtual 74, 3) := by decide +kernel
theorem dXB_scaledSum_26 : decode cXB_scaledSum 26 = .ok (.istore 6, 2) := by decide +kernel
theorem dXB_scaledSum_28 : decode cXB_scaledSum 28 = .ok (.iload 6, 2) := by decide +kernel
theorem dXB_scaledSum_30 : decode cXB_scaledSum 30 = .ok (.ifCond .le 19, 3) := by decide +kernel
theorem dXB_scaledSum_33 : decode cXB_scaledSum 33 = .ok (.lload_n 3, 1) := by decide +kernel
theorem dXB_scaledSum_34 : decode cXB_scaledSum 34 = .ok (.aload_n 2, 1) := by decide +kernel

