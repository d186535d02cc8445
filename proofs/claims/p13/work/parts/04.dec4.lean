theorem dXM_grade_151 : decode cXM_grade 151 = .ok (.aload_n 0, 1) := by decide +kernel
theorem dXM_grade_152 : decode cXM_grade 152 = .ok (.getfield 32, 3) := by decide +kernel
theorem dXM_grade_155 : decode cXM_grade 155 = .ok (.iconst 4, 1) := by decide +kernel
theorem dXM_grade_156 : decode cXM_grade 156 = .ok (.iload_n 1, 1) := by decide +kernel
theorem dXM_grade_157 : decode cXM_grade 157 = .ok (.imul, 1) := by decide +kernel
theorem dXM_grade_158 : decode cXM_grade 158 = .ok (.iload_n 3, 1) := by decide +kernel
theorem dXM_grade_159 : decode cXM_grade 159 = .ok (.iadd, 1) := by decide +kernel
theorem dXM_grade_160 : decode cXM_grade 160 = .ok (.aload_n 0, 1) := by decide +kernel
theorem dXM_grade_161 : decode cXM_grade 161 = .ok (.iconst 0, 1) := by decide +kernel
theorem dXM_grade_162 : decode cXM_grade 162 = .ok (.ldc 105, 2) := by decide +kernel
theorem dXM_grade_164 : decode cXM_grade 164 = .ok (.invokevirtual 83, 3) := by decide +kernel
theorem dXM_grade_167 : decode cXM_grade 167 = .ok (.iastore, 1) := by decide +kernel
theorem dXM_grade_168 : decode cXM_grade 168 = .ok (.goto (-71), 3) := by decide +kernel
theorem dXM_grade_171 : decode cXM_grade 171 = .ok (.aload_n 0, 1) := by decide +kernel
theorem dXM_grade_172 : decode cXM_grade 172 = .ok (.bipush 59, 2) := by decide +kernel
theorem dXM_grade_174 : decode cXM_grade 174 = .ok (.invokevirtual 87, 3) := by decide +kernel
theorem dXM_grade_177 : decode cXM_grade 177 = .ok (.aload_n 0, 1) := by decide +kernel
theorem dXM_grade_178 : decode cXM_grade 178 = .ok (.getfield 69, 3) := by decide +kernel
theorem dXM_grade_181 : decode cXM_grade 181 = .ok (.ifCond .ge 10, 3) := by decide +kernel
theorem dXM_grade_184 : decode cXM_grade 184 = .ok (.aload_n 0, 1) := by decide +kernel
theorem dXM_grade_185 : decode cXM_grade 185 = .ok (.getfield 13, 3) := by decide +kernel
theorem dXM_grade_188 : decode cXM_grade 188 = .ok (.iload_n 1, 1) := by decide +kernel
theorem dXM_grade_189 : decode cXM_grade 189 = .ok (.iconst 1, 1) := by decide +kernel
theorem dXM_grade_190 : decode cXM_grade 190 = .ok (.bastore, 1) := by decide +kernel
theorem dXM_grade_191 : decode cXM_grade 191 = .ok (.return_, 1) := by decide +kernel
theorem dXM_spans_0 : decode cXM_spans 0 = .ok (.iconst 0, 1) := by decide +kernel
theorem dXM_spans_1 : decode cXM_spans 1 = .ok (.istore_n 2, 1) := by decide +kernel
theorem dXM_spans_2 : decode cXM_spans 2 = .ok (.aload_n 0, 1) := by decide +kernel
theorem dXM_spans_3 : decode cXM_spans 3 = .ok (.iload_n 2, 1) := by decide +kernel
theorem dXM_spans_4 : decode cXM_spans 4 = .ok (.invokevirtual 90, 3) := by decide +kernel
theorem dXM_spans_7 : decode cXM_spans 7 = .ok (.istore_n 3, 1) := by decide +kernel
theorem dXM_spans_8 : decode cXM_spans 8 = .ok (.iload_n 3, 1) := by decide +kernel
theorem dXM_spans_9 : decode cXM_spans 9 = .ok (.ifCond .lt 81, 3) := by decide +kernel
theorem dXM_spans_12 : decode cXM_spans 12 = .ok (.aload_n 0, 1) := by decide +kernel
theorem dXM_spans_13 : decode cXM_spans 13 = .ok (.getfield 69, 3) := by decide +kernel
theorem dXM_spans_16 : decode cXM_spans 16 = .ok (.ifCond .ge 74, 3) := by decide +kernel
theorem dXM_spans_19 : decode cXM_spans 19 = .ok (.iload_n 2, 1) := by decide +kernel
theorem dXM_spans_20 : decode cXM_spans 20 = .ok (.iconst 1, 1) := by decide +kernel
theorem dXM_spans_21 : decode cXM_spans 21 = .ok (.iload_n 3, 1) := by decide +kernel
theorem dXM_spans_22 : decode cXM_spans 22 = .ok (.ishl, 1) := by decide +kernel
theorem dXM_spans_23 : decode cXM_spans 23 = .ok (.ior, 1) := by decide +kernel
theorem dXM_spans_24 : decode cXM_spans 24 = .ok (.istore_n 2, 1) := by decide +kernel
theorem dXM_spans_25 : decode cXM_spans 25 = .ok (.bipush 8, 2) := by decide +kernel
theorem dXM_spans_27 : decode cXM_spans 27 = .ok (.iload_n 1, 1) := by decide +kernel
theorem dXM_spans_28 : decode cXM_spans 28 = .ok (.imul, 1) := by decide +kernel
theorem dXM_spans_29 : decode cXM_spans 29 = .ok (.iload_n 3, 1) := by decide +kernel
theorem dXM_spans_30 : decode cXM_spans 30 = .ok (.iadd, 1) := by decide +kernel
theorem dXM_spans_31 : decode cXM_spans 31 = .ok (.istore 4, 2) := by decide +kernel
theorem dXM_spans_33 : decode cXM_spans 33 = .ok (.aload_n 0, 1) := by decide +kernel
theorem dXM_spans_34 : decode cXM_spans 34 = .ok (.getfield 20, 3) := by decide +kernel
theorem dXM_spans_37 : decode cXM_spans 37 = .ok (.iload 4, 2) := by decide +kernel
theorem dXM_spans_39 : decode cXM_spans 39 = .ok (.iconst 1, 1) := by decide +kernel
theorem dXM_spans_40 : decode cXM_spans 40 = .ok (.bastore, 1) := by decide +kernel
theorem dXM_spans_41 : decode cXM_spans 41 = .ok (.aload_n 0, 1) := by decide +kernel
theorem dXM_spans_42 : decode cXM_spans 42 = .ok (.getfield 23, 3) := by decide +kernel
theorem dXM_spans_45 : decode cXM_spans 45 = .ok (.iload 4, 2) := by decide +kernel
theorem dXM_spans_47 : decode cXM_spans 47 = .ok (.aload_n 0, 1) := by decide +kernel
theorem dXM_spans_48 : decode cXM_spans 48 = .ok (.iconst 0, 1) := by decide +kernel
theorem dXM_spans_49 : decode cXM_spans 49 = .ok (.ldc 98, 2) := by decide +kernel
theorem dXM_spans_51 : decode cXM_spans 51 = .ok (.invokevirtual 83, 3) := by decide +kernel
theorem dXM_spans_54 : decode cXM_spans 54 = .ok (.iastore, 1) := by decide +kernel
theorem dXM_spans_55 : decode cXM_spans 55 = .ok (.aload_n 0, 1) := by decide +kernel
theorem dXM_spans_56 : decode cXM_spans 56 = .ok (.bipush 45, 2) := by decide +kernel
theorem dXM_spans_58 : decode cXM_spans 58 = .ok (.invokevirtual 87, 3) := by decide +kernel
theorem dXM_spans_61 : decode cXM_spans 61 = .ok (.aload_n 0, 1) := by decide +kernel
theorem dXM_spans_62 : decode cXM_spans 62 = .ok (.getfield 26, 3) := by decide +kernel
theorem dXM_spans_65 : decode cXM_spans 65 = .ok (.iload 4, 2) := by decide +kernel
theorem dXM_spans_67 : decode cXM_spans 67 = .ok (.aload_n 0, 1) := by decide +kernel
theorem dXM_spans_68 : decode cXM_spans 68 = .ok (.aload_n 0, 1) := by decide +kernel
theorem dXM_spans_69 : decode cXM_spans 69 = .ok (.getfield 23, 3) := by decide +kernel
theorem dXM_spans_72 : decode cXM_spans 72 = .ok (.iload 4, 2) := by decide +kernel
theorem dXM_spans_74 : decode cXM_spans 74 = .ok (.iaload, 1) := by decide +kernel
theorem dXM_spans_75 : decode cXM_spans 75 = .ok (.ldc 98, 2) := by decide +kernel
theorem dXM_spans_77 : decode cXM_spans 77 = .ok (.invokevirtual 83, 3) := by decide +kernel
theorem dXM_spans_80 : decode cXM_spans 80 = .ok (.iastore, 1) := by decide +kernel
theorem dXM_spans_81 : decode cXM_spans 81 = .ok (.aload_n 0, 1) := by decide +kernel
theorem dXM_spans_82 : decode cXM_spans 82 = .ok (.iload_n 2, 1) := by decide +kernel
theorem dXM_spans_83 : decode cXM_spans 83 = .ok (.invokevirtual 90, 3) := by decide +kernel
theorem dXM_spans_86 : decode cXM_spans 86 = .ok (.istore_n 3, 1) := by decide +kernel
theorem dXM_spans_87 : decode cXM_spans 87 = .ok (.goto (-79), 3) := by decide +kernel
theorem dXM_spans_90 : decode cXM_spans 90 = .ok (.return_, 1) := by decide +kernel
theorem dXM_routeRow_0 : decode cXM_routeRow 0 = .ok (.iconst 0, 1) := by decide +kernel
theorem dXM_routeRow_1 : decode cXM_routeRow 1 = .ok (.istore_n 1, 1) := by decide +kernel
theorem dXM_routeRow_2 : decode cXM_routeRow 2 = .ok (.iconst (-1), 1) := by decide +kernel
theorem dXM_routeRow_3 : decode cXM_routeRow 3 = .ok (.istore_n 2, 1) := by decide +kernel
theorem dXM_routeRow_4 : decode cXM_routeRow 4 = .ok (.iconst 0, 1) := by decide +kernel
theorem dXM_routeRow_5 : decode cXM_routeRow 5 = .ok (.istore_n 3, 1) := by decide +kernel
theorem dXM_routeRow_6 : decode cXM_routeRow 6 = .ok (.iconst 1, 1) := by decide +kernel
theorem dXM_routeRow_7 : decode cXM_routeRow 7 = .ok (.istore 4, 2) := by decide +kernel
theorem dXM_routeRow_9 : decode cXM_routeRow 9 = .ok (.iload 4, 2) := by decide +kernel
theorem dXM_routeRow_11 : decode cXM_routeRow 11 = .ok (.ifCond .eq 100, 3) := by decide +kernel
theorem dXM_routeRow_14 : decode cXM_routeRow 14 = .ok (.aload_n 0, 1) := by decide +kernel
theorem dXM_routeRow_15 : decode cXM_routeRow 15 = .ok (.getfield 69, 3) := by decide +kernel
theorem dXM_routeRow_18 : decode cXM_routeRow 18 = .ok (.ifCond .ge 93, 3) := by decide +kernel
theorem dXM_routeRow_21 : decode cXM_routeRow 21 = .ok (.aload_n 0, 1) := by decide +kernel
theorem dXM_routeRow_22 : decode cXM_routeRow 22 = .ok (.invokevirtual 72, 3) := by decide +kernel
theorem dXM_routeRow_25 : decode cXM_routeRow 25 = .ok (.pop, 1) := by decide +kernel
theorem dXM_routeRow_26 : decode cXM_routeRow 26 = .ok (.aload_n 0, 1) := by decide +kernel
theorem dXM_routeRow_27 : decode cXM_routeRow 27 = .ok (.invokevirtual 65, 3) := by decide +kernel
theorem dXM_routeRow_30 : decode cXM_routeRow 30 = .ok (.bipush 48, 2) := by decide +kernel
theorem dXM_routeRow_32 : decode cXM_routeRow 32 = .ok (.isub, 1) := by decide +kernel
theorem dXM_routeRow_33 : decode cXM_routeRow 33 = .ok (.istore 5, 2) := by decide +kernel
theorem dXM_routeRow_35 : decode cXM_routeRow 35 = .ok (.iload 5, 2) := by decide +kernel
theorem dXM_routeRow_37 : decode cXM_routeRow 37 = .ok (.iconst 0, 1) := by decide +kernel
theorem dXM_routeRow_38 : decode cXM_routeRow 38 = .ok (.bipush 7, 2) := by decide +kernel
theorem dXM_routeRow_40 : decode cXM_routeRow 40 = .ok (.invokestatic 51, 3) := by decide +kernel
theorem dXM_routeRow_43 : decode cXM_routeRow 43 = .ok (.ifCond .eq 14, 3) := by decide +kernel
theorem dXM_routeRow_46 : decode cXM_routeRow 46 = .ok (.iload 5, 2) := by decide +kernel
theorem dXM_routeRow_48 : decode cXM_routeRow 48 = .ok (.iload_n 2, 1) := by decide +kernel
theorem dXM_routeRow_49 : decode cXM_routeRow 49 = .ok (.if_icmp .le 8, 3) := by decide +kernel
theorem dXM_routeRow_52 : decode cXM_routeRow 52 = .ok (.iload_n 3, 1) := by decide +kernel
theorem dXM_routeRow_53 : decode cXM_routeRow 53 = .ok (.iconst 4, 1) := by decide +kernel
theorem dXM_routeRow_54 : decode cXM_routeRow 54 = .ok (.if_icmp .ne 11, 3) := by decide +kernel
theorem dXM_routeRow_57 : decode cXM_routeRow 57 = .ok (.aload_n 0, 1) := by decide +kernel
theorem dXM_routeRow_58 : decode cXM_routeRow 58 = .ok (.aload_n 0, 1) := by decide +kernel
theorem dXM_routeRow_59 : decode cXM_routeRow 59 = .ok (.getfield 62, 3) := by decide +kernel
theorem dXM_routeRow_62 : decode cXM_routeRow 62 = .ok (.invokevirtual 75, 3) := by decide +kernel
theorem dXM_routeRow_65 : decode cXM_routeRow 65 = .ok (.aload_n 0, 1) := by decide +kernel
theorem dXM_routeRow_66 : decode cXM_routeRow 66 = .ok (.getfield 69, 3) := by decide +kernel
theorem dXM_routeRow_69 : decode cXM_routeRow 69 = .ok (.ifCond .lt 5, 3) := by decide +kernel
theorem dXM_routeRow_72 : decode cXM_routeRow 72 = .ok (.iload_n 1, 1) := by decide +kernel
theorem dXM_routeRow_73 : decode cXM_routeRow 73 = .ok (.ireturn, 1) := by decide +kernel
theorem dXM_routeRow_74 : decode cXM_routeRow 74 = .ok (.iload_n 1, 1) := by decide +kernel
theorem dXM_routeRow_75 : decode cXM_routeRow 75 = .ok (.iconst 1, 1) := by decide +kernel
theorem dXM_routeRow_76 : decode cXM_routeRow 76 = .ok (.iload 5, 2) := by decide +kernel
theorem dXM_routeRow_78 : decode cXM_routeRow 78 = .ok (.ishl, 1) := by decide +kernel
theorem dXM_routeRow_79 : decode cXM_routeRow 79 = .ok (.ior, 1) := by decide +kernel
theorem dXM_routeRow_80 : decode cXM_routeRow 80 = .ok (.istore_n 1, 1) := by decide +kernel
theorem dXM_routeRow_81 : decode cXM_routeRow 81 = .ok (.iload 5, 2) := by decide +kernel
theorem dXM_routeRow_83 : decode cXM_routeRow 83 = .ok (.istore_n 2, 1) := by decide +kernel
theorem dXM_routeRow_84 : decode cXM_routeRow 84 = .ok (.iinc 3 1, 3) := by decide +kernel
theorem dXM_routeRow_87 : decode cXM_routeRow 87 = .ok (.aload_n 0, 1) := by decide +kernel
theorem dXM_routeRow_88 : decode cXM_routeRow 88 = .ok (.dup, 1) := by decide +kernel
theorem dXM_routeRow_89 : decode cXM_routeRow 89 = .ok (.getfield 62, 3) := by decide +kernel
theorem dXM_routeRow_92 : decode cXM_routeRow 92 = .ok (.iconst 1, 1) := by decide +kernel
theorem dXM_routeRow_93 : decode cXM_routeRow 93 = .ok (.iadd, 1) := by decide +kernel
theorem dXM_routeRow_94 : decode cXM_routeRow 94 = .ok (.putfield 62, 3) := by decide +kernel
theorem dXM_routeRow_97 : decode cXM_routeRow 97 = .ok (.aload_n 0, 1) := by decide +kernel
theorem dXM_routeRow_98 : decode cXM_routeRow 98 = .ok (.invokevirtual 72, 3) := by decide +kernel
theorem dXM_routeRow_101 : decode cXM_routeRow 101 = .ok (.pop, 1) := by decide +kernel
theorem dXM_routeRow_102 : decode cXM_routeRow 102 = .ok (.aload_n 0, 1) := by decide +kernel
theorem dXM_routeRow_103 : decode cXM_routeRow 103 = .ok (.invokevirtual 79, 3) := by decide +kernel
theorem dXM_routeRow_106 : decode cXM_routeRow 106 = .ok (.istore 4, 2) := by decide +kernel
theorem dXM_routeRow_108 : decode cXM_routeRow 108 = .ok (.goto (-99), 3) := by decide +kernel
theorem dXM_routeRow_111 : decode cXM_routeRow 111 = .ok (.iload_n 1, 1) := by decide +kernel
theorem dXM_routeRow_112 : decode cXM_routeRow 112 = .ok (.ireturn, 1) := by decide +kernel
theorem dXM_copy_0 : decode cXM_copy 0 = .ok (.iconst 0, 1) := by decide +kernel
theorem dXM_copy_1 : decode cXM_copy 1 = .ok (.istore_n 1, 1) := by decide +kernel
theorem dXM_copy_2 : decode cXM_copy 2 = .ok (.iload_n 1, 1) := by decide +kernel
theorem dXM_copy_3 : decode cXM_copy 3 = .ok (.bipush 31, 2) := by decide +kernel
theorem dXM_copy_5 : decode cXM_copy 5 = .ok (.if_icmp .ge 54, 3) := by decide +kernel
theorem dXM_copy_8 : decode cXM_copy 8 = .ok (.aload_n 0, 1) := by decide +kernel
theorem dXM_copy_9 : decode cXM_copy 9 = .ok (.getfield 13, 3) := by decide +kernel
theorem dXM_copy_12 : decode cXM_copy 12 = .ok (.iload_n 1, 1) := by decide +kernel
theorem dXM_copy_13 : decode cXM_copy 13 = .ok (.aload_n 0, 1) := by decide +kernel
theorem dXM_copy_14 : decode cXM_copy 14 = .ok (.getfield 13, 3) := by decide +kernel
theorem dXM_copy_17 : decode cXM_copy 17 = .ok (.bipush 31, 2) := by decide +kernel
theorem dXM_copy_19 : decode cXM_copy 19 = .ok (.iload_n 1, 1) := by decide +kernel
theorem dXM_copy_20 : decode cXM_copy 20 = .ok (.iadd, 1) := by decide +kernel
theorem dXM_copy_21 : decode cXM_copy 21 = .ok (.baload, 1) := by decide +kernel
theorem dXM_copy_22 : decode cXM_copy 22 = .ok (.bastore, 1) := by decide +kernel
theorem dXM_copy_23 : decode cXM_copy 23 = .ok (.aload_n 0, 1) := by decide +kernel
theorem dXM_copy_24 : decode cXM_copy 24 = .ok (.getfield 17, 3) := by decide +kernel
theorem dXM_copy_27 : decode cXM_copy 27 = .ok (.iload_n 1, 1) := by decide +kernel
theorem dXM_copy_28 : decode cXM_copy 28 = .ok (.aload_n 0, 1) := by decide +kernel
theorem dXM_copy_29 : decode cXM_copy 29 = .ok (.getfield 17, 3) := by decide +kernel
theorem dXM_copy_32 : decode cXM_copy 32 = .ok (.bipush 31, 2) := by decide +kernel
theorem dXM_copy_34 : decode cXM_copy 34 = .ok (.iload_n 1, 1) := by decide +kernel
theorem dXM_copy_35 : decode cXM_copy 35 = .ok (.iadd, 1) := by decide +kernel
theorem dXM_copy_36 : decode cXM_copy 36 = .ok (.iaload, 1) := by decide +kernel
theorem dXM_copy_37 : decode cXM_copy 37 = .ok (.iastore, 1) := by decide +kernel
theorem dXM_copy_38 : decode cXM_copy 38 = .ok (.aload_n 0, 1) := by decide +kernel
theorem dXM_copy_39 : decode cXM_copy 39 = .ok (.getfield 29, 3) := by decide +kernel
theorem dXM_copy_42 : decode cXM_copy 42 = .ok (.iload_n 1, 1) := by decide +kernel
theorem dXM_copy_43 : decode cXM_copy 43 = .ok (.aload_n 0, 1) := by decide +kernel
theorem dXM_copy_44 : decode cXM_copy 44 = .ok (.getfield 29, 3) := by decide +kernel
theorem dXM_copy_47 : decode cXM_copy 47 = .ok (.bipush 31, 2) := by decide +kernel
theorem dXM_copy_49 : decode cXM_copy 49 = .ok (.iload_n 1, 1) := by decide +kernel
theorem dXM_copy_50 : decode cXM_copy 50 = .ok (.iadd, 1) := by decide +kernel
theorem dXM_copy_51 : decode cXM_copy 51 = .ok (.iaload, 1) := by decide +kernel
theorem dXM_copy_52 : decode cXM_copy 52 = .ok (.iastore, 1) := by decide +kernel
theorem dXM_copy_53 : decode cXM_copy 53 = .ok (.iinc 1 1, 3) := by decide +kernel
theorem dXM_copy_56 : decode cXM_copy 56 = .ok (.goto (-54), 3) := by decide +kernel
theorem dXM_copy_59 : decode cXM_copy 59 = .ok (.iconst 0, 1) := by decide +kernel
theorem dXM_copy_60 : decode cXM_copy 60 = .ok (.istore_n 1, 1) := by decide +kernel
theorem dXM_copy_61 : decode cXM_copy 61 = .ok (.iload_n 1, 1) := by decide +kernel
theorem dXM_copy_62 : decode cXM_copy 62 = .ok (.sipush 248, 3) := by decide +kernel
theorem dXM_copy_65 : decode cXM_copy 65 = .ok (.if_icmp .ge 57, 3) := by decide +kernel
theorem dXM_copy_68 : decode cXM_copy 68 = .ok (.aload_n 0, 1) := by decide +kernel
theorem dXM_copy_69 : decode cXM_copy 69 = .ok (.getfield 20, 3) := by decide +kernel
theorem dXM_copy_72 : decode cXM_copy 72 = .ok (.iload_n 1, 1) := by decide +kernel
theorem dXM_copy_73 : decode cXM_copy 73 = .ok (.aload_n 0, 1) := by decide +kernel
theorem dXM_copy_74 : decode cXM_copy 74 = .ok (.getfield 20, 3) := by decide +kernel
theorem dXM_copy_77 : decode cXM_copy 77 = .ok (.sipush 248, 3) := by decide +kernel
theorem dXM_copy_80 : decode cXM_copy 80 = .ok (.iload_n 1, 1) := by decide +kernel
theorem dXM_copy_81 : decode cXM_copy 81 = .ok (.iadd, 1) := by decide +kernel
theorem dXM_copy_82 : decode cXM_copy 82 = .ok (.baload, 1) := by decide +kernel
theorem dXM_copy_83 : decode cXM_copy 83 = .ok (.bastore, 1) := by decide +kernel
theorem dXM_copy_84 : decode cXM_copy 84 = .ok (.aload_n 0, 1) := by decide +kernel
theorem dXM_copy_85 : decode cXM_copy 85 = .ok (.getfield 23, 3) := by decide +kernel
theorem dXM_copy_88 : decode cXM_copy 88 = .ok (.iload_n 1, 1) := by decide +kernel
theorem dXM_copy_89 : decode cXM_copy 89 = .ok (.aload_n 0, 1) := by decide +kernel
theorem dXM_copy_90 : decode cXM_copy 90 = .ok (.getfield 23, 3) := by decide +kernel
theorem dXM_copy_93 : decode cXM_copy 93 = .ok (.sipush 248, 3) := by decide +kernel
theorem dXM_copy_96 : decode cXM_copy 96 = .ok (.iload_n 1, 1) := by decide +kernel
theorem dXM_copy_97 : decode cXM_copy 97 = .ok (.iadd, 1) := by decide +kernel
theorem dXM_copy_98 : decode cXM_copy 98 = .ok (.iaload, 1) := by decide +kernel
theorem dXM_copy_99 : decode cXM_copy 99 = .ok (.iastore, 1) := by decide +kernel
theorem dXM_copy_100 : decode cXM_copy 100 = .ok (.aload_n 0, 1) := by decide +kernel
theorem dXM_copy_101 : decode cXM_copy 101 = .ok (.getfield 26, 3) := by decide +kernel
theorem dXM_copy_104 : decode cXM_copy 104 = .ok (.iload_n 1, 1) := by decide +kernel
theorem dXM_copy_105 : decode cXM_copy 105 = .ok (.aload_n 0, 1) := by decide +kernel
theorem dXM_copy_106 : decode cXM_copy 106 = .ok (.getfield 26, 3) := by decide +kernel
theorem dXM_copy_109 : decode cXM_copy 109 = .ok (.sipush 248, 3) := by decide +kernel
theorem dXM_copy_112 : decode cXM_copy 112 = .ok (.iload_n 1, 1) := by decide +kernel
theorem dXM_copy_113 : decode cXM_copy 113 = .ok (.iadd, 1) := by decide +kernel
theorem dXM_copy_114 : decode cXM_copy 114 = .ok (.iaload, 1) := by decide +kernel
theorem dXM_copy_115 : decode cXM_copy 115 = .ok (.iastore, 1) := by decide +kernel
theorem dXM_copy_116 : decode cXM_copy 116 = .ok (.iinc 1 1, 3) := by decide +kernel
theorem dXM_copy_119 : decode cXM_copy 119 = .ok (.goto (-58), 3) := by decide +kernel
theorem dXM_copy_122 : decode cXM_copy 122 = .ok (.iconst 0, 1) := by decide +kernel
theorem dXM_copy_123 : decode cXM_copy 123 = .ok (.istore_n 1, 1) := by decide +kernel
theorem dXM_copy_124 : decode cXM_copy 124 = .ok (.iload_n 1, 1) := by decide +kernel
theorem dXM_copy_125 : decode cXM_copy 125 = .ok (.bipush 124, 2) := by decide +kernel
theorem dXM_copy_127 : decode cXM_copy 127 = .ok (.if_icmp .ge 24, 3) := by decide +kernel
theorem dXM_copy_130 : decode cXM_copy 130 = .ok (.aload_n 0, 1) := by decide +kernel
theorem dXM_copy_131 : decode cXM_copy 131 = .ok (.getfield 32, 3) := by decide +kernel
theorem dXM_copy_134 : decode cXM_copy 134 = .ok (.iload_n 1, 1) := by decide +kernel
theorem dXM_copy_135 : decode cXM_copy 135 = .ok (.aload_n 0, 1) := by decide +kernel
theorem dXM_copy_136 : decode cXM_copy 136 = .ok (.getfield 32, 3) := by decide +kernel
theorem dXM_copy_139 : decode cXM_copy 139 = .ok (.bipush 124, 2) := by decide +kernel
theorem dXM_copy_141 : decode cXM_copy 141 = .ok (.iload_n 1, 1) := by decide +kernel
theorem dXM_copy_142 : decode cXM_copy 142 = .ok (.iadd, 1) := by decide +kernel
theorem dXM_copy_143 : decode cXM_copy 143 = .ok (.iaload, 1) := by decide +kernel
theorem dXM_copy_144 : decode cXM_copy 144 = .ok (.iastore, 1) := by decide +kernel
theorem dXM_copy_145 : decode cXM_copy 145 = .ok (.iinc 1 1, 3) := by decide +kernel
theorem dXM_copy_148 : decode cXM_copy 148 = .ok (.goto (-24), 3) := by decide +kernel
theorem dXM_copy_151 : decode cXM_copy 151 = .ok (.iconst 0, 1) := by decide +kernel
theorem dXM_copy_152 : decode cXM_copy 152 = .ok (.istore_n 1, 1) := by decide +kernel
theorem dXM_copy_153 : decode cXM_copy 153 = .ok (.iload_n 1, 1) := by decide +kernel
theorem dXM_copy_154 : decode cXM_copy 154 = .ok (.iconst 4, 1) := by decide +kernel
theorem dXM_copy_155 : decode cXM_copy 155 = .ok (.if_icmp .ge 23, 3) := by decide +kernel
theorem dXM_copy_158 : decode cXM_copy 158 = .ok (.aload_n 0, 1) := by decide +kernel
theorem dXM_copy_159 : decode cXM_copy 159 = .ok (.getfield 35, 3) := by decide +kernel
theorem dXM_copy_162 : decode cXM_copy 162 = .ok (.iload_n 1, 1) := by decide +kernel
theorem dXM_copy_163 : decode cXM_copy 163 = .ok (.aload_n 0, 1) := by decide +kernel
theorem dXM_copy_164 : decode cXM_copy 164 = .ok (.getfield 35, 3) := by decide +kernel
theorem dXM_copy_167 : decode cXM_copy 167 = .ok (.iconst 4, 1) := by decide +kernel
theorem dXM_copy_168 : decode cXM_copy 168 = .ok (.iload_n 1, 1) := by decide +kernel
theorem dXM_copy_169 : decode cXM_copy 169 = .ok (.iadd, 1) := by decide +kernel
theorem dXM_copy_170 : decode cXM_copy 170 = .ok (.baload, 1) := by decide +kernel
theorem dXM_copy_171 : decode cXM_copy 171 = .ok (.bastore, 1) := by decide +kernel
theorem dXM_copy_172 : decode cXM_copy 172 = .ok (.iinc 1 1, 3) := by decide +kernel
theorem dXM_copy_175 : decode cXM_copy 175 = .ok (.goto (-22), 3) := by decide +kernel
theorem dXM_copy_178 : decode cXM_copy 178 = .ok (.iconst 0, 1) := by decide +kernel
theorem dXM_copy_179 : decode cXM_copy 179 = .ok (.istore_n 1, 1) := by decide +kernel
theorem dXM_copy_180 : decode cXM_copy 180 = .ok (.iload_n 1, 1) := by decide +kernel
theorem dXM_copy_181 : decode cXM_copy 181 = .ok (.bipush 32, 2) := by decide +kernel
theorem dXM_copy_183 : decode cXM_copy 183 = .ok (.if_icmp .ge 24, 3) := by decide +kernel
theorem dXM_copy_186 : decode cXM_copy 186 = .ok (.aload_n 0, 1) := by decide +kernel
theorem dXM_copy_187 : decode cXM_copy 187 = .ok (.getfield 38, 3) := by decide +kernel
theorem dXM_copy_190 : decode cXM_copy 190 = .ok (.iload_n 1, 1) := by decide +kernel
theorem dXM_copy_191 : decode cXM_copy 191 = .ok (.aload_n 0, 1) := by decide +kernel
theorem dXM_copy_192 : decode cXM_copy 192 = .ok (.getfield 38, 3) := by decide +kernel
theorem dXM_copy_195 : decode cXM_copy 195 = .ok (.bipush 32, 2) := by decide +kernel
theorem dXM_copy_197 : decode cXM_copy 197 = .ok (.iload_n 1, 1) := by decide +kernel
theorem dXM_copy_198 : decode cXM_copy 198 = .ok (.iadd, 1) := by decide +kernel
theorem dXM_copy_199 : decode cXM_copy 199 = .ok (.iaload, 1) := by decide +kernel
theorem dXM_copy_200 : decode cXM_copy 200 = .ok (.iastore, 1) := by decide +kernel
theorem dXM_copy_201 : decode cXM_copy 201 = .ok (.iinc 1 1, 3) := by decide +kernel
theorem dXM_copy_204 : decode cXM_copy 204 = .ok (.goto (-24), 3) := by decide +kernel
theorem dXM_copy_207 : decode cXM_copy 207 = .ok (.return_, 1) := by decide +kernel
theorem dXM_span_0 : decode cXM_span 0 = .ok (.aload_n 0, 1) := by decide +kernel
theorem dXM_span_1 : decode cXM_span 1 = .ok (.aload_n 0, 1) := by decide +kernel
theorem dXM_span_2 : decode cXM_span 2 = .ok (.iload_n 1, 1) := by decide +kernel
theorem dXM_span_3 : decode cXM_span 3 = .ok (.invokevirtual 118, 3) := by decide +kernel
theorem dXM_span_6 : decode cXM_span 6 = .ok (.ifCond .eq 23, 3) := by decide +kernel
theorem dXM_span_9 : decode cXM_span 9 = .ok (.iload_n 2, 1) := by decide +kernel
theorem dXM_span_10 : decode cXM_span 10 = .ok (.invokestatic 127, 3) := by decide +kernel
theorem dXM_span_13 : decode cXM_span 13 = .ok (.ifCond .eq 16, 3) := by decide +kernel
theorem dXM_span_16 : decode cXM_span 16 = .ok (.iload_n 3, 1) := by decide +kernel
theorem dXM_span_17 : decode cXM_span 17 = .ok (.iconst 0, 1) := by decide +kernel
theorem dXM_span_18 : decode cXM_span 18 = .ok (.iconst 1, 1) := by decide +kernel
theorem dXM_span_19 : decode cXM_span 19 = .ok (.invokestatic 51, 3) := by decide +kernel
theorem dXM_span_22 : decode cXM_span 22 = .ok (.ifCond .eq 7, 3) := by decide +kernel
theorem dXM_span_25 : decode cXM_span 25 = .ok (.iconst 1, 1) := by decide +kernel
theorem dXM_span_26 : decode cXM_span 26 = .ok (.goto 4, 3) := by decide +kernel
theorem dXM_span_29 : decode cXM_span 29 = .ok (.iconst 0, 1) := by decide +kernel
theorem dXM_span_30 : decode cXM_span 30 = .ok (.iconst 1, 1) := by decide +kernel
theorem dXM_span_31 : decode cXM_span 31 = .ok (.invokevirtual 58, 3) := by decide +kernel
theorem dXM_span_34 : decode cXM_span 34 = .ok (.ifCond .ne 5, 3) := by decide +kernel
theorem dXM_span_37 : decode cXM_span 37 = .ok (.iconst 0, 1) := by decide +kernel
theorem dXM_span_38 : decode cXM_span 38 = .ok (.ireturn, 1) := by decide +kernel
theorem dXM_span_39 : decode cXM_span 39 = .ok (.iload_n 3, 1) := by decide +kernel
theorem dXM_span_40 : decode cXM_span 40 = .ok (.ifCond .ne 12, 3) := by decide +kernel
theorem dXM_span_43 : decode cXM_span 43 = .ok (.aload_n 0, 1) := by decide +kernel
theorem dXM_span_44 : decode cXM_span 44 = .ok (.iload_n 1, 1) := by decide +kernel
theorem dXM_span_45 : decode cXM_span 45 = .ok (.iload_n 2, 1) := by decide +kernel
theorem dXM_span_46 : decode cXM_span 46 = .ok (.invokevirtual 130, 3) := by decide +kernel
theorem dXM_span_49 : decode cXM_span 49 = .ok (.goto 9, 3) := by decide +kernel
theorem dXM_span_52 : decode cXM_span 52 = .ok (.aload_n 0, 1) := by decide +kernel
theorem dXM_span_53 : decode cXM_span 53 = .ok (.iload_n 1, 1) := by decide +kernel
theorem dXM_span_54 : decode cXM_span 54 = .ok (.iload_n 2, 1) := by decide +kernel
theorem dXM_span_55 : decode cXM_span 55 = .ok (.invokevirtual 133, 3) := by decide +kernel
theorem dXM_span_58 : decode cXM_span 58 = .ok (.ireturn, 1) := by decide +kernel
theorem dXM_isTold_0 : decode cXM_isTold 0 = .ok (.iload_n 1, 1) := by decide +kernel
theorem dXM_isTold_1 : decode cXM_isTold 1 = .ok (.iconst 1, 1) := by decide +kernel
theorem dXM_isTold_2 : decode cXM_isTold 2 = .ok (.bipush 30, 2) := by decide +kernel
theorem dXM_isTold_4 : decode cXM_isTold 4 = .ok (.invokestatic 51, 3) := by decide +kernel
theorem dXM_isTold_7 : decode cXM_isTold 7 = .ok (.ifCond .eq 16, 3) := by decide +kernel
theorem dXM_isTold_10 : decode cXM_isTold 10 = .ok (.aload_n 0, 1) := by decide +kernel
theorem dXM_isTold_11 : decode cXM_isTold 11 = .ok (.getfield 13, 3) := by decide +kernel
theorem dXM_isTold_14 : decode cXM_isTold 14 = .ok (.iload_n 1, 1) := by decide +kernel
theorem dXM_isTold_15 : decode cXM_isTold 15 = .ok (.baload, 1) := by decide +kernel
theorem dXM_isTold_16 : decode cXM_isTold 16 = .ok (.ifCond .eq 7, 3) := by decide +kernel
theorem dXM_isTold_19 : decode cXM_isTold 19 = .ok (.iconst 1, 1) := by decide +kernel
theorem dXM_isTold_20 : decode cXM_isTold 20 = .ok (.goto 4, 3) := by decide +kernel
theorem dXM_isTold_23 : decode cXM_isTold 23 = .ok (.iconst 0, 1) := by decide +kernel
theorem dXM_isTold_24 : decode cXM_isTold 24 = .ok (.ireturn, 1) := by decide +kernel
theorem dXM_isElement_0 : decode cXM_isElement 0 = .ok (.iload_n 0, 1) := by decide +kernel
theorem dXM_isElement_1 : decode cXM_isElement 1 = .ok (.iconst 0, 1) := by decide +kernel
theorem dXM_isElement_2 : decode cXM_isElement 2 = .ok (.bipush 7, 2) := by decide +kernel
theorem dXM_isElement_4 : decode cXM_isElement 4 = .ok (.invokestatic 51, 3) := by decide +kernel
theorem dXM_isElement_7 : decode cXM_isElement 7 = .ok (.ireturn, 1) := by decide +kernel
theorem dXM_lowOf_0 : decode cXM_lowOf 0 = .ok (.iload_n 1, 1) := by decide +kernel
theorem dXM_lowOf_1 : decode cXM_lowOf 1 = .ok (.istore_n 3, 1) := by decide +kernel
theorem dXM_lowOf_2 : decode cXM_lowOf 2 = .ok (.iload_n 3, 1) := by decide +kernel
theorem dXM_lowOf_3 : decode cXM_lowOf 3 = .ok (.ifCond .le 38, 3) := by decide +kernel
theorem dXM_lowOf_6 : decode cXM_lowOf 6 = .ok (.aload_n 0, 1) := by decide +kernel
theorem dXM_lowOf_7 : decode cXM_lowOf 7 = .ok (.getfield 20, 3) := by decide +kernel
theorem dXM_lowOf_10 : decode cXM_lowOf 10 = .ok (.bipush 8, 2) := by decide +kernel
theorem dXM_lowOf_12 : decode cXM_lowOf 12 = .ok (.iload_n 3, 1) := by decide +kernel
theorem dXM_lowOf_13 : decode cXM_lowOf 13 = .ok (.imul, 1) := by decide +kernel
theorem dXM_lowOf_14 : decode cXM_lowOf 14 = .ok (.iload_n 2, 1) := by decide +kernel
theorem dXM_lowOf_15 : decode cXM_lowOf 15 = .ok (.iadd, 1) := by decide +kernel
theorem dXM_lowOf_16 : decode cXM_lowOf 16 = .ok (.baload, 1) := by decide +kernel
theorem dXM_lowOf_17 : decode cXM_lowOf 17 = .ok (.ifCond .eq 15, 3) := by decide +kernel
theorem dXM_lowOf_20 : decode cXM_lowOf 20 = .ok (.aload_n 0, 1) := by decide +kernel
theorem dXM_lowOf_21 : decode cXM_lowOf 21 = .ok (.getfield 23, 3) := by decide +kernel
theorem dXM_lowOf_24 : decode cXM_lowOf 24 = .ok (.bipush 8, 2) := by decide +kernel
theorem dXM_lowOf_26 : decode cXM_lowOf 26 = .ok (.iload_n 3, 1) := by decide +kernel
theorem dXM_lowOf_27 : decode cXM_lowOf 27 = .ok (.imul, 1) := by decide +kernel
theorem dXM_lowOf_28 : decode cXM_lowOf 28 = .ok (.iload_n 2, 1) := by decide +kernel
theorem dXM_lowOf_29 : decode cXM_lowOf 29 = .ok (.iadd, 1) := by decide +kernel
theorem dXM_lowOf_30 : decode cXM_lowOf 30 = .ok (.iaload, 1) := by decide +kernel
theorem dXM_lowOf_31 : decode cXM_lowOf 31 = .ok (.ireturn, 1) := by decide +kernel
theorem dXM_lowOf_32 : decode cXM_lowOf 32 = .ok (.aload_n 0, 1) := by decide +kernel
theorem dXM_lowOf_33 : decode cXM_lowOf 33 = .ok (.iload_n 3, 1) := by decide +kernel
theorem dXM_lowOf_34 : decode cXM_lowOf 34 = .ok (.invokevirtual 124, 3) := by decide +kernel
theorem dXM_lowOf_37 : decode cXM_lowOf 37 = .ok (.istore_n 3, 1) := by decide +kernel
theorem dXM_lowOf_38 : decode cXM_lowOf 38 = .ok (.goto (-36), 3) := by decide +kernel
theorem dXM_lowOf_41 : decode cXM_lowOf 41 = .ok (.iconst 0, 1) := by decide +kernel
theorem dXM_lowOf_42 : decode cXM_lowOf 42 = .ok (.ireturn, 1) := by decide +kernel
theorem dXM_from_0 : decode cXM_from 0 = .ok (.aload_n 0, 1) := by decide +kernel
theorem dXM_from_1 : decode cXM_from 1 = .ok (.iload_n 1, 1) := by decide +kernel
theorem dXM_from_2 : decode cXM_from 2 = .ok (.invokevirtual 121, 3) := by decide +kernel
theorem dXM_from_5 : decode cXM_from 5 = .ok (.ifCond .ne 16, 3) := by decide +kernel
theorem dXM_from_8 : decode cXM_from 8 = .ok (.aload_n 0, 1) := by decide +kernel
theorem dXM_from_9 : decode cXM_from 9 = .ok (.aload_n 0, 1) := by decide +kernel
theorem dXM_from_10 : decode cXM_from 10 = .ok (.getfield 17, 3) := by decide +kernel
theorem dXM_from_13 : decode cXM_from 13 = .ok (.iload_n 1, 1) := by decide +kernel
theorem dXM_from_14 : decode cXM_from 14 = .ok (.iaload, 1) := by decide +kernel
theorem dXM_from_15 : decode cXM_from 15 = .ok (.invokevirtual 118, 3) := by decide +kernel
theorem dXM_from_18 : decode cXM_from 18 = .ok (.ifCond .ne 7, 3) := by decide +kernel
theorem dXM_from_21 : decode cXM_from 21 = .ok (.iconst 0, 1) := by decide +kernel
theorem dXM_from_22 : decode cXM_from 22 = .ok (.goto 9, 3) := by decide +kernel
theorem dXM_from_25 : decode cXM_from 25 = .ok (.aload_n 0, 1) := by decide +kernel
theorem dXM_from_26 : decode cXM_from 26 = .ok (.getfield 17, 3) := by decide +kernel
theorem dXM_from_29 : decode cXM_from 29 = .ok (.iload_n 1, 1) := by decide +kernel
theorem dXM_from_30 : decode cXM_from 30 = .ok (.iaload, 1) := by decide +kernel
theorem dXM_from_31 : decode cXM_from 31 = .ok (.ireturn, 1) := by decide +kernel
theorem dXM_isRing_0 : decode cXM_isRing 0 = .ok (.iload_n 1, 1) := by decide +kernel
theorem dXM_isRing_1 : decode cXM_isRing 1 = .ok (.istore_n 2, 1) := by decide +kernel
theorem dXM_isRing_2 : decode cXM_isRing 2 = .ok (.iconst 0, 1) := by decide +kernel
theorem dXM_isRing_3 : decode cXM_isRing 3 = .ok (.istore_n 3, 1) := by decide +kernel
theorem dXM_isRing_4 : decode cXM_isRing 4 = .ok (.iload_n 3, 1) := by decide +kernel
theorem dXM_isRing_5 : decode cXM_isRing 5 = .ok (.bipush 31, 2) := by decide +kernel
theorem dXM_isRing_7 : decode cXM_isRing 7 = .ok (.if_icmp .ge 35, 3) := by decide +kernel
theorem dXM_isRing_10 : decode cXM_isRing 10 = .ok (.aload_n 0, 1) := by decide +kernel
theorem dXM_isRing_11 : decode cXM_isRing 11 = .ok (.iload_n 2, 1) := by decide +kernel
theorem dXM_isRing_12 : decode cXM_isRing 12 = .ok (.invokevirtual 118, 3) := by decide +kernel
theorem dXM_isRing_15 : decode cXM_isRing 15 = .ok (.ifCond .eq 12, 3) := by decide +kernel
theorem dXM_isRing_18 : decode cXM_isRing 18 = .ok (.aload_n 0, 1) := by decide +kernel
theorem dXM_isRing_19 : decode cXM_isRing 19 = .ok (.getfield 17, 3) := by decide +kernel
theorem dXM_isRing_22 : decode cXM_isRing 22 = .ok (.iload_n 2, 1) := by decide +kernel
theorem dXM_isRing_23 : decode cXM_isRing 23 = .ok (.iaload, 1) := by decide +kernel
theorem dXM_isRing_24 : decode cXM_isRing 24 = .ok (.goto 4, 3) := by decide +kernel
theorem dXM_isRing_27 : decode cXM_isRing 27 = .ok (.iconst 0, 1) := by decide +kernel
theorem dXM_isRing_28 : decode cXM_isRing 28 = .ok (.istore_n 2, 1) := by decide +kernel
theorem dXM_isRing_29 : decode cXM_isRing 29 = .ok (.iload_n 2, 1) := by decide +kernel
theorem dXM_isRing_30 : decode cXM_isRing 30 = .ok (.iload_n 1, 1) := by decide +kernel
theorem dXM_isRing_31 : decode cXM_isRing 31 = .ok (.if_icmp .ne 5, 3) := by decide +kernel
theorem dXM_isRing_34 : decode cXM_isRing 34 = .ok (.iconst 1, 1) := by decide +kernel
theorem dXM_isRing_35 : decode cXM_isRing 35 = .ok (.ireturn, 1) := by decide +kernel
theorem dXM_isRing_36 : decode cXM_isRing 36 = .ok (.iinc 3 1, 3) := by decide +kernel
theorem dXM_isRing_39 : decode cXM_isRing 39 = .ok (.goto (-35), 3) := by decide +kernel
theorem dXM_isRing_42 : decode cXM_isRing 42 = .ok (.iconst 0, 1) := by decide +kernel
theorem dXM_isRing_43 : decode cXM_isRing 43 = .ok (.ireturn, 1) := by decide +kernel
theorem dXM_highOf_0 : decode cXM_highOf 0 = .ok (.iload_n 1, 1) := by decide +kernel
theorem dXM_highOf_1 : decode cXM_highOf 1 = .ok (.istore_n 3, 1) := by decide +kernel
theorem dXM_highOf_2 : decode cXM_highOf 2 = .ok (.iload_n 3, 1) := by decide +kernel
theorem dXM_highOf_3 : decode cXM_highOf 3 = .ok (.ifCond .le 38, 3) := by decide +kernel
theorem dXM_highOf_6 : decode cXM_highOf 6 = .ok (.aload_n 0, 1) := by decide +kernel
theorem dXM_highOf_7 : decode cXM_highOf 7 = .ok (.getfield 20, 3) := by decide +kernel
theorem dXM_highOf_10 : decode cXM_highOf 10 = .ok (.bipush 8, 2) := by decide +kernel
theorem dXM_highOf_12 : decode cXM_highOf 12 = .ok (.iload_n 3, 1) := by decide +kernel
theorem dXM_highOf_13 : decode cXM_highOf 13 = .ok (.imul, 1) := by decide +kernel
theorem dXM_highOf_14 : decode cXM_highOf 14 = .ok (.iload_n 2, 1) := by decide +kernel
theorem dXM_highOf_15 : decode cXM_highOf 15 = .ok (.iadd, 1) := by decide +kernel
theorem dXM_highOf_16 : decode cXM_highOf 16 = .ok (.baload, 1) := by decide +kernel
theorem dXM_highOf_17 : decode cXM_highOf 17 = .ok (.ifCond .eq 15, 3) := by decide +kernel
theorem dXM_highOf_20 : decode cXM_highOf 20 = .ok (.aload_n 0, 1) := by decide +kernel
theorem dXM_highOf_21 : decode cXM_highOf 21 = .ok (.getfield 26, 3) := by decide +kernel
theorem dXM_highOf_24 : decode cXM_highOf 24 = .ok (.bipush 8, 2) := by decide +kernel
theorem dXM_highOf_26 : decode cXM_highOf 26 = .ok (.iload_n 3, 1) := by decide +kernel
theorem dXM_highOf_27 : decode cXM_highOf 27 = .ok (.imul, 1) := by decide +kernel
theorem dXM_highOf_28 : decode cXM_highOf 28 = .ok (.iload_n 2, 1) := by decide +kernel
theorem dXM_highOf_29 : decode cXM_highOf 29 = .ok (.iadd, 1) := by decide +kernel
theorem dXM_highOf_30 : decode cXM_highOf 30 = .ok (.iaload, 1) := by decide +kernel
theorem dXM_highOf_31 : decode cXM_highOf 31 = .ok (.ireturn, 1) := by decide +kernel
theorem dXM_highOf_32 : decode cXM_highOf 32 = .ok (.aload_n 0, 1) := by decide +kernel
theorem dXM_highOf_33 : decode cXM_highOf 33 = .ok (.iload_n 3, 1) := by decide +kernel
theorem dXM_highOf_34 : decode cXM_highOf 34 = .ok (.invokevirtual 124, 3) := by decide +kernel
theorem dXM_highOf_37 : decode cXM_highOf 37 = .ok (.istore_n 3, 1) := by decide +kernel
theorem dXM_highOf_38 : decode cXM_highOf 38 = .ok (.goto (-36), 3) := by decide +kernel
theorem dXM_highOf_41 : decode cXM_highOf 41 = .ok (.ldc 98, 2) := by decide +kernel
theorem dXM_highOf_43 : decode cXM_highOf 43 = .ok (.ireturn, 1) := by decide +kernel
theorem dXM_limit_0 : decode cXM_limit 0 = .ok (.aload_n 0, 1) := by decide +kernel
theorem dXM_limit_1 : decode cXM_limit 1 = .ok (.aload_n 0, 1) := by decide +kernel
theorem dXM_limit_2 : decode cXM_limit 2 = .ok (.iload_n 1, 1) := by decide +kernel
theorem dXM_limit_3 : decode cXM_limit 3 = .ok (.invokevirtual 118, 3) := by decide +kernel
theorem dXM_limit_6 : decode cXM_limit 6 = .ok (.ifCond .eq 14, 3) := by decide +kernel
theorem dXM_limit_9 : decode cXM_limit 9 = .ok (.iload_n 2, 1) := by decide +kernel
theorem dXM_limit_10 : decode cXM_limit 10 = .ok (.invokestatic 136, 3) := by decide +kernel
theorem dXM_limit_13 : decode cXM_limit 13 = .ok (.ifCond .eq 7, 3) := by decide +kernel
theorem dXM_limit_16 : decode cXM_limit 16 = .ok (.iconst 1, 1) := by decide +kernel
theorem dXM_limit_17 : decode cXM_limit 17 = .ok (.goto 4, 3) := by decide +kernel
theorem dXM_limit_20 : decode cXM_limit 20 = .ok (.iconst 0, 1) := by decide +kernel
theorem dXM_limit_21 : decode cXM_limit 21 = .ok (.iconst 1, 1) := by decide +kernel
theorem dXM_limit_22 : decode cXM_limit 22 = .ok (.invokevirtual 58, 3) := by decide +kernel
theorem dXM_limit_25 : decode cXM_limit 25 = .ok (.ifCond .ne 5, 3) := by decide +kernel
theorem dXM_limit_28 : decode cXM_limit 28 = .ok (.iconst 0, 1) := by decide +kernel
theorem dXM_limit_29 : decode cXM_limit 29 = .ok (.ireturn, 1) := by decide +kernel
theorem dXM_limit_30 : decode cXM_limit 30 = .ok (.aload_n 0, 1) := by decide +kernel
theorem dXM_limit_31 : decode cXM_limit 31 = .ok (.iload_n 1, 1) := by decide +kernel
theorem dXM_limit_32 : decode cXM_limit 32 = .ok (.iload_n 2, 1) := by decide +kernel
theorem dXM_limit_33 : decode cXM_limit 33 = .ok (.invokevirtual 139, 3) := by decide +kernel
theorem dXM_limit_36 : decode cXM_limit 36 = .ok (.ireturn, 1) := by decide +kernel
theorem dXM_isKind_0 : decode cXM_isKind 0 = .ok (.iload_n 0, 1) := by decide +kernel
theorem dXM_isKind_1 : decode cXM_isKind 1 = .ok (.iconst 0, 1) := by decide +kernel
theorem dXM_isKind_2 : decode cXM_isKind 2 = .ok (.iconst 3, 1) := by decide +kernel
theorem dXM_isKind_3 : decode cXM_isKind 3 = .ok (.invokestatic 51, 3) := by decide +kernel
theorem dXM_isKind_6 : decode cXM_isKind 6 = .ok (.ireturn, 1) := by decide +kernel
theorem dXM_limitOf_0 : decode cXM_limitOf 0 = .ok (.iload_n 1, 1) := by decide +kernel
theorem dXM_limitOf_1 : decode cXM_limitOf 1 = .ok (.istore_n 3, 1) := by decide +kernel
theorem dXM_limitOf_2 : decode cXM_limitOf 2 = .ok (.iload_n 3, 1) := by decide +kernel
theorem dXM_limitOf_3 : decode cXM_limitOf 3 = .ok (.ifCond .le 36, 3) := by decide +kernel
theorem dXM_limitOf_6 : decode cXM_limitOf 6 = .ok (.aload_n 0, 1) := by decide +kernel
theorem dXM_limitOf_7 : decode cXM_limitOf 7 = .ok (.getfield 32, 3) := by decide +kernel
theorem dXM_limitOf_10 : decode cXM_limitOf 10 = .ok (.iconst 4, 1) := by decide +kernel
theorem dXM_limitOf_11 : decode cXM_limitOf 11 = .ok (.iload_n 3, 1) := by decide +kernel
theorem dXM_limitOf_12 : decode cXM_limitOf 12 = .ok (.imul, 1) := by decide +kernel
theorem dXM_limitOf_13 : decode cXM_limitOf 13 = .ok (.iload_n 2, 1) := by decide +kernel
theorem dXM_limitOf_14 : decode cXM_limitOf 14 = .ok (.iadd, 1) := by decide +kernel
theorem dXM_limitOf_15 : decode cXM_limitOf 15 = .ok (.iaload, 1) := by decide +kernel
theorem dXM_limitOf_16 : decode cXM_limitOf 16 = .ok (.ifCond .lt 14, 3) := by decide +kernel
theorem dXM_limitOf_19 : decode cXM_limitOf 19 = .ok (.aload_n 0, 1) := by decide +kernel
theorem dXM_limitOf_20 : decode cXM_limitOf 20 = .ok (.getfield 32, 3) := by decide +kernel
theorem dXM_limitOf_23 : decode cXM_limitOf 23 = .ok (.iconst 4, 1) := by decide +kernel
theorem dXM_limitOf_24 : decode cXM_limitOf 24 = .ok (.iload_n 3, 1) := by decide +kernel
theorem dXM_limitOf_25 : decode cXM_limitOf 25 = .ok (.imul, 1) := by decide +kernel
theorem dXM_limitOf_26 : decode cXM_limitOf 26 = .ok (.iload_n 2, 1) := by decide +kernel
theorem dXM_limitOf_27 : decode cXM_limitOf 27 = .ok (.iadd, 1) := by decide +kernel
theorem dXM_limitOf_28 : decode cXM_limitOf 28 = .ok (.iaload, 1) := by decide +kernel
theorem dXM_limitOf_29 : decode cXM_limitOf 29 = .ok (.ireturn, 1) := by decide +kernel
theorem dXM_limitOf_30 : decode cXM_limitOf 30 = .ok (.aload_n 0, 1) := by decide +kernel
theorem dXM_limitOf_31 : decode cXM_limitOf 31 = .ok (.iload_n 3, 1) := by decide +kernel
theorem dXM_limitOf_32 : decode cXM_limitOf 32 = .ok (.invokevirtual 124, 3) := by decide +kernel
theorem dXM_limitOf_35 : decode cXM_limitOf 35 = .ok (.istore_n 3, 1) := by decide +kernel
theorem dXM_limitOf_36 : decode cXM_limitOf 36 = .ok (.goto (-34), 3) := by decide +kernel
theorem dXM_limitOf_39 : decode cXM_limitOf 39 = .ok (.iconst (-1), 1) := by decide +kernel
theorem dXM_limitOf_40 : decode cXM_limitOf 40 = .ok (.ireturn, 1) := by decide +kernel
theorem dXM_equivalent_0 : decode cXM_equivalent 0 = .ok (.aload_n 0, 1) := by decide +kernel
theorem dXM_equivalent_1 : decode cXM_equivalent 1 = .ok (.iload_n 1, 1) := by decide +kernel
theorem dXM_equivalent_2 : decode cXM_equivalent 2 = .ok (.invokevirtual 118, 3) := by decide +kernel
theorem dXM_equivalent_5 : decode cXM_equivalent 5 = .ok (.ifCond .eq 33, 3) := by decide +kernel
theorem dXM_equivalent_8 : decode cXM_equivalent 8 = .ok (.iload_n 2, 1) := by decide +kernel
theorem dXM_equivalent_9 : decode cXM_equivalent 9 = .ok (.invokestatic 136, 3) := by decide +kernel
theorem dXM_equivalent_12 : decode cXM_equivalent 12 = .ok (.ifCond .eq 26, 3) := by decide +kernel
theorem dXM_equivalent_15 : decode cXM_equivalent 15 = .ok (.iload_n 3, 1) := by decide +kernel
theorem dXM_equivalent_16 : decode cXM_equivalent 16 = .ok (.iconst 0, 1) := by decide +kernel
theorem dXM_equivalent_17 : decode cXM_equivalent 17 = .ok (.iconst 1, 1) := by decide +kernel
theorem dXM_equivalent_18 : decode cXM_equivalent 18 = .ok (.invokestatic 51, 3) := by decide +kernel
theorem dXM_equivalent_21 : decode cXM_equivalent 21 = .ok (.ifCond .eq 17, 3) := by decide +kernel
theorem dXM_equivalent_24 : decode cXM_equivalent 24 = .ok (.iload 4, 2) := by decide +kernel
theorem dXM_equivalent_26 : decode cXM_equivalent 26 = .ok (.iconst 0, 1) := by decide +kernel
theorem dXM_equivalent_27 : decode cXM_equivalent 27 = .ok (.iconst 1, 1) := by decide +kernel
theorem dXM_equivalent_28 : decode cXM_equivalent 28 = .ok (.invokestatic 51, 3) := by decide +kernel
theorem dXM_equivalent_31 : decode cXM_equivalent 31 = .ok (.ifCond .eq 7, 3) := by decide +kernel
theorem dXM_equivalent_34 : decode cXM_equivalent 34 = .ok (.iconst 1, 1) := by decide +kernel
theorem dXM_equivalent_35 : decode cXM_equivalent 35 = .ok (.goto 4, 3) := by decide +kernel
theorem dXM_equivalent_38 : decode cXM_equivalent 38 = .ok (.iconst 0, 1) := by decide +kernel
theorem dXM_equivalent_39 : decode cXM_equivalent 39 = .ok (.istore 5, 2) := by decide +kernel
theorem dXM_equivalent_41 : decode cXM_equivalent 41 = .ok (.aload_n 0, 1) := by decide +kernel
theorem dXM_equivalent_42 : decode cXM_equivalent 42 = .ok (.iload 5, 2) := by decide +kernel
theorem dXM_equivalent_44 : decode cXM_equivalent 44 = .ok (.iload 5, 2) := by decide +kernel
theorem dXM_equivalent_46 : decode cXM_equivalent 46 = .ok (.ifCond .eq 16, 3) := by decide +kernel
theorem dXM_equivalent_49 : decode cXM_equivalent 49 = .ok (.aload_n 0, 1) := by decide +kernel
theorem dXM_equivalent_50 : decode cXM_equivalent 50 = .ok (.getfield 35, 3) := by decide +kernel
theorem dXM_equivalent_53 : decode cXM_equivalent 53 = .ok (.iload_n 2, 1) := by decide +kernel
theorem dXM_equivalent_54 : decode cXM_equivalent 54 = .ok (.baload, 1) := by decide +kernel
theorem dXM_equivalent_55 : decode cXM_equivalent 55 = .ok (.ifCond .eq 7, 3) := by decide +kernel
theorem dXM_equivalent_58 : decode cXM_equivalent 58 = .ok (.iconst 1, 1) := by decide +kernel
theorem dXM_equivalent_59 : decode cXM_equivalent 59 = .ok (.goto 4, 3) := by decide +kernel
theorem dXM_equivalent_62 : decode cXM_equivalent 62 = .ok (.iconst 0, 1) := by decide +kernel
theorem dXM_equivalent_63 : decode cXM_equivalent 63 = .ok (.invokevirtual 58, 3) := by decide +kernel
theorem dXM_equivalent_66 : decode cXM_equivalent 66 = .ok (.ifCond .ne 5, 3) := by decide +kernel
theorem dXM_equivalent_69 : decode cXM_equivalent 69 = .ok (.lconst 0, 1) := by decide +kernel
theorem dXM_equivalent_70 : decode cXM_equivalent 70 = .ok (.lreturn, 1) := by decide +kernel
theorem dXM_equivalent_71 : decode cXM_equivalent 71 = .ok (.aload_n 0, 1) := by decide +kernel
theorem dXM_equivalent_72 : decode cXM_equivalent 72 = .ok (.iload_n 1, 1) := by decide +kernel
theorem dXM_equivalent_73 : decode cXM_equivalent 73 = .ok (.iload_n 2, 1) := by decide +kernel
theorem dXM_equivalent_74 : decode cXM_equivalent 74 = .ok (.iload_n 3, 1) := by decide +kernel
theorem dXM_equivalent_75 : decode cXM_equivalent 75 = .ok (.invokevirtual 153, 3) := by decide +kernel
theorem dXM_equivalent_78 : decode cXM_equivalent 78 = .ok (.iload 4, 2) := by decide +kernel
theorem dXM_equivalent_80 : decode cXM_equivalent 80 = .ok (.ifCond .ne 10, 3) := by decide +kernel
theorem dXM_equivalent_83 : decode cXM_equivalent 83 = .ok (.aload_n 0, 1) := by decide +kernel
theorem dXM_equivalent_84 : decode cXM_equivalent 84 = .ok (.getfield 142, 3) := by decide +kernel
theorem dXM_equivalent_87 : decode cXM_equivalent 87 = .ok (.goto 7, 3) := by decide +kernel
theorem dXM_equivalent_90 : decode cXM_equivalent 90 = .ok (.aload_n 0, 1) := by decide +kernel
theorem dXM_equivalent_91 : decode cXM_equivalent 91 = .ok (.getfield 146, 3) := by decide +kernel
theorem dXM_equivalent_94 : decode cXM_equivalent 94 = .ok (.lreturn, 1) := by decide +kernel
theorem dXM_reckon_0 : decode cXM_reckon 0 = .ok (.aload_n 0, 1) := by decide +kernel
theorem dXM_reckon_1 : decode cXM_reckon 1 = .ok (.lconst 0, 1) := by decide +kernel
theorem dXM_reckon_2 : decode cXM_reckon 2 = .ok (.putfield 142, 3) := by decide +kernel
theorem dXM_reckon_5 : decode cXM_reckon 5 = .ok (.aload_n 0, 1) := by decide +kernel
theorem dXM_reckon_6 : decode cXM_reckon 6 = .ok (.lconst 1, 1) := by decide +kernel
theorem dXM_reckon_7 : decode cXM_reckon 7 = .ok (.putfield 146, 3) := by decide +kernel
theorem dXM_reckon_10 : decode cXM_reckon 10 = .ok (.iconst 0, 1) := by decide +kernel
theorem dXM_reckon_11 : decode cXM_reckon 11 = .ok (.istore 4, 2) := by decide +kernel
theorem dXM_reckon_13 : decode cXM_reckon 13 = .ok (.iload 4, 2) := by decide +kernel
theorem dXM_reckon_15 : decode cXM_reckon 15 = .ok (.bipush 8, 2) := by decide +kernel
theorem dXM_reckon_17 : decode cXM_reckon 17 = .ok (.if_icmp .ge 64, 3) := by decide +kernel
theorem dXM_reckon_20 : decode cXM_reckon 20 = .ok (.aload_n 0, 1) := by decide +kernel
theorem dXM_reckon_21 : decode cXM_reckon 21 = .ok (.iload_n 3, 1) := by decide +kernel
theorem dXM_reckon_22 : decode cXM_reckon 22 = .ok (.iconst 2, 1) := by decide +kernel
theorem dXM_reckon_23 : decode cXM_reckon 23 = .ok (.if_icmp .ne 14, 3) := by decide +kernel
theorem dXM_reckon_26 : decode cXM_reckon 26 = .ok (.aload_n 0, 1) := by decide +kernel
theorem dXM_reckon_27 : decode cXM_reckon 27 = .ok (.getfield 41, 3) := by decide +kernel
theorem dXM_reckon_30 : decode cXM_reckon 30 = .ok (.iload 4, 2) := by decide +kernel
theorem dXM_reckon_32 : decode cXM_reckon 32 = .ok (.iaload, 1) := by decide +kernel
theorem dXM_reckon_33 : decode cXM_reckon 33 = .ok (.i2l, 1) := by decide +kernel
theorem dXM_reckon_34 : decode cXM_reckon 34 = .ok (.goto 26, 3) := by decide +kernel
theorem dXM_reckon_37 : decode cXM_reckon 37 = .ok (.iload_n 3, 1) := by decide +kernel
theorem dXM_reckon_38 : decode cXM_reckon 38 = .ok (.ifCond .ne 14, 3) := by decide +kernel
theorem dXM_reckon_41 : decode cXM_reckon 41 = .ok (.aload_n 0, 1) := by decide +kernel
theorem dXM_reckon_42 : decode cXM_reckon 42 = .ok (.iload_n 1, 1) := by decide +kernel
theorem dXM_reckon_43 : decode cXM_reckon 43 = .ok (.iload 4, 2) := by decide +kernel
theorem dXM_reckon_45 : decode cXM_reckon 45 = .ok (.invokevirtual 130, 3) := by decide +kernel
theorem dXM_reckon_48 : decode cXM_reckon 48 = .ok (.i2l, 1) := by decide +kernel
theorem dXM_reckon_49 : decode cXM_reckon 49 = .ok (.goto 11, 3) := by decide +kernel
theorem dXM_reckon_52 : decode cXM_reckon 52 = .ok (.aload_n 0, 1) := by decide +kernel
theorem dXM_reckon_53 : decode cXM_reckon 53 = .ok (.iload_n 1, 1) := by decide +kernel
theorem dXM_reckon_54 : decode cXM_reckon 54 = .ok (.iload 4, 2) := by decide +kernel
theorem dXM_reckon_56 : decode cXM_reckon 56 = .ok (.invokevirtual 133, 3) := by decide +kernel
theorem dXM_reckon_59 : decode cXM_reckon 59 = .ok (.i2l, 1) := by decide +kernel
theorem dXM_reckon_60 : decode cXM_reckon 60 = .ok (.aload_n 0, 1) := by decide +kernel
theorem dXM_reckon_61 : decode cXM_reckon 61 = .ok (.getfield 38, 3) := by decide +kernel
theorem dXM_reckon_64 : decode cXM_reckon 64 = .ok (.bipush 8, 2) := by decide +kernel
theorem dXM_reckon_66 : decode cXM_reckon 66 = .ok (.iload_n 2, 1) := by decide +kernel
theorem dXM_reckon_67 : decode cXM_reckon 67 = .ok (.imul, 1) := by decide +kernel
theorem dXM_reckon_68 : decode cXM_reckon 68 = .ok (.iload 4, 2) := by decide +kernel
theorem dXM_reckon_70 : decode cXM_reckon 70 = .ok (.iadd, 1) := by decide +kernel
theorem dXM_reckon_71 : decode cXM_reckon 71 = .ok (.iaload, 1) := by decide +kernel
theorem dXM_reckon_72 : decode cXM_reckon 72 = .ok (.invokevirtual 149, 3) := by decide +kernel
theorem dXM_reckon_75 : decode cXM_reckon 75 = .ok (.iinc 4 1, 3) := by decide +kernel
theorem dXM_reckon_78 : decode cXM_reckon 78 = .ok (.goto (-65), 3) := by decide +kernel
theorem dXM_reckon_81 : decode cXM_reckon 81 = .ok (.return_, 1) := by decide +kernel
theorem dXM_adds_0 : decode cXM_adds 0 = .ok (.iload_n 3, 1) := by decide +kernel
theorem dXM_adds_1 : decode cXM_adds 1 = .ok (.ifCond .ne 4, 3) := by decide +kernel
theorem dXM_adds_4 : decode cXM_adds 4 = .ok (.return_, 1) := by decide +kernel
theorem dXM_adds_5 : decode cXM_adds 5 = .ok (.aload_n 0, 1) := by decide +kernel
theorem dXM_adds_6 : decode cXM_adds 6 = .ok (.aload_n 0, 1) := by decide +kernel
theorem dXM_adds_7 : decode cXM_adds 7 = .ok (.getfield 142, 3) := by decide +kernel
theorem dXM_adds_10 : decode cXM_adds 10 = .ok (.iload_n 3, 1) := by decide +kernel
theorem dXM_adds_11 : decode cXM_adds 11 = .ok (.i2l, 1) := by decide +kernel
theorem dXM_adds_12 : decode cXM_adds 12 = .ok (.lmul, 1) := by decide +kernel
theorem dXM_adds_13 : decode cXM_adds 13 = .ok (.lload_n 1, 1) := by decide +kernel
theorem dXM_adds_14 : decode cXM_adds 14 = .ok (.aload_n 0, 1) := by decide +kernel
theorem dXM_adds_15 : decode cXM_adds 15 = .ok (.getfield 146, 3) := by decide +kernel
theorem dXM_adds_18 : decode cXM_adds 18 = .ok (.lmul, 1) := by decide +kernel
theorem dXM_adds_19 : decode cXM_adds 19 = .ok (.ladd, 1) := by decide +kernel
theorem dXM_adds_20 : decode cXM_adds 20 = .ok (.putfield 142, 3) := by decide +kernel
theorem dXM_adds_23 : decode cXM_adds 23 = .ok (.aload_n 0, 1) := by decide +kernel
theorem dXM_adds_24 : decode cXM_adds 24 = .ok (.aload_n 0, 1) := by decide +kernel
theorem dXM_adds_25 : decode cXM_adds 25 = .ok (.getfield 146, 3) := by decide +kernel
theorem dXM_adds_28 : decode cXM_adds 28 = .ok (.iload_n 3, 1) := by decide +kernel
theorem dXM_adds_29 : decode cXM_adds 29 = .ok (.i2l, 1) := by decide +kernel
theorem dXM_adds_30 : decode cXM_adds 30 = .ok (.lmul, 1) := by decide +kernel
theorem dXM_adds_31 : decode cXM_adds 31 = .ok (.putfield 146, 3) := by decide +kernel
theorem dXM_adds_34 : decode cXM_adds 34 = .ok (.aload_n 0, 1) := by decide +kernel
theorem dXM_adds_35 : decode cXM_adds 35 = .ok (.getfield 146, 3) := by decide +kernel
theorem dXM_adds_38 : decode cXM_adds 38 = .ok (.lstore 4, 2) := by decide +kernel
theorem dXM_adds_40 : decode cXM_adds 40 = .ok (.aload_n 0, 1) := by decide +kernel
theorem dXM_adds_41 : decode cXM_adds 41 = .ok (.getfield 142, 3) := by decide +kernel
theorem dXM_adds_44 : decode cXM_adds 44 = .ok (.lstore 6, 2) := by decide +kernel
theorem dXM_adds_46 : decode cXM_adds 46 = .ok (.lload 6, 2) := by decide +kernel
theorem dXM_adds_48 : decode cXM_adds 48 = .ok (.lconst 0, 1) := by decide +kernel
theorem dXM_adds_49 : decode cXM_adds 49 = .ok (.lcmp, 1) := by decide +kernel
theorem dXM_adds_50 : decode cXM_adds 50 = .ok (.ifCond .le 21, 3) := by decide +kernel
theorem dXM_adds_53 : decode cXM_adds 53 = .ok (.lload 4, 2) := by decide +kernel
theorem dXM_adds_55 : decode cXM_adds 55 = .ok (.lload 6, 2) := by decide +kernel
theorem dXM_adds_57 : decode cXM_adds 57 = .ok (.lrem, 1) := by decide +kernel
theorem dXM_adds_58 : decode cXM_adds 58 = .ok (.lstore 8, 2) := by decide +kernel
theorem dXM_adds_60 : decode cXM_adds 60 = .ok (.lload 6, 2) := by decide +kernel
theorem dXM_adds_62 : decode cXM_adds 62 = .ok (.lstore 4, 2) := by decide +kernel
theorem dXM_adds_64 : decode cXM_adds 64 = .ok (.lload 8, 2) := by decide +kernel
theorem dXM_adds_66 : decode cXM_adds 66 = .ok (.lstore 6, 2) := by decide +kernel
theorem dXM_adds_68 : decode cXM_adds 68 = .ok (.goto (-22), 3) := by decide +kernel
theorem dXM_adds_71 : decode cXM_adds 71 = .ok (.aload_n 0, 1) := by decide +kernel
theorem dXM_adds_72 : decode cXM_adds 72 = .ok (.aload_n 0, 1) := by decide +kernel
theorem dXM_adds_73 : decode cXM_adds 73 = .ok (.getfield 142, 3) := by decide +kernel
theorem dXM_adds_76 : decode cXM_adds 76 = .ok (.lload 4, 2) := by decide +kernel
theorem dXM_adds_78 : decode cXM_adds 78 = .ok (.ldiv, 1) := by decide +kernel
theorem dXM_adds_79 : decode cXM_adds 79 = .ok (.putfield 142, 3) := by decide +kernel
theorem dXM_adds_82 : decode cXM_adds 82 = .ok (.aload_n 0, 1) := by decide +kernel
theorem dXM_adds_83 : decode cXM_adds 83 = .ok (.aload_n 0, 1) := by decide +kernel
theorem dXM_adds_84 : decode cXM_adds 84 = .ok (.getfield 146, 3) := by decide +kernel
theorem dXM_adds_87 : decode cXM_adds 87 = .ok (.lload 4, 2) := by decide +kernel
theorem dXM_adds_89 : decode cXM_adds 89 = .ok (.ldiv, 1) := by decide +kernel
theorem dXM_adds_90 : decode cXM_adds 90 = .ok (.putfield 146, 3) := by decide +kernel
theorem dXM_adds_93 : decode cXM_adds 93 = .ok (.return_, 1) := by decide +kernel
theorem dXM_share_0 : decode cXM_share 0 = .ok (.aload_n 0, 1) := by decide +kernel
theorem dXM_share_1 : decode cXM_share 1 = .ok (.iload_n 1, 1) := by decide +kernel
theorem dXM_share_2 : decode cXM_share 2 = .ok (.invokestatic 127, 3) := by decide +kernel
theorem dXM_share_5 : decode cXM_share 5 = .ok (.iload_n 2, 1) := by decide +kernel
theorem dXM_share_6 : decode cXM_share 6 = .ok (.iconst 0, 1) := by decide +kernel
theorem dXM_share_7 : decode cXM_share 7 = .ok (.ldc 98, 2) := by decide +kernel
theorem dXM_share_9 : decode cXM_share 9 = .ok (.invokestatic 51, 3) := by decide +kernel
theorem dXM_share_12 : decode cXM_share 12 = .ok (.invokevirtual 58, 3) := by decide +kernel
theorem dXM_share_15 : decode cXM_share 15 = .ok (.ifCond .eq 10, 3) := by decide +kernel
theorem dXM_share_18 : decode cXM_share 18 = .ok (.aload_n 0, 1) := by decide +kernel
theorem dXM_share_19 : decode cXM_share 19 = .ok (.getfield 41, 3) := by decide +kernel
theorem dXM_share_22 : decode cXM_share 22 = .ok (.iload_n 1, 1) := by decide +kernel
theorem dXM_share_23 : decode cXM_share 23 = .ok (.iload_n 2, 1) := by decide +kernel
theorem dXM_share_24 : decode cXM_share 24 = .ok (.iastore, 1) := by decide +kernel
theorem dXM_share_25 : decode cXM_share 25 = .ok (.return_, 1) := by decide +kernel
theorem dXM_value_0 : decode cXM_value 0 = .ok (.iload_n 1, 1) := by decide +kernel
theorem dXM_value_1 : decode cXM_value 1 = .ok (.invokestatic 136, 3) := by decide +kernel
theorem dXM_value_4 : decode cXM_value 4 = .ok (.ifCond .eq 16, 3) := by decide +kernel
theorem dXM_value_7 : decode cXM_value 7 = .ok (.iload_n 2, 1) := by decide +kernel
theorem dXM_value_8 : decode cXM_value 8 = .ok (.iconst 0, 1) := by decide +kernel
theorem dXM_value_9 : decode cXM_value 9 = .ok (.iconst 1, 1) := by decide +kernel
theorem dXM_value_10 : decode cXM_value 10 = .ok (.invokestatic 51, 3) := by decide +kernel
theorem dXM_value_13 : decode cXM_value 13 = .ok (.ifCond .eq 7, 3) := by decide +kernel
theorem dXM_value_16 : decode cXM_value 16 = .ok (.iconst 1, 1) := by decide +kernel
theorem dXM_value_17 : decode cXM_value 17 = .ok (.goto 4, 3) := by decide +kernel
theorem dXM_value_20 : decode cXM_value 20 = .ok (.iconst 0, 1) := by decide +kernel
theorem dXM_value_21 : decode cXM_value 21 = .ok (.istore_n 3, 1) := by decide +kernel
theorem dXM_value_22 : decode cXM_value 22 = .ok (.aload_n 0, 1) := by decide +kernel
theorem dXM_value_23 : decode cXM_value 23 = .ok (.iload_n 3, 1) := by decide +kernel
theorem dXM_value_24 : decode cXM_value 24 = .ok (.iload_n 3, 1) := by decide +kernel
theorem dXM_value_25 : decode cXM_value 25 = .ok (.ifCond .eq 16, 3) := by decide +kernel
theorem dXM_value_28 : decode cXM_value 28 = .ok (.aload_n 0, 1) := by decide +kernel
theorem dXM_value_29 : decode cXM_value 29 = .ok (.getfield 35, 3) := by decide +kernel
theorem dXM_value_32 : decode cXM_value 32 = .ok (.iload_n 1, 1) := by decide +kernel
theorem dXM_value_33 : decode cXM_value 33 = .ok (.baload, 1) := by decide +kernel
theorem dXM_value_34 : decode cXM_value 34 = .ok (.ifCond .eq 7, 3) := by decide +kernel
theorem dXM_value_37 : decode cXM_value 37 = .ok (.iconst 1, 1) := by decide +kernel
theorem dXM_value_38 : decode cXM_value 38 = .ok (.goto 4, 3) := by decide +kernel
theorem dXM_value_41 : decode cXM_value 41 = .ok (.iconst 0, 1) := by decide +kernel
theorem dXM_value_42 : decode cXM_value 42 = .ok (.invokevirtual 58, 3) := by decide +kernel
theorem dXM_value_45 : decode cXM_value 45 = .ok (.ifCond .ne 5, 3) := by decide +kernel
theorem dXM_value_48 : decode cXM_value 48 = .ok (.lconst 0, 1) := by decide +kernel
theorem dXM_value_49 : decode cXM_value 49 = .ok (.lreturn, 1) := by decide +kernel
theorem dXM_value_50 : decode cXM_value 50 = .ok (.aload_n 0, 1) := by decide +kernel
theorem dXM_value_51 : decode cXM_value 51 = .ok (.iconst 0, 1) := by decide +kernel
theorem dXM_value_52 : decode cXM_value 52 = .ok (.iload_n 1, 1) := by decide +kernel
theorem dXM_value_53 : decode cXM_value 53 = .ok (.iconst 2, 1) := by decide +kernel
theorem dXM_value_54 : decode cXM_value 54 = .ok (.invokevirtual 153, 3) := by decide +kernel
theorem dXM_value_57 : decode cXM_value 57 = .ok (.iload_n 2, 1) := by decide +kernel
theorem dXM_value_58 : decode cXM_value 58 = .ok (.ifCond .ne 10, 3) := by decide +kernel
theorem dXM_value_61 : decode cXM_value 61 = .ok (.aload_n 0, 1) := by decide +kernel
theorem dXM_value_62 : decode cXM_value 62 = .ok (.getfield 142, 3) := by decide +kernel
theorem dXM_value_65 : decode cXM_value 65 = .ok (.goto 7, 3) := by decide +kernel
theorem dXM_value_68 : decode cXM_value 68 = .ok (.aload_n 0, 1) := by decide +kernel
theorem dXM_value_69 : decode cXM_value 69 = .ok (.getfield 146, 3) := by decide +kernel
theorem dXM_value_72 : decode cXM_value 72 = .ok (.lreturn, 1) := by decide +kernel
theorem dXM_fits_0 : decode cXM_fits 0 = .ok (.aload_n 0, 1) := by decide +kernel
theorem dXM_fits_1 : decode cXM_fits 1 = .ok (.aload_n 0, 1) := by decide +kernel
theorem dXM_fits_2 : decode cXM_fits 2 = .ok (.iload_n 1, 1) := by decide +kernel
theorem dXM_fits_3 : decode cXM_fits 3 = .ok (.invokevirtual 118, 3) := by decide +kernel
theorem dXM_fits_6 : decode cXM_fits 6 = .ok (.iconst 1, 1) := by decide +kernel
theorem dXM_fits_7 : decode cXM_fits 7 = .ok (.invokevirtual 58, 3) := by decide +kernel
theorem dXM_fits_10 : decode cXM_fits 10 = .ok (.ifCond .ne 5, 3) := by decide +kernel
theorem dXM_fits_13 : decode cXM_fits 13 = .ok (.iconst 0, 1) := by decide +kernel
theorem dXM_fits_14 : decode cXM_fits 14 = .ok (.ireturn, 1) := by decide +kernel
theorem dXM_fits_15 : decode cXM_fits 15 = .ok (.iconst 0, 1) := by decide +kernel
theorem dXM_fits_16 : decode cXM_fits 16 = .ok (.istore_n 2, 1) := by decide +kernel
theorem dXM_fits_17 : decode cXM_fits 17 = .ok (.iload_n 2, 1) := by decide +kernel

