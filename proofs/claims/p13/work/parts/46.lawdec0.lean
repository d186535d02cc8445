theorem dXL_law_0 : decode code 0 = .ok (.new 8, 3) := by decide +kernel
theorem dXL_law_3 : decode code 3 = .ok (.dup, 1) := by decide +kernel
theorem dXL_law_4 : decode code 4 = .ok (.invokespecial 64, 3) := by decide +kernel
theorem dXL_law_7 : decode code 7 = .ok (.astore_n 1, 1) := by decide +kernel
theorem dXL_law_8 : decode code 8 = .ok (.new 65, 3) := by decide +kernel
theorem dXL_law_11 : decode code 11 = .ok (.dup, 1) := by decide +kernel
theorem dXL_law_12 : decode code 12 = .ok (.invokespecial 67, 3) := by decide +kernel
theorem dXL_law_15 : decode code 15 = .ok (.astore_n 2, 1) := by decide +kernel
theorem dXL_law_16 : decode code 16 = .ok (.iconst 1, 1) := by decide +kernel
theorem dXL_law_17 : decode code 17 = .ok (.newarray .long, 2) := by decide +kernel
theorem dXL_law_19 : decode code 19 = .ok (.astore_n 3, 1) := by decide +kernel
theorem dXL_law_20 : decode code 20 = .ok (.iconst 0, 1) := by decide +kernel
theorem dXL_law_21 : decode code 21 = .ok (.istore 4, 2) := by decide +kernel
theorem dXL_law_23 : decode code 23 = .ok (.iload 4, 2) := by decide +kernel
theorem dXL_law_25 : decode code 25 = .ok (.aload_n 0, 1) := by decide +kernel
theorem dXL_law_26 : decode code 26 = .ok (.arraylength, 1) := by decide +kernel
theorem dXL_law_27 : decode code 27 = .ok (.iconst 5, 1) := by decide +kernel
theorem dXL_law_28 : decode code 28 = .ok (.isub, 1) := by decide +kernel
theorem dXL_law_29 : decode code 29 = .ok (.if_icmp .gt 690, 3) := by decide +kernel
theorem dXL_law_32 : decode code 32 = .ok (.aload_n 0, 1) := by decide +kernel
theorem dXL_law_33 : decode code 33 = .ok (.iload 4, 2) := by decide +kernel
theorem dXL_law_35 : decode code 35 = .ok (.iaload, 1) := by decide +kernel
theorem dXL_law_36 : decode code 36 = .ok (.bipush 15, 2) := by decide +kernel
theorem dXL_law_38 : decode code 38 = .ok (.iand, 1) := by decide +kernel
theorem dXL_law_39 : decode code 39 = .ok (.tableswitch 674 0 14 #[73, 145, 158, 210, 250, 314, 351, 391, 419, 459, 487, 527, 607, 635, 663], 73) := by decide +kernel
theorem dXL_law_112 : decode code 112 = .ok (.aload_n 1, 1) := by decide +kernel
theorem dXL_law_113 : decode code 113 = .ok (.aload_n 0, 1) := by decide +kernel
theorem dXL_law_114 : decode code 114 = .ok (.iload 4, 2) := by decide +kernel
theorem dXL_law_116 : decode code 116 = .ok (.iconst 1, 1) := by decide +kernel
theorem dXL_law_117 : decode code 117 = .ok (.iadd, 1) := by decide +kernel
theorem dXL_law_118 : decode code 118 = .ok (.iaload, 1) := by decide +kernel
theorem dXL_law_119 : decode code 119 = .ok (.i2l, 1) := by decide +kernel
theorem dXL_law_120 : decode code 120 = .ok (.bipush 32, 2) := by decide +kernel
theorem dXL_law_122 : decode code 122 = .ok (.lshl, 1) := by decide +kernel
theorem dXL_law_123 : decode code 123 = .ok (.aload_n 0, 1) := by decide +kernel
theorem dXL_law_124 : decode code 124 = .ok (.iload 4, 2) := by decide +kernel
theorem dXL_law_126 : decode code 126 = .ok (.iconst 2, 1) := by decide +kernel
theorem dXL_law_127 : decode code 127 = .ok (.iadd, 1) := by decide +kernel
theorem dXL_law_128 : decode code 128 = .ok (.iaload, 1) := by decide +kernel
theorem dXL_law_129 : decode code 129 = .ok (.i2l, 1) := by decide +kernel
theorem dXL_law_130 : decode code 130 = .ok (.ldc2_w 68, 3) := by decide +kernel
theorem dXL_law_133 : decode code 133 = .ok (.land, 1) := by decide +kernel
theorem dXL_law_134 : decode code 134 = .ok (.lor, 1) := by decide +kernel
theorem dXL_law_135 : decode code 135 = .ok (.aload_n 0, 1) := by decide +kernel
theorem dXL_law_136 : decode code 136 = .ok (.iload 4, 2) := by decide +kernel
theorem dXL_law_138 : decode code 138 = .ok (.iconst 3, 1) := by decide +kernel
theorem dXL_law_139 : decode code 139 = .ok (.iadd, 1) := by decide +kernel
theorem dXL_law_140 : decode code 140 = .ok (.iaload, 1) := by decide +kernel
theorem dXL_law_141 : decode code 141 = .ok (.aload_n 3, 1) := by decide +kernel
theorem dXL_law_142 : decode code 142 = .ok (.invokestatic 70, 3) := by decide +kernel
theorem dXL_law_145 : decode code 145 = .ok (.istore 5, 2) := by decide +kernel
theorem dXL_law_147 : decode code 147 = .ok (.aload_n 2, 1) := by decide +kernel
theorem dXL_law_148 : decode code 148 = .ok (.aload_n 0, 1) := by decide +kernel
theorem dXL_law_149 : decode code 149 = .ok (.iload 4, 2) := by decide +kernel
theorem dXL_law_151 : decode code 151 = .ok (.iconst 1, 1) := by decide +kernel
theorem dXL_law_152 : decode code 152 = .ok (.iadd, 1) := by decide +kernel
theorem dXL_law_153 : decode code 153 = .ok (.iaload, 1) := by decide +kernel
theorem dXL_law_154 : decode code 154 = .ok (.i2l, 1) := by decide +kernel
theorem dXL_law_155 : decode code 155 = .ok (.bipush 32, 2) := by decide +kernel
theorem dXL_law_157 : decode code 157 = .ok (.lshl, 1) := by decide +kernel
theorem dXL_law_158 : decode code 158 = .ok (.aload_n 0, 1) := by decide +kernel
theorem dXL_law_159 : decode code 159 = .ok (.iload 4, 2) := by decide +kernel
theorem dXL_law_161 : decode code 161 = .ok (.iconst 2, 1) := by decide +kernel
theorem dXL_law_162 : decode code 162 = .ok (.iadd, 1) := by decide +kernel
theorem dXL_law_163 : decode code 163 = .ok (.iaload, 1) := by decide +kernel
theorem dXL_law_164 : decode code 164 = .ok (.i2l, 1) := by decide +kernel
theorem dXL_law_165 : decode code 165 = .ok (.ldc2_w 68, 3) := by decide +kernel
theorem dXL_law_168 : decode code 168 = .ok (.land, 1) := by decide +kernel
theorem dXL_law_169 : decode code 169 = .ok (.lor, 1) := by decide +kernel
theorem dXL_law_170 : decode code 170 = .ok (.aload_n 0, 1) := by decide +kernel
theorem dXL_law_171 : decode code 171 = .ok (.iload 4, 2) := by decide +kernel
theorem dXL_law_173 : decode code 173 = .ok (.iconst 3, 1) := by decide +kernel
theorem dXL_law_174 : decode code 174 = .ok (.iadd, 1) := by decide +kernel
theorem dXL_law_175 : decode code 175 = .ok (.iaload, 1) := by decide +kernel
theorem dXL_law_176 : decode code 176 = .ok (.invokevirtual 75, 3) := by decide +kernel
theorem dXL_law_179 : decode code 179 = .ok (.istore 6, 2) := by decide +kernel
theorem dXL_law_181 : decode code 181 = .ok (.goto 532, 3) := by decide +kernel
theorem dXL_law_184 : decode code 184 = .ok (.aload_n 1, 1) := by decide +kernel
theorem dXL_law_185 : decode code 185 = .ok (.invokevirtual 76, 3) := by decide +kernel
theorem dXL_law_188 : decode code 188 = .ok (.pop, 1) := by decide +kernel
theorem dXL_law_189 : decode code 189 = .ok (.aload_n 2, 1) := by decide +kernel
theorem dXL_law_190 : decode code 190 = .ok (.invokevirtual 80, 3) := by decide +kernel
theorem dXL_law_193 : decode code 193 = .ok (.pop, 1) := by decide +kernel
theorem dXL_law_194 : decode code 194 = .ok (.goto 519, 3) := by decide +kernel
theorem dXL_law_197 : decode code 197 = .ok (.aload_n 1, 1) := by decide +kernel
theorem dXL_law_198 : decode code 198 = .ok (.aload_n 0, 1) := by decide +kernel
theorem dXL_law_199 : decode code 199 = .ok (.iload 4, 2) := by decide +kernel
theorem dXL_law_201 : decode code 201 = .ok (.iconst 1, 1) := by decide +kernel
theorem dXL_law_202 : decode code 202 = .ok (.iadd, 1) := by decide +kernel
theorem dXL_law_203 : decode code 203 = .ok (.iaload, 1) := by decide +kernel
theorem dXL_law_204 : decode code 204 = .ok (.aload_n 0, 1) := by decide +kernel
theorem dXL_law_205 : decode code 205 = .ok (.iload 4, 2) := by decide +kernel
theorem dXL_law_207 : decode code 207 = .ok (.iconst 2, 1) := by decide +kernel
theorem dXL_law_208 : decode code 208 = .ok (.iadd, 1) := by decide +kernel
theorem dXL_law_209 : decode code 209 = .ok (.iaload, 1) := by decide +kernel
theorem dXL_law_210 : decode code 210 = .ok (.aload_n 0, 1) := by decide +kernel
theorem dXL_law_211 : decode code 211 = .ok (.iload 4, 2) := by decide +kernel
theorem dXL_law_213 : decode code 213 = .ok (.iconst 3, 1) := by decide +kernel
theorem dXL_law_214 : decode code 214 = .ok (.iadd, 1) := by decide +kernel
theorem dXL_law_215 : decode code 215 = .ok (.iaload, 1) := by decide +kernel
theorem dXL_law_216 : decode code 216 = .ok (.aload_n 3, 1) := by decide +kernel
theorem dXL_law_217 : decode code 217 = .ok (.invokestatic 81, 3) := by decide +kernel
theorem dXL_law_220 : decode code 220 = .ok (.istore 5, 2) := by decide +kernel
theorem dXL_law_222 : decode code 222 = .ok (.aload_n 2, 1) := by decide +kernel
theorem dXL_law_223 : decode code 223 = .ok (.aload_n 0, 1) := by decide +kernel
theorem dXL_law_224 : decode code 224 = .ok (.iload 4, 2) := by decide +kernel
theorem dXL_law_226 : decode code 226 = .ok (.iconst 1, 1) := by decide +kernel
theorem dXL_law_227 : decode code 227 = .ok (.iadd, 1) := by decide +kernel
theorem dXL_law_228 : decode code 228 = .ok (.iaload, 1) := by decide +kernel
theorem dXL_law_229 : decode code 229 = .ok (.aload_n 0, 1) := by decide +kernel
theorem dXL_law_230 : decode code 230 = .ok (.iload 4, 2) := by decide +kernel
theorem dXL_law_232 : decode code 232 = .ok (.iconst 2, 1) := by decide +kernel
theorem dXL_law_233 : decode code 233 = .ok (.iadd, 1) := by decide +kernel
theorem dXL_law_234 : decode code 234 = .ok (.iaload, 1) := by decide +kernel
theorem dXL_law_235 : decode code 235 = .ok (.aload_n 0, 1) := by decide +kernel
theorem dXL_law_236 : decode code 236 = .ok (.iload 4, 2) := by decide +kernel
theorem dXL_law_238 : decode code 238 = .ok (.iconst 3, 1) := by decide +kernel
theorem dXL_law_239 : decode code 239 = .ok (.iadd, 1) := by decide +kernel
theorem dXL_law_240 : decode code 240 = .ok (.iaload, 1) := by decide +kernel
theorem dXL_law_241 : decode code 241 = .ok (.invokevirtual 84, 3) := by decide +kernel

