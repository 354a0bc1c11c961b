theorem dX8_init_0 : decode cX8_init 0 = .ok (.aload_n 0, 1) := by decide +kernel
theorem dX8_init_1 : decode cX8_init 1 = .ok (.invokespecial 1, 3) := by decide +kernel
theorem dX8_init_4 : decode cX8_init 4 = .ok (.aload_n 0, 1) := by decide +kernel
theorem dX8_init_5 : decode cX8_init 5 = .ok (.sipush 200, 3) := by decide +kernel
theorem dX8_init_8 : decode cX8_init 8 = .ok (.newarray .byte, 2) := by decide +kernel
theorem dX8_init_10 : decode cX8_init 10 = .ok (.putfield 7, 3) := by decide +kernel
theorem dX8_init_13 : decode cX8_init 13 = .ok (.aload_n 0, 1) := by decide +kernel
theorem dX8_init_14 : decode cX8_init 14 = .ok (.bipush 124, 2) := by decide +kernel
theorem dX8_init_16 : decode cX8_init 16 = .ok (.newarray .int, 2) := by decide +kernel
theorem dX8_init_18 : decode cX8_init 18 = .ok (.putfield 13, 3) := by decide +kernel
theorem dX8_init_21 : decode cX8_init 21 = .ok (.aload_n 0, 1) := by decide +kernel
theorem dX8_init_22 : decode cX8_init 22 = .ok (.bipush 124, 2) := by decide +kernel
theorem dX8_init_24 : decode cX8_init 24 = .ok (.newarray .int, 2) := by decide +kernel
theorem dX8_init_26 : decode cX8_init 26 = .ok (.putfield 17, 3) := by decide +kernel
theorem dX8_init_29 : decode cX8_init 29 = .ok (.aload_n 0, 1) := by decide +kernel
theorem dX8_init_30 : decode cX8_init 30 = .ok (.sipush 744, 3) := by decide +kernel
theorem dX8_init_33 : decode cX8_init 33 = .ok (.newarray .int, 2) := by decide +kernel
theorem dX8_init_35 : decode cX8_init 35 = .ok (.putfield 20, 3) := by decide +kernel
theorem dX8_init_38 : decode cX8_init 38 = .ok (.aload_n 0, 1) := by decide +kernel
theorem dX8_init_39 : decode cX8_init 39 = .ok (.bipush 124, 2) := by decide +kernel
theorem dX8_init_41 : decode cX8_init 41 = .ok (.newarray .int, 2) := by decide +kernel
theorem dX8_init_43 : decode cX8_init 43 = .ok (.putfield 23, 3) := by decide +kernel
theorem dX8_init_46 : decode cX8_init 46 = .ok (.aload_n 0, 1) := by decide +kernel
theorem dX8_init_47 : decode cX8_init 47 = .ok (.iconst 4, 1) := by decide +kernel
theorem dX8_init_48 : decode cX8_init 48 = .ok (.newarray .int, 2) := by decide +kernel
theorem dX8_init_50 : decode cX8_init 50 = .ok (.putfield 26, 3) := by decide +kernel
theorem dX8_init_53 : decode cX8_init 53 = .ok (.aload_n 0, 1) := by decide +kernel
theorem dX8_init_54 : decode cX8_init 54 = .ok (.bipush 10, 2) := by decide +kernel
theorem dX8_init_56 : decode cX8_init 56 = .ok (.newarray .boolean, 2) := by decide +kernel
theorem dX8_init_58 : decode cX8_init 58 = .ok (.putfield 29, 3) := by decide +kernel
theorem dX8_init_61 : decode cX8_init 61 = .ok (.aload_n 0, 1) := by decide +kernel
theorem dX8_init_62 : decode cX8_init 62 = .ok (.bipush 40, 2) := by decide +kernel
theorem dX8_init_64 : decode cX8_init 64 = .ok (.newarray .long, 2) := by decide +kernel
theorem dX8_init_66 : decode cX8_init 66 = .ok (.putfield 33, 3) := by decide +kernel
theorem dX8_init_69 : decode cX8_init 69 = .ok (.aload_n 0, 1) := by decide +kernel
theorem dX8_init_70 : decode cX8_init 70 = .ok (.bipush 10, 2) := by decide +kernel
theorem dX8_init_72 : decode cX8_init 72 = .ok (.newarray .int, 2) := by decide +kernel
theorem dX8_init_74 : decode cX8_init 74 = .ok (.putfield 37, 3) := by decide +kernel
theorem dX8_init_77 : decode cX8_init 77 = .ok (.aload_n 0, 1) := by decide +kernel
theorem dX8_init_78 : decode cX8_init 78 = .ok (.bipush 30, 2) := by decide +kernel
theorem dX8_init_80 : decode cX8_init 80 = .ok (.newarray .long, 2) := by decide +kernel
theorem dX8_init_82 : decode cX8_init 82 = .ok (.putfield 40, 3) := by decide +kernel
theorem dX8_init_85 : decode cX8_init 85 = .ok (.aload_n 0, 1) := by decide +kernel
theorem dX8_init_86 : decode cX8_init 86 = .ok (.bipush 30, 2) := by decide +kernel
theorem dX8_init_88 : decode cX8_init 88 = .ok (.newarray .int, 2) := by decide +kernel
theorem dX8_init_90 : decode cX8_init 90 = .ok (.putfield 43, 3) := by decide +kernel
theorem dX8_init_93 : decode cX8_init 93 = .ok (.aload_n 0, 1) := by decide +kernel
theorem dX8_init_94 : decode cX8_init 94 = .ok (.bipush 14, 2) := by decide +kernel
theorem dX8_init_96 : decode cX8_init 96 = .ok (.newarray .int, 2) := by decide +kernel
theorem dX8_init_98 : decode cX8_init 98 = .ok (.putfield 46, 3) := by decide +kernel
theorem dX8_init_101 : decode cX8_init 101 = .ok (.aload_n 0, 1) := by decide +kernel
theorem dX8_init_102 : decode cX8_init 102 = .ok (.bipush 14, 2) := by decide +kernel
theorem dX8_init_104 : decode cX8_init 104 = .ok (.newarray .int, 2) := by decide +kernel
theorem dX8_init_106 : decode cX8_init 106 = .ok (.putfield 49, 3) := by decide +kernel
theorem dX8_init_109 : decode cX8_init 109 = .ok (.aload_n 0, 1) := by decide +kernel
theorem dX8_init_110 : decode cX8_init 110 = .ok (.bipush 14, 2) := by decide +kernel
theorem dX8_init_112 : decode cX8_init 112 = .ok (.newarray .int, 2) := by decide +kernel
theorem dX8_init_114 : decode cX8_init 114 = .ok (.putfield 52, 3) := by decide +kernel
theorem dX8_init_117 : decode cX8_init 117 = .ok (.aload_n 0, 1) := by decide +kernel
theorem dX8_init_118 : decode cX8_init 118 = .ok (.sipush 16384, 3) := by decide +kernel
theorem dX8_init_121 : decode cX8_init 121 = .ok (.newarray .int, 2) := by decide +kernel
theorem dX8_init_123 : decode cX8_init 123 = .ok (.putfield 55, 3) := by decide +kernel
theorem dX8_init_126 : decode cX8_init 126 = .ok (.aload_n 0, 1) := by decide +kernel
theorem dX8_init_127 : decode cX8_init 127 = .ok (.sipush 16384, 3) := by decide +kernel
theorem dX8_init_130 : decode cX8_init 130 = .ok (.newarray .int, 2) := by decide +kernel
theorem dX8_init_132 : decode cX8_init 132 = .ok (.putfield 58, 3) := by decide +kernel
theorem dX8_init_135 : decode cX8_init 135 = .ok (.aload_n 0, 1) := by decide +kernel
theorem dX8_init_136 : decode cX8_init 136 = .ok (.getfield 13, 3) := by decide +kernel
theorem dX8_init_139 : decode cX8_init 139 = .ok (.iconst 0, 1) := by decide +kernel
theorem dX8_init_140 : decode cX8_init 140 = .ok (.bipush 6, 2) := by decide +kernel
theorem dX8_init_142 : decode cX8_init 142 = .ok (.iastore, 1) := by decide +kernel
theorem dX8_init_143 : decode cX8_init 143 = .ok (.aload_n 0, 1) := by decide +kernel
theorem dX8_init_144 : decode cX8_init 144 = .ok (.iconst 0, 1) := by decide +kernel
theorem dX8_init_145 : decode cX8_init 145 = .ok (.iconst 0, 1) := by decide +kernel
theorem dX8_init_146 : decode cX8_init 146 = .ok (.iconst 0, 1) := by decide +kernel
theorem dX8_init_147 : decode cX8_init 147 = .ok (.bipush 10, 2) := by decide +kernel
theorem dX8_init_149 : decode cX8_init 149 = .ok (.invokevirtual 61, 3) := by decide +kernel
theorem dX8_init_152 : decode cX8_init 152 = .ok (.aload_n 0, 1) := by decide +kernel
theorem dX8_init_153 : decode cX8_init 153 = .ok (.iconst 1, 1) := by decide +kernel
theorem dX8_init_154 : decode cX8_init 154 = .ok (.bipush 40, 2) := by decide +kernel
theorem dX8_init_156 : decode cX8_init 156 = .ok (.iconst 0, 1) := by decide +kernel
theorem dX8_init_157 : decode cX8_init 157 = .ok (.bipush 30, 2) := by decide +kernel
theorem dX8_init_159 : decode cX8_init 159 = .ok (.invokevirtual 61, 3) := by decide +kernel
theorem dX8_init_162 : decode cX8_init 162 = .ok (.aload_n 0, 1) := by decide +kernel
theorem dX8_init_163 : decode cX8_init 163 = .ok (.iconst 2, 1) := by decide +kernel
theorem dX8_init_164 : decode cX8_init 164 = .ok (.iconst 0, 1) := by decide +kernel
theorem dX8_init_165 : decode cX8_init 165 = .ok (.bipush 40, 2) := by decide +kernel
theorem dX8_init_167 : decode cX8_init 167 = .ok (.bipush 20, 2) := by decide +kernel
theorem dX8_init_169 : decode cX8_init 169 = .ok (.invokevirtual 61, 3) := by decide +kernel
theorem dX8_init_172 : decode cX8_init 172 = .ok (.aload_n 0, 1) := by decide +kernel
theorem dX8_init_173 : decode cX8_init 173 = .ok (.iconst 3, 1) := by decide +kernel
theorem dX8_init_174 : decode cX8_init 174 = .ok (.bipush 40, 2) := by decide +kernel
theorem dX8_init_176 : decode cX8_init 176 = .ok (.bipush 40, 2) := by decide +kernel
theorem dX8_init_178 : decode cX8_init 178 = .ok (.iconst 5, 1) := by decide +kernel
theorem dX8_init_179 : decode cX8_init 179 = .ok (.invokevirtual 61, 3) := by decide +kernel
theorem dX8_init_182 : decode cX8_init 182 = .ok (.aload_n 0, 1) := by decide +kernel
theorem dX8_init_183 : decode cX8_init 183 = .ok (.getfield 13, 3) := by decide +kernel
theorem dX8_init_186 : decode cX8_init 186 = .ok (.bipush 8, 2) := by decide +kernel
theorem dX8_init_188 : decode cX8_init 188 = .ok (.iconst 1, 1) := by decide +kernel
theorem dX8_init_189 : decode cX8_init 189 = .ok (.iastore, 1) := by decide +kernel
theorem dX8_init_190 : decode cX8_init 190 = .ok (.aload_n 0, 1) := by decide +kernel
theorem dX8_init_191 : decode cX8_init 191 = .ok (.getfield 13, 3) := by decide +kernel
theorem dX8_init_194 : decode cX8_init 194 = .ok (.bipush 9, 2) := by decide +kernel
theorem dX8_init_196 : decode cX8_init 196 = .ok (.iconst 1, 1) := by decide +kernel
theorem dX8_init_197 : decode cX8_init 197 = .ok (.iastore, 1) := by decide +kernel
theorem dX8_init_198 : decode cX8_init 198 = .ok (.aload_n 0, 1) := by decide +kernel
theorem dX8_init_199 : decode cX8_init 199 = .ok (.getfield 13, 3) := by decide +kernel
theorem dX8_init_202 : decode cX8_init 202 = .ok (.bipush 49, 2) := by decide +kernel
theorem dX8_init_204 : decode cX8_init 204 = .ok (.bipush (-5), 2) := by decide +kernel
theorem dX8_init_206 : decode cX8_init 206 = .ok (.iastore, 1) := by decide +kernel
theorem dX8_init_207 : decode cX8_init 207 = .ok (.aload_n 0, 1) := by decide +kernel
theorem dX8_init_208 : decode cX8_init 208 = .ok (.getfield 13, 3) := by decide +kernel
theorem dX8_init_211 : decode cX8_init 211 = .ok (.iconst 1, 1) := by decide +kernel
theorem dX8_init_212 : decode cX8_init 212 = .ok (.iconst 5, 1) := by decide +kernel
theorem dX8_init_213 : decode cX8_init 213 = .ok (.iastore, 1) := by decide +kernel
theorem dX8_init_214 : decode cX8_init 214 = .ok (.aload_n 0, 1) := by decide +kernel
theorem dX8_init_215 : decode cX8_init 215 = .ok (.iconst 0, 1) := by decide +kernel
theorem dX8_init_216 : decode cX8_init 216 = .ok (.iconst 0, 1) := by decide +kernel
theorem dX8_init_217 : decode cX8_init 217 = .ok (.iconst 4, 1) := by decide +kernel
theorem dX8_init_218 : decode cX8_init 218 = .ok (.iconst 1, 1) := by decide +kernel
theorem dX8_init_219 : decode cX8_init 219 = .ok (.bipush 30, 2) := by decide +kernel
theorem dX8_init_221 : decode cX8_init 221 = .ok (.invokevirtual 65, 3) := by decide +kernel
theorem dX8_init_224 : decode cX8_init 224 = .ok (.aload_n 0, 1) := by decide +kernel
theorem dX8_init_225 : decode cX8_init 225 = .ok (.iconst 1, 1) := by decide +kernel
theorem dX8_init_226 : decode cX8_init 226 = .ok (.iconst 1, 1) := by decide +kernel
theorem dX8_init_227 : decode cX8_init 227 = .ok (.iconst 4, 1) := by decide +kernel
theorem dX8_init_228 : decode cX8_init 228 = .ok (.iconst 2, 1) := by decide +kernel
theorem dX8_init_229 : decode cX8_init 229 = .ok (.iconst 0, 1) := by decide +kernel
theorem dX8_init_230 : decode cX8_init 230 = .ok (.invokevirtual 65, 3) := by decide +kernel
theorem dX8_init_233 : decode cX8_init 233 = .ok (.aload_n 0, 1) := by decide +kernel
theorem dX8_init_234 : decode cX8_init 234 = .ok (.iconst 2, 1) := by decide +kernel
theorem dX8_init_235 : decode cX8_init 235 = .ok (.iconst 4, 1) := by decide +kernel
theorem dX8_init_236 : decode cX8_init 236 = .ok (.iconst 5, 1) := by decide +kernel
theorem dX8_init_237 : decode cX8_init 237 = .ok (.iconst 3, 1) := by decide +kernel
theorem dX8_init_238 : decode cX8_init 238 = .ok (.bipush 18, 2) := by decide +kernel
theorem dX8_init_240 : decode cX8_init 240 = .ok (.invokevirtual 65, 3) := by decide +kernel
theorem dX8_init_243 : decode cX8_init 243 = .ok (.aload_n 0, 1) := by decide +kernel
theorem dX8_init_244 : decode cX8_init 244 = .ok (.iconst 3, 1) := by decide +kernel
theorem dX8_init_245 : decode cX8_init 245 = .ok (.iconst 2, 1) := by decide +kernel
theorem dX8_init_246 : decode cX8_init 246 = .ok (.iconst 5, 1) := by decide +kernel
theorem dX8_init_247 : decode cX8_init 247 = .ok (.iconst 1, 1) := by decide +kernel
theorem dX8_init_248 : decode cX8_init 248 = .ok (.bipush 25, 2) := by decide +kernel
theorem dX8_init_250 : decode cX8_init 250 = .ok (.invokevirtual 65, 3) := by decide +kernel
theorem dX8_init_253 : decode cX8_init 253 = .ok (.aload_n 0, 1) := by decide +kernel
theorem dX8_init_254 : decode cX8_init 254 = .ok (.iconst 4, 1) := by decide +kernel
theorem dX8_init_255 : decode cX8_init 255 = .ok (.iconst 3, 1) := by decide +kernel
theorem dX8_init_256 : decode cX8_init 256 = .ok (.iconst 5, 1) := by decide +kernel
theorem dX8_init_257 : decode cX8_init 257 = .ok (.iconst 2, 1) := by decide +kernel
theorem dX8_init_258 : decode cX8_init 258 = .ok (.bipush 30, 2) := by decide +kernel
theorem dX8_init_260 : decode cX8_init 260 = .ok (.invokevirtual 65, 3) := by decide +kernel
theorem dX8_init_263 : decode cX8_init 263 = .ok (.aload_n 0, 1) := by decide +kernel
theorem dX8_init_264 : decode cX8_init 264 = .ok (.getfield 13, 3) := by decide +kernel
theorem dX8_init_267 : decode cX8_init 267 = .ok (.iconst 2, 1) := by decide +kernel
theorem dX8_init_268 : decode cX8_init 268 = .ok (.bipush 60, 2) := by decide +kernel
theorem dX8_init_270 : decode cX8_init 270 = .ok (.iastore, 1) := by decide +kernel
theorem dX8_init_271 : decode cX8_init 271 = .ok (.aload_n 0, 1) := by decide +kernel
theorem dX8_init_272 : decode cX8_init 272 = .ok (.getfield 13, 3) := by decide +kernel
theorem dX8_init_275 : decode cX8_init 275 = .ok (.iconst 3, 1) := by decide +kernel
theorem dX8_init_276 : decode cX8_init 276 = .ok (.iconst 5, 1) := by decide +kernel
theorem dX8_init_277 : decode cX8_init 277 = .ok (.iastore, 1) := by decide +kernel
theorem dX8_init_278 : decode cX8_init 278 = .ok (.return_, 1) := by decide +kernel
theorem dX8_fixes_0 : decode cX8_fixes 0 = .ok (.aload_n 0, 1) := by decide +kernel
theorem dX8_fixes_1 : decode cX8_fixes 1 = .ok (.getfield 13, 3) := by decide +kernel
theorem dX8_fixes_4 : decode cX8_fixes 4 = .ok (.bipush 14, 2) := by decide +kernel
theorem dX8_fixes_6 : decode cX8_fixes 6 = .ok (.iconst 3, 1) := by decide +kernel
theorem dX8_fixes_7 : decode cX8_fixes 7 = .ok (.iload_n 1, 1) := by decide +kernel
theorem dX8_fixes_8 : decode cX8_fixes 8 = .ok (.imul, 1) := by decide +kernel
theorem dX8_fixes_9 : decode cX8_fixes 9 = .ok (.iadd, 1) := by decide +kernel
theorem dX8_fixes_10 : decode cX8_fixes 10 = .ok (.iload_n 2, 1) := by decide +kernel
theorem dX8_fixes_11 : decode cX8_fixes 11 = .ok (.iastore, 1) := by decide +kernel
theorem dX8_fixes_12 : decode cX8_fixes 12 = .ok (.aload_n 0, 1) := by decide +kernel
theorem dX8_fixes_13 : decode cX8_fixes 13 = .ok (.getfield 13, 3) := by decide +kernel
theorem dX8_fixes_16 : decode cX8_fixes 16 = .ok (.bipush 14, 2) := by decide +kernel
theorem dX8_fixes_18 : decode cX8_fixes 18 = .ok (.iconst 3, 1) := by decide +kernel
theorem dX8_fixes_19 : decode cX8_fixes 19 = .ok (.iload_n 1, 1) := by decide +kernel
theorem dX8_fixes_20 : decode cX8_fixes 20 = .ok (.imul, 1) := by decide +kernel
theorem dX8_fixes_21 : decode cX8_fixes 21 = .ok (.iadd, 1) := by decide +kernel
theorem dX8_fixes_22 : decode cX8_fixes 22 = .ok (.iconst 1, 1) := by decide +kernel
theorem dX8_fixes_23 : decode cX8_fixes 23 = .ok (.iadd, 1) := by decide +kernel
theorem dX8_fixes_24 : decode cX8_fixes 24 = .ok (.iload_n 3, 1) := by decide +kernel
theorem dX8_fixes_25 : decode cX8_fixes 25 = .ok (.iastore, 1) := by decide +kernel
theorem dX8_fixes_26 : decode cX8_fixes 26 = .ok (.aload_n 0, 1) := by decide +kernel
theorem dX8_fixes_27 : decode cX8_fixes 27 = .ok (.getfield 13, 3) := by decide +kernel
theorem dX8_fixes_30 : decode cX8_fixes 30 = .ok (.bipush 14, 2) := by decide +kernel
theorem dX8_fixes_32 : decode cX8_fixes 32 = .ok (.iconst 3, 1) := by decide +kernel
theorem dX8_fixes_33 : decode cX8_fixes 33 = .ok (.iload_n 1, 1) := by decide +kernel
theorem dX8_fixes_34 : decode cX8_fixes 34 = .ok (.imul, 1) := by decide +kernel
theorem dX8_fixes_35 : decode cX8_fixes 35 = .ok (.iadd, 1) := by decide +kernel
theorem dX8_fixes_36 : decode cX8_fixes 36 = .ok (.iconst 2, 1) := by decide +kernel
theorem dX8_fixes_37 : decode cX8_fixes 37 = .ok (.iadd, 1) := by decide +kernel
theorem dX8_fixes_38 : decode cX8_fixes 38 = .ok (.iload 4, 2) := by decide +kernel
theorem dX8_fixes_40 : decode cX8_fixes 40 = .ok (.iastore, 1) := by decide +kernel
theorem dX8_fixes_41 : decode cX8_fixes 41 = .ok (.return_, 1) := by decide +kernel
theorem dX8_ties_0 : decode cX8_ties 0 = .ok (.aload_n 0, 1) := by decide +kernel
theorem dX8_ties_1 : decode cX8_ties 1 = .ok (.getfield 13, 3) := by decide +kernel
theorem dX8_ties_4 : decode cX8_ties 4 = .ok (.bipush 54, 2) := by decide +kernel
theorem dX8_ties_6 : decode cX8_ties 6 = .ok (.iconst 5, 1) := by decide +kernel
theorem dX8_ties_7 : decode cX8_ties 7 = .ok (.iload_n 1, 1) := by decide +kernel
theorem dX8_ties_8 : decode cX8_ties 8 = .ok (.imul, 1) := by decide +kernel
theorem dX8_ties_9 : decode cX8_ties 9 = .ok (.iadd, 1) := by decide +kernel
theorem dX8_ties_10 : decode cX8_ties 10 = .ok (.iload_n 2, 1) := by decide +kernel
theorem dX8_ties_11 : decode cX8_ties 11 = .ok (.iastore, 1) := by decide +kernel
theorem dX8_ties_12 : decode cX8_ties 12 = .ok (.aload_n 0, 1) := by decide +kernel
theorem dX8_ties_13 : decode cX8_ties 13 = .ok (.getfield 13, 3) := by decide +kernel
theorem dX8_ties_16 : decode cX8_ties 16 = .ok (.bipush 54, 2) := by decide +kernel
theorem dX8_ties_18 : decode cX8_ties 18 = .ok (.iconst 5, 1) := by decide +kernel
theorem dX8_ties_19 : decode cX8_ties 19 = .ok (.iload_n 1, 1) := by decide +kernel
theorem dX8_ties_20 : decode cX8_ties 20 = .ok (.imul, 1) := by decide +kernel
theorem dX8_ties_21 : decode cX8_ties 21 = .ok (.iadd, 1) := by decide +kernel
theorem dX8_ties_22 : decode cX8_ties 22 = .ok (.iconst 1, 1) := by decide +kernel
theorem dX8_ties_23 : decode cX8_ties 23 = .ok (.iadd, 1) := by decide +kernel
theorem dX8_ties_24 : decode cX8_ties 24 = .ok (.iload_n 3, 1) := by decide +kernel
theorem dX8_ties_25 : decode cX8_ties 25 = .ok (.iastore, 1) := by decide +kernel
theorem dX8_ties_26 : decode cX8_ties 26 = .ok (.aload_n 0, 1) := by decide +kernel
theorem dX8_ties_27 : decode cX8_ties 27 = .ok (.getfield 13, 3) := by decide +kernel
theorem dX8_ties_30 : decode cX8_ties 30 = .ok (.bipush 54, 2) := by decide +kernel
theorem dX8_ties_32 : decode cX8_ties 32 = .ok (.iconst 5, 1) := by decide +kernel
theorem dX8_ties_33 : decode cX8_ties 33 = .ok (.iload_n 1, 1) := by decide +kernel
theorem dX8_ties_34 : decode cX8_ties 34 = .ok (.imul, 1) := by decide +kernel
theorem dX8_ties_35 : decode cX8_ties 35 = .ok (.iadd, 1) := by decide +kernel
theorem dX8_ties_36 : decode cX8_ties 36 = .ok (.iconst 2, 1) := by decide +kernel
theorem dX8_ties_37 : decode cX8_ties 37 = .ok (.iadd, 1) := by decide +kernel
theorem dX8_ties_38 : decode cX8_ties 38 = .ok (.iload 4, 2) := by decide +kernel
theorem dX8_ties_40 : decode cX8_ties 40 = .ok (.iastore, 1) := by decide +kernel
theorem dX8_ties_41 : decode cX8_ties 41 = .ok (.aload_n 0, 1) := by decide +kernel
theorem dX8_ties_42 : decode cX8_ties 42 = .ok (.getfield 13, 3) := by decide +kernel
theorem dX8_ties_45 : decode cX8_ties 45 = .ok (.bipush 54, 2) := by decide +kernel
theorem dX8_ties_47 : decode cX8_ties 47 = .ok (.iconst 5, 1) := by decide +kernel
theorem dX8_ties_48 : decode cX8_ties 48 = .ok (.iload_n 1, 1) := by decide +kernel
theorem dX8_ties_49 : decode cX8_ties 49 = .ok (.imul, 1) := by decide +kernel
theorem dX8_ties_50 : decode cX8_ties 50 = .ok (.iadd, 1) := by decide +kernel
theorem dX8_ties_51 : decode cX8_ties 51 = .ok (.iconst 3, 1) := by decide +kernel
theorem dX8_ties_52 : decode cX8_ties 52 = .ok (.iadd, 1) := by decide +kernel
theorem dX8_ties_53 : decode cX8_ties 53 = .ok (.iload 5, 2) := by decide +kernel
theorem dX8_ties_55 : decode cX8_ties 55 = .ok (.iastore, 1) := by decide +kernel
theorem dX8_ties_56 : decode cX8_ties 56 = .ok (.return_, 1) := by decide +kernel
theorem dX8_in_0 : decode cX8_in 0 = .ok (.iload_n 0, 1) := by decide +kernel
theorem dX8_in_1 : decode cX8_in 1 = .ok (.iload_n 1, 1) := by decide +kernel
theorem dX8_in_2 : decode cX8_in 2 = .ok (.if_icmp .lt 12, 3) := by decide +kernel
theorem dX8_in_5 : decode cX8_in 5 = .ok (.iload_n 0, 1) := by decide +kernel
theorem dX8_in_6 : decode cX8_in 6 = .ok (.iload_n 2, 1) := by decide +kernel
theorem dX8_in_7 : decode cX8_in 7 = .ok (.if_icmp .gt 7, 3) := by decide +kernel
theorem dX8_in_10 : decode cX8_in 10 = .ok (.iconst 1, 1) := by decide +kernel
theorem dX8_in_11 : decode cX8_in 11 = .ok (.goto 4, 3) := by decide +kernel
theorem dX8_in_14 : decode cX8_in 14 = .ok (.iconst 0, 1) := by decide +kernel
theorem dX8_in_15 : decode cX8_in 15 = .ok (.ireturn, 1) := by decide +kernel
theorem dX8_write_0 : decode cX8_write 0 = .ok (.aload_n 0, 1) := by decide +kernel
theorem dX8_write_1 : decode cX8_write 1 = .ok (.iconst 0, 1) := by decide +kernel
theorem dX8_write_2 : decode cX8_write 2 = .ok (.putfield 69, 3) := by decide +kernel
theorem dX8_write_5 : decode cX8_write 5 = .ok (.iload_n 1, 1) := by decide +kernel
theorem dX8_write_6 : decode cX8_write 6 = .ok (.bipush 32, 2) := by decide +kernel
theorem dX8_write_8 : decode cX8_write 8 = .ok (.bipush 126, 2) := by decide +kernel
theorem dX8_write_10 : decode cX8_write 10 = .ok (.invokestatic 73, 3) := by decide +kernel
theorem dX8_write_13 : decode cX8_write 13 = .ok (.ifCond .ne 5, 3) := by decide +kernel
theorem dX8_write_16 : decode cX8_write 16 = .ok (.iconst (-1), 1) := by decide +kernel
theorem dX8_write_17 : decode cX8_write 17 = .ok (.ireturn, 1) := by decide +kernel
theorem dX8_write_18 : decode cX8_write 18 = .ok (.aload_n 0, 1) := by decide +kernel
theorem dX8_write_19 : decode cX8_write 19 = .ok (.getfield 77, 3) := by decide +kernel
theorem dX8_write_22 : decode cX8_write 22 = .ok (.sipush 200, 3) := by decide +kernel
theorem dX8_write_25 : decode cX8_write 25 = .ok (.if_icmp .ne 6, 3) := by decide +kernel
theorem dX8_write_28 : decode cX8_write 28 = .ok (.bipush (-3), 2) := by decide +kernel
theorem dX8_write_30 : decode cX8_write 30 = .ok (.ireturn, 1) := by decide +kernel
theorem dX8_write_31 : decode cX8_write 31 = .ok (.aload_n 0, 1) := by decide +kernel
theorem dX8_write_32 : decode cX8_write 32 = .ok (.getfield 7, 3) := by decide +kernel
theorem dX8_write_35 : decode cX8_write 35 = .ok (.aload_n 0, 1) := by decide +kernel
theorem dX8_write_36 : decode cX8_write 36 = .ok (.getfield 77, 3) := by decide +kernel
theorem dX8_write_39 : decode cX8_write 39 = .ok (.iload_n 1, 1) := by decide +kernel
theorem dX8_write_40 : decode cX8_write 40 = .ok (.i2b, 1) := by decide +kernel
theorem dX8_write_41 : decode cX8_write 41 = .ok (.bastore, 1) := by decide +kernel
theorem dX8_write_42 : decode cX8_write 42 = .ok (.aload_n 0, 1) := by decide +kernel
theorem dX8_write_43 : decode cX8_write 43 = .ok (.dup, 1) := by decide +kernel
theorem dX8_write_44 : decode cX8_write 44 = .ok (.getfield 77, 3) := by decide +kernel
theorem dX8_write_47 : decode cX8_write 47 = .ok (.iconst 1, 1) := by decide +kernel
theorem dX8_write_48 : decode cX8_write 48 = .ok (.iadd, 1) := by decide +kernel
theorem dX8_write_49 : decode cX8_write 49 = .ok (.putfield 77, 3) := by decide +kernel
theorem dX8_write_52 : decode cX8_write 52 = .ok (.aload_n 0, 1) := by decide +kernel
theorem dX8_write_53 : decode cX8_write 53 = .ok (.getfield 77, 3) := by decide +kernel
theorem dX8_write_56 : decode cX8_write 56 = .ok (.ireturn, 1) := by decide +kernel
theorem dX8_wipe_0 : decode cX8_wipe 0 = .ok (.aload_n 0, 1) := by decide +kernel
theorem dX8_wipe_1 : decode cX8_wipe 1 = .ok (.iconst 0, 1) := by decide +kernel
theorem dX8_wipe_2 : decode cX8_wipe 2 = .ok (.putfield 69, 3) := by decide +kernel
theorem dX8_wipe_5 : decode cX8_wipe 5 = .ok (.aload_n 0, 1) := by decide +kernel
theorem dX8_wipe_6 : decode cX8_wipe 6 = .ok (.getfield 77, 3) := by decide +kernel
theorem dX8_wipe_9 : decode cX8_wipe 9 = .ok (.istore_n 1, 1) := by decide +kernel
theorem dX8_wipe_10 : decode cX8_wipe 10 = .ok (.aload_n 0, 1) := by decide +kernel
theorem dX8_wipe_11 : decode cX8_wipe 11 = .ok (.iconst 0, 1) := by decide +kernel
theorem dX8_wipe_12 : decode cX8_wipe 12 = .ok (.putfield 77, 3) := by decide +kernel
theorem dX8_wipe_15 : decode cX8_wipe 15 = .ok (.iload_n 1, 1) := by decide +kernel
theorem dX8_wipe_16 : decode cX8_wipe 16 = .ok (.ireturn, 1) := by decide +kernel
theorem dX8_isFigure_0 : decode cX8_isFigure 0 = .ok (.iload_n 1, 1) := by decide +kernel
theorem dX8_isFigure_1 : decode cX8_isFigure 1 = .ok (.aload_n 0, 1) := by decide +kernel
theorem dX8_isFigure_2 : decode cX8_isFigure 2 = .ok (.getfield 77, 3) := by decide +kernel
theorem dX8_isFigure_5 : decode cX8_isFigure 5 = .ok (.if_icmp .ge 23, 3) := by decide +kernel
theorem dX8_isFigure_8 : decode cX8_isFigure 8 = .ok (.aload_n 0, 1) := by decide +kernel
theorem dX8_isFigure_9 : decode cX8_isFigure 9 = .ok (.getfield 7, 3) := by decide +kernel
theorem dX8_isFigure_12 : decode cX8_isFigure 12 = .ok (.iload_n 1, 1) := by decide +kernel
theorem dX8_isFigure_13 : decode cX8_isFigure 13 = .ok (.baload, 1) := by decide +kernel
theorem dX8_isFigure_14 : decode cX8_isFigure 14 = .ok (.bipush 48, 2) := by decide +kernel
theorem dX8_isFigure_16 : decode cX8_isFigure 16 = .ok (.bipush 57, 2) := by decide +kernel
theorem dX8_isFigure_18 : decode cX8_isFigure 18 = .ok (.invokestatic 73, 3) := by decide +kernel
theorem dX8_isFigure_21 : decode cX8_isFigure 21 = .ok (.ifCond .eq 7, 3) := by decide +kernel
theorem dX8_isFigure_24 : decode cX8_isFigure 24 = .ok (.iconst 1, 1) := by decide +kernel
theorem dX8_isFigure_25 : decode cX8_isFigure 25 = .ok (.goto 4, 3) := by decide +kernel
theorem dX8_isFigure_28 : decode cX8_isFigure 28 = .ok (.iconst 0, 1) := by decide +kernel
theorem dX8_isFigure_29 : decode cX8_isFigure 29 = .ok (.ireturn, 1) := by decide +kernel
theorem dX8_takes_0 : decode cX8_takes 0 = .ok (.aload_n 0, 1) := by decide +kernel
theorem dX8_takes_1 : decode cX8_takes 1 = .ok (.getfield 80, 3) := by decide +kernel
theorem dX8_takes_4 : decode cX8_takes 4 = .ok (.aload_n 0, 1) := by decide +kernel
theorem dX8_takes_5 : decode cX8_takes 5 = .ok (.getfield 77, 3) := by decide +kernel
theorem dX8_takes_8 : decode cX8_takes 8 = .ok (.if_icmp .ge 29, 3) := by decide +kernel
theorem dX8_takes_11 : decode cX8_takes 11 = .ok (.aload_n 0, 1) := by decide +kernel
theorem dX8_takes_12 : decode cX8_takes 12 = .ok (.getfield 7, 3) := by decide +kernel
theorem dX8_takes_15 : decode cX8_takes 15 = .ok (.aload_n 0, 1) := by decide +kernel
theorem dX8_takes_16 : decode cX8_takes 16 = .ok (.getfield 80, 3) := by decide +kernel
theorem dX8_takes_19 : decode cX8_takes 19 = .ok (.baload, 1) := by decide +kernel
theorem dX8_takes_20 : decode cX8_takes 20 = .ok (.iload_n 1, 1) := by decide +kernel
theorem dX8_takes_21 : decode cX8_takes 21 = .ok (.if_icmp .ne 16, 3) := by decide +kernel
theorem dX8_takes_24 : decode cX8_takes 24 = .ok (.aload_n 0, 1) := by decide +kernel
theorem dX8_takes_25 : decode cX8_takes 25 = .ok (.dup, 1) := by decide +kernel
theorem dX8_takes_26 : decode cX8_takes 26 = .ok (.getfield 80, 3) := by decide +kernel
theorem dX8_takes_29 : decode cX8_takes 29 = .ok (.iconst 1, 1) := by decide +kernel
theorem dX8_takes_30 : decode cX8_takes 30 = .ok (.iadd, 1) := by decide +kernel
theorem dX8_takes_31 : decode cX8_takes 31 = .ok (.putfield 80, 3) := by decide +kernel
theorem dX8_takes_34 : decode cX8_takes 34 = .ok (.goto 8, 3) := by decide +kernel
theorem dX8_takes_37 : decode cX8_takes 37 = .ok (.aload_n 0, 1) := by decide +kernel
theorem dX8_takes_38 : decode cX8_takes 38 = .ok (.iconst 0, 1) := by decide +kernel
theorem dX8_takes_39 : decode cX8_takes 39 = .ok (.putfield 83, 3) := by decide +kernel
theorem dX8_takes_42 : decode cX8_takes 42 = .ok (.return_, 1) := by decide +kernel
theorem dX8_takesNumber_0 : decode cX8_takesNumber 0 = .ok (.iconst (-1), 1) := by decide +kernel
theorem dX8_takesNumber_1 : decode cX8_takesNumber 1 = .ok (.istore_n 3, 1) := by decide +kernel
theorem dX8_takesNumber_2 : decode cX8_takesNumber 2 = .ok (.aload_n 0, 1) := by decide +kernel
theorem dX8_takesNumber_3 : decode cX8_takesNumber 3 = .ok (.aload_n 0, 1) := by decide +kernel
theorem dX8_takesNumber_4 : decode cX8_takesNumber 4 = .ok (.getfield 80, 3) := by decide +kernel
theorem dX8_takesNumber_7 : decode cX8_takesNumber 7 = .ok (.invokevirtual 87, 3) := by decide +kernel
theorem dX8_takesNumber_10 : decode cX8_takesNumber 10 = .ok (.ifCond .eq 65, 3) := by decide +kernel
theorem dX8_takesNumber_13 : decode cX8_takesNumber 13 = .ok (.aload_n 0, 1) := by decide +kernel
theorem dX8_takesNumber_14 : decode cX8_takesNumber 14 = .ok (.getfield 7, 3) := by decide +kernel
theorem dX8_takesNumber_17 : decode cX8_takesNumber 17 = .ok (.aload_n 0, 1) := by decide +kernel
theorem dX8_takesNumber_18 : decode cX8_takesNumber 18 = .ok (.getfield 80, 3) := by decide +kernel
theorem dX8_takesNumber_21 : decode cX8_takesNumber 21 = .ok (.baload, 1) := by decide +kernel
theorem dX8_takesNumber_22 : decode cX8_takesNumber 22 = .ok (.bipush 48, 2) := by decide +kernel
theorem dX8_takesNumber_24 : decode cX8_takesNumber 24 = .ok (.isub, 1) := by decide +kernel
theorem dX8_takesNumber_25 : decode cX8_takesNumber 25 = .ok (.istore_n 3, 1) := by decide +kernel
theorem dX8_takesNumber_26 : decode cX8_takesNumber 26 = .ok (.aload_n 0, 1) := by decide +kernel
theorem dX8_takesNumber_27 : decode cX8_takesNumber 27 = .ok (.dup, 1) := by decide +kernel
theorem dX8_takesNumber_28 : decode cX8_takesNumber 28 = .ok (.getfield 80, 3) := by decide +kernel
theorem dX8_takesNumber_31 : decode cX8_takesNumber 31 = .ok (.iconst 1, 1) := by decide +kernel
theorem dX8_takesNumber_32 : decode cX8_takesNumber 32 = .ok (.iadd, 1) := by decide +kernel
theorem dX8_takesNumber_33 : decode cX8_takesNumber 33 = .ok (.putfield 80, 3) := by decide +kernel
theorem dX8_takesNumber_36 : decode cX8_takesNumber 36 = .ok (.aload_n 0, 1) := by decide +kernel
theorem dX8_takesNumber_37 : decode cX8_takesNumber 37 = .ok (.aload_n 0, 1) := by decide +kernel
theorem dX8_takesNumber_38 : decode cX8_takesNumber 38 = .ok (.getfield 80, 3) := by decide +kernel
theorem dX8_takesNumber_41 : decode cX8_takesNumber 41 = .ok (.invokevirtual 87, 3) := by decide +kernel
theorem dX8_takesNumber_44 : decode cX8_takesNumber 44 = .ok (.ifCond .eq 31, 3) := by decide +kernel
theorem dX8_takesNumber_47 : decode cX8_takesNumber 47 = .ok (.bipush 10, 2) := by decide +kernel
theorem dX8_takesNumber_49 : decode cX8_takesNumber 49 = .ok (.iload_n 3, 1) := by decide +kernel
theorem dX8_takesNumber_50 : decode cX8_takesNumber 50 = .ok (.imul, 1) := by decide +kernel
theorem dX8_takesNumber_51 : decode cX8_takesNumber 51 = .ok (.aload_n 0, 1) := by decide +kernel
theorem dX8_takesNumber_52 : decode cX8_takesNumber 52 = .ok (.getfield 7, 3) := by decide +kernel
theorem dX8_takesNumber_55 : decode cX8_takesNumber 55 = .ok (.aload_n 0, 1) := by decide +kernel
theorem dX8_takesNumber_56 : decode cX8_takesNumber 56 = .ok (.getfield 80, 3) := by decide +kernel
theorem dX8_takesNumber_59 : decode cX8_takesNumber 59 = .ok (.baload, 1) := by decide +kernel
theorem dX8_takesNumber_60 : decode cX8_takesNumber 60 = .ok (.iadd, 1) := by decide +kernel
theorem dX8_takesNumber_61 : decode cX8_takesNumber 61 = .ok (.bipush 48, 2) := by decide +kernel
theorem dX8_takesNumber_63 : decode cX8_takesNumber 63 = .ok (.isub, 1) := by decide +kernel
theorem dX8_takesNumber_64 : decode cX8_takesNumber 64 = .ok (.istore_n 3, 1) := by decide +kernel
theorem dX8_takesNumber_65 : decode cX8_takesNumber 65 = .ok (.aload_n 0, 1) := by decide +kernel
theorem dX8_takesNumber_66 : decode cX8_takesNumber 66 = .ok (.dup, 1) := by decide +kernel
theorem dX8_takesNumber_67 : decode cX8_takesNumber 67 = .ok (.getfield 80, 3) := by decide +kernel
theorem dX8_takesNumber_70 : decode cX8_takesNumber 70 = .ok (.iconst 1, 1) := by decide +kernel
theorem dX8_takesNumber_71 : decode cX8_takesNumber 71 = .ok (.iadd, 1) := by decide +kernel
theorem dX8_takesNumber_72 : decode cX8_takesNumber 72 = .ok (.putfield 80, 3) := by decide +kernel
theorem dX8_takesNumber_75 : decode cX8_takesNumber 75 = .ok (.aload_n 0, 1) := by decide +kernel
theorem dX8_takesNumber_76 : decode cX8_takesNumber 76 = .ok (.aload_n 0, 1) := by decide +kernel
theorem dX8_takesNumber_77 : decode cX8_takesNumber 77 = .ok (.getfield 83, 3) := by decide +kernel
theorem dX8_takesNumber_80 : decode cX8_takesNumber 80 = .ok (.ifCond .eq 16, 3) := by decide +kernel
theorem dX8_takesNumber_83 : decode cX8_takesNumber 83 = .ok (.iload_n 3, 1) := by decide +kernel
theorem dX8_takesNumber_84 : decode cX8_takesNumber 84 = .ok (.iload_n 1, 1) := by decide +kernel
theorem dX8_takesNumber_85 : decode cX8_takesNumber 85 = .ok (.iload_n 2, 1) := by decide +kernel
theorem dX8_takesNumber_86 : decode cX8_takesNumber 86 = .ok (.invokestatic 73, 3) := by decide +kernel
theorem dX8_takesNumber_89 : decode cX8_takesNumber 89 = .ok (.ifCond .eq 7, 3) := by decide +kernel
theorem dX8_takesNumber_92 : decode cX8_takesNumber 92 = .ok (.iconst 1, 1) := by decide +kernel
theorem dX8_takesNumber_93 : decode cX8_takesNumber 93 = .ok (.goto 4, 3) := by decide +kernel
theorem dX8_takesNumber_96 : decode cX8_takesNumber 96 = .ok (.iconst 0, 1) := by decide +kernel
theorem dX8_takesNumber_97 : decode cX8_takesNumber 97 = .ok (.putfield 83, 3) := by decide +kernel
theorem dX8_takesNumber_100 : decode cX8_takesNumber 100 = .ok (.iload_n 3, 1) := by decide +kernel
theorem dX8_takesNumber_101 : decode cX8_takesNumber 101 = .ok (.ireturn, 1) := by decide +kernel
theorem dX8_takesNumbers_0 : decode cX8_takesNumbers 0 = .ok (.iconst 0, 1) := by decide +kernel
theorem dX8_takesNumbers_1 : decode cX8_takesNumbers 1 = .ok (.istore_n 2, 1) := by decide +kernel
theorem dX8_takesNumbers_2 : decode cX8_takesNumbers 2 = .ok (.iload_n 2, 1) := by decide +kernel
theorem dX8_takesNumbers_3 : decode cX8_takesNumbers 3 = .ok (.iload_n 1, 1) := by decide +kernel
theorem dX8_takesNumbers_4 : decode cX8_takesNumbers 4 = .ok (.if_icmp .ge 32, 3) := by decide +kernel
theorem dX8_takesNumbers_7 : decode cX8_takesNumbers 7 = .ok (.iload_n 2, 1) := by decide +kernel
theorem dX8_takesNumbers_8 : decode cX8_takesNumbers 8 = .ok (.ifCond .le 9, 3) := by decide +kernel
theorem dX8_takesNumbers_11 : decode cX8_takesNumbers 11 = .ok (.aload_n 0, 1) := by decide +kernel
theorem dX8_takesNumbers_12 : decode cX8_takesNumbers 12 = .ok (.bipush 44, 2) := by decide +kernel
theorem dX8_takesNumbers_14 : decode cX8_takesNumbers 14 = .ok (.invokevirtual 91, 3) := by decide +kernel
theorem dX8_takesNumbers_17 : decode cX8_takesNumbers 17 = .ok (.aload_n 0, 1) := by decide +kernel
theorem dX8_takesNumbers_18 : decode cX8_takesNumbers 18 = .ok (.getfield 26, 3) := by decide +kernel
theorem dX8_takesNumbers_21 : decode cX8_takesNumbers 21 = .ok (.iload_n 2, 1) := by decide +kernel
theorem dX8_takesNumbers_22 : decode cX8_takesNumbers 22 = .ok (.aload_n 0, 1) := by decide +kernel
theorem dX8_takesNumbers_23 : decode cX8_takesNumbers 23 = .ok (.iconst 0, 1) := by decide +kernel
theorem dX8_takesNumbers_24 : decode cX8_takesNumbers 24 = .ok (.bipush 99, 2) := by decide +kernel
theorem dX8_takesNumbers_26 : decode cX8_takesNumbers 26 = .ok (.invokevirtual 95, 3) := by decide +kernel
theorem dX8_takesNumbers_29 : decode cX8_takesNumbers 29 = .ok (.iastore, 1) := by decide +kernel
theorem dX8_takesNumbers_30 : decode cX8_takesNumbers 30 = .ok (.iinc 2 1, 3) := by decide +kernel
theorem dX8_takesNumbers_33 : decode cX8_takesNumbers 33 = .ok (.goto (-31), 3) := by decide +kernel
theorem dX8_takesNumbers_36 : decode cX8_takesNumbers 36 = .ok (.aload_n 0, 1) := by decide +kernel
theorem dX8_takesNumbers_37 : decode cX8_takesNumbers 37 = .ok (.bipush 59, 2) := by decide +kernel
theorem dX8_takesNumbers_39 : decode cX8_takesNumbers 39 = .ok (.invokevirtual 91, 3) := by decide +kernel
theorem dX8_takesNumbers_42 : decode cX8_takesNumbers 42 = .ok (.return_, 1) := by decide +kernel
theorem dX8_draftFrees_0 : decode cX8_draftFrees 0 = .ok (.iconst 0, 1) := by decide +kernel
theorem dX8_draftFrees_1 : decode cX8_draftFrees 1 = .ok (.istore_n 1, 1) := by decide +kernel
theorem dX8_draftFrees_2 : decode cX8_draftFrees 2 = .ok (.iconst 0, 1) := by decide +kernel
theorem dX8_draftFrees_3 : decode cX8_draftFrees 3 = .ok (.istore_n 2, 1) := by decide +kernel
theorem dX8_draftFrees_4 : decode cX8_draftFrees 4 = .ok (.iload_n 2, 1) := by decide +kernel
theorem dX8_draftFrees_5 : decode cX8_draftFrees 5 = .ok (.aload_n 0, 1) := by decide +kernel
theorem dX8_draftFrees_6 : decode cX8_draftFrees 6 = .ok (.getfield 17, 3) := by decide +kernel
theorem dX8_draftFrees_9 : decode cX8_draftFrees 9 = .ok (.iconst 0, 1) := by decide +kernel
theorem dX8_draftFrees_10 : decode cX8_draftFrees 10 = .ok (.iaload, 1) := by decide +kernel
theorem dX8_draftFrees_11 : decode cX8_draftFrees 11 = .ok (.if_icmp .ge 20, 3) := by decide +kernel
theorem dX8_draftFrees_14 : decode cX8_draftFrees 14 = .ok (.iload_n 1, 1) := by decide +kernel
theorem dX8_draftFrees_15 : decode cX8_draftFrees 15 = .ok (.aload_n 0, 1) := by decide +kernel
theorem dX8_draftFrees_16 : decode cX8_draftFrees 16 = .ok (.getfield 17, 3) := by decide +kernel
theorem dX8_draftFrees_19 : decode cX8_draftFrees 19 = .ok (.iconst 4, 1) := by decide +kernel
theorem dX8_draftFrees_20 : decode cX8_draftFrees 20 = .ok (.iload_n 2, 1) := by decide +kernel
theorem dX8_draftFrees_21 : decode cX8_draftFrees 21 = .ok (.iadd, 1) := by decide +kernel
theorem dX8_draftFrees_22 : decode cX8_draftFrees 22 = .ok (.iaload, 1) := by decide +kernel
theorem dX8_draftFrees_23 : decode cX8_draftFrees 23 = .ok (.iadd, 1) := by decide +kernel
theorem dX8_draftFrees_24 : decode cX8_draftFrees 24 = .ok (.istore_n 1, 1) := by decide +kernel
theorem dX8_draftFrees_25 : decode cX8_draftFrees 25 = .ok (.iinc 2 1, 3) := by decide +kernel
theorem dX8_draftFrees_28 : decode cX8_draftFrees 28 = .ok (.goto (-24), 3) := by decide +kernel
theorem dX8_draftFrees_31 : decode cX8_draftFrees 31 = .ok (.iload_n 1, 1) := by decide +kernel
theorem dX8_draftFrees_32 : decode cX8_draftFrees 32 = .ok (.ireturn, 1) := by decide +kernel
theorem dX8_takesFixed_0 : decode cX8_takesFixed 0 = .ok (.aload_n 0, 1) := by decide +kernel
theorem dX8_takesFixed_1 : decode cX8_takesFixed 1 = .ok (.iconst 3, 1) := by decide +kernel
theorem dX8_takesFixed_2 : decode cX8_takesFixed 2 = .ok (.invokevirtual 99, 3) := by decide +kernel
theorem dX8_takesFixed_5 : decode cX8_takesFixed 5 = .ok (.aload_n 0, 1) := by decide +kernel
theorem dX8_takesFixed_6 : decode cX8_takesFixed 6 = .ok (.aload_n 0, 1) := by decide +kernel
theorem dX8_takesFixed_7 : decode cX8_takesFixed 7 = .ok (.getfield 83, 3) := by decide +kernel
theorem dX8_takesFixed_10 : decode cX8_takesFixed 10 = .ok (.ifCond .eq 51, 3) := by decide +kernel
theorem dX8_takesFixed_13 : decode cX8_takesFixed 13 = .ok (.aload_n 0, 1) := by decide +kernel
theorem dX8_takesFixed_14 : decode cX8_takesFixed 14 = .ok (.getfield 17, 3) := by decide +kernel
theorem dX8_takesFixed_17 : decode cX8_takesFixed 17 = .ok (.iconst 0, 1) := by decide +kernel
theorem dX8_takesFixed_18 : decode cX8_takesFixed 18 = .ok (.iaload, 1) := by decide +kernel
theorem dX8_takesFixed_19 : decode cX8_takesFixed 19 = .ok (.bipush 10, 2) := by decide +kernel
theorem dX8_takesFixed_21 : decode cX8_takesFixed 21 = .ok (.if_icmp .ge 40, 3) := by decide +kernel
theorem dX8_takesFixed_24 : decode cX8_takesFixed 24 = .ok (.aload_n 0, 1) := by decide +kernel
theorem dX8_takesFixed_25 : decode cX8_takesFixed 25 = .ok (.getfield 26, 3) := by decide +kernel
theorem dX8_takesFixed_28 : decode cX8_takesFixed 28 = .ok (.iconst 0, 1) := by decide +kernel
theorem dX8_takesFixed_29 : decode cX8_takesFixed 29 = .ok (.iaload, 1) := by decide +kernel
theorem dX8_takesFixed_30 : decode cX8_takesFixed 30 = .ok (.bipush 60, 2) := by decide +kernel
theorem dX8_takesFixed_32 : decode cX8_takesFixed 32 = .ok (.if_icmp .gt 29, 3) := by decide +kernel
theorem dX8_takesFixed_35 : decode cX8_takesFixed 35 = .ok (.aload_n 0, 1) := by decide +kernel
theorem dX8_takesFixed_36 : decode cX8_takesFixed 36 = .ok (.getfield 26, 3) := by decide +kernel
theorem dX8_takesFixed_39 : decode cX8_takesFixed 39 = .ok (.iconst 1, 1) := by decide +kernel
theorem dX8_takesFixed_40 : decode cX8_takesFixed 40 = .ok (.iaload, 1) := by decide +kernel
theorem dX8_takesFixed_41 : decode cX8_takesFixed 41 = .ok (.bipush 60, 2) := by decide +kernel
theorem dX8_takesFixed_43 : decode cX8_takesFixed 43 = .ok (.if_icmp .gt 18, 3) := by decide +kernel
theorem dX8_takesFixed_46 : decode cX8_takesFixed 46 = .ok (.aload_n 0, 1) := by decide +kernel
theorem dX8_takesFixed_47 : decode cX8_takesFixed 47 = .ok (.getfield 26, 3) := by decide +kernel
theorem dX8_takesFixed_50 : decode cX8_takesFixed 50 = .ok (.iconst 2, 1) := by decide +kernel
theorem dX8_takesFixed_51 : decode cX8_takesFixed 51 = .ok (.iaload, 1) := by decide +kernel
theorem dX8_takesFixed_52 : decode cX8_takesFixed 52 = .ok (.bipush 60, 2) := by decide +kernel
theorem dX8_takesFixed_54 : decode cX8_takesFixed 54 = .ok (.if_icmp .gt 7, 3) := by decide +kernel
theorem dX8_takesFixed_57 : decode cX8_takesFixed 57 = .ok (.iconst 1, 1) := by decide +kernel
theorem dX8_takesFixed_58 : decode cX8_takesFixed 58 = .ok (.goto 4, 3) := by decide +kernel
theorem dX8_takesFixed_61 : decode cX8_takesFixed 61 = .ok (.iconst 0, 1) := by decide +kernel
theorem dX8_takesFixed_62 : decode cX8_takesFixed 62 = .ok (.putfield 83, 3) := by decide +kernel
theorem dX8_takesFixed_65 : decode cX8_takesFixed 65 = .ok (.aload_n 0, 1) := by decide +kernel
theorem dX8_takesFixed_66 : decode cX8_takesFixed 66 = .ok (.getfield 83, 3) := by decide +kernel
theorem dX8_takesFixed_69 : decode cX8_takesFixed 69 = .ok (.ifCond .eq 71, 3) := by decide +kernel
theorem dX8_takesFixed_72 : decode cX8_takesFixed 72 = .ok (.aload_n 0, 1) := by decide +kernel
theorem dX8_takesFixed_73 : decode cX8_takesFixed 73 = .ok (.getfield 17, 3) := by decide +kernel
theorem dX8_takesFixed_76 : decode cX8_takesFixed 76 = .ok (.iconst 0, 1) := by decide +kernel
theorem dX8_takesFixed_77 : decode cX8_takesFixed 77 = .ok (.iaload, 1) := by decide +kernel
theorem dX8_takesFixed_78 : decode cX8_takesFixed 78 = .ok (.istore_n 1, 1) := by decide +kernel
theorem dX8_takesFixed_79 : decode cX8_takesFixed 79 = .ok (.aload_n 0, 1) := by decide +kernel
theorem dX8_takesFixed_80 : decode cX8_takesFixed 80 = .ok (.getfield 17, 3) := by decide +kernel
theorem dX8_takesFixed_83 : decode cX8_takesFixed 83 = .ok (.iconst 4, 1) := by decide +kernel
theorem dX8_takesFixed_84 : decode cX8_takesFixed 84 = .ok (.iload_n 1, 1) := by decide +kernel
theorem dX8_takesFixed_85 : decode cX8_takesFixed 85 = .ok (.iadd, 1) := by decide +kernel
theorem dX8_takesFixed_86 : decode cX8_takesFixed 86 = .ok (.iconst 0, 1) := by decide +kernel
theorem dX8_takesFixed_87 : decode cX8_takesFixed 87 = .ok (.iastore, 1) := by decide +kernel
theorem dX8_takesFixed_88 : decode cX8_takesFixed 88 = .ok (.aload_n 0, 1) := by decide +kernel
theorem dX8_takesFixed_89 : decode cX8_takesFixed 89 = .ok (.getfield 17, 3) := by decide +kernel
theorem dX8_takesFixed_92 : decode cX8_takesFixed 92 = .ok (.bipush 44, 2) := by decide +kernel
theorem dX8_takesFixed_94 : decode cX8_takesFixed 94 = .ok (.iload_n 1, 1) := by decide +kernel
theorem dX8_takesFixed_95 : decode cX8_takesFixed 95 = .ok (.iadd, 1) := by decide +kernel
theorem dX8_takesFixed_96 : decode cX8_takesFixed 96 = .ok (.iconst 0, 1) := by decide +kernel
theorem dX8_takesFixed_97 : decode cX8_takesFixed 97 = .ok (.iastore, 1) := by decide +kernel
theorem dX8_takesFixed_98 : decode cX8_takesFixed 98 = .ok (.iconst 0, 1) := by decide +kernel
theorem dX8_takesFixed_99 : decode cX8_takesFixed 99 = .ok (.istore_n 2, 1) := by decide +kernel
theorem dX8_takesFixed_100 : decode cX8_takesFixed 100 = .ok (.iload_n 2, 1) := by decide +kernel
theorem dX8_takesFixed_101 : decode cX8_takesFixed 101 = .ok (.iconst 3, 1) := by decide +kernel
theorem dX8_takesFixed_102 : decode cX8_takesFixed 102 = .ok (.if_icmp .ge 28, 3) := by decide +kernel
theorem dX8_takesFixed_105 : decode cX8_takesFixed 105 = .ok (.aload_n 0, 1) := by decide +kernel
theorem dX8_takesFixed_106 : decode cX8_takesFixed 106 = .ok (.getfield 17, 3) := by decide +kernel
theorem dX8_takesFixed_109 : decode cX8_takesFixed 109 = .ok (.bipush 14, 2) := by decide +kernel
theorem dX8_takesFixed_111 : decode cX8_takesFixed 111 = .ok (.iconst 3, 1) := by decide +kernel
theorem dX8_takesFixed_112 : decode cX8_takesFixed 112 = .ok (.iload_n 1, 1) := by decide +kernel
theorem dX8_takesFixed_113 : decode cX8_takesFixed 113 = .ok (.imul, 1) := by decide +kernel
theorem dX8_takesFixed_114 : decode cX8_takesFixed 114 = .ok (.iadd, 1) := by decide +kernel
theorem dX8_takesFixed_115 : decode cX8_takesFixed 115 = .ok (.iload_n 2, 1) := by decide +kernel
theorem dX8_takesFixed_116 : decode cX8_takesFixed 116 = .ok (.iadd, 1) := by decide +kernel
theorem dX8_takesFixed_117 : decode cX8_takesFixed 117 = .ok (.aload_n 0, 1) := by decide +kernel
theorem dX8_takesFixed_118 : decode cX8_takesFixed 118 = .ok (.getfield 26, 3) := by decide +kernel
theorem dX8_takesFixed_121 : decode cX8_takesFixed 121 = .ok (.iload_n 2, 1) := by decide +kernel
theorem dX8_takesFixed_122 : decode cX8_takesFixed 122 = .ok (.iaload, 1) := by decide +kernel
theorem dX8_takesFixed_123 : decode cX8_takesFixed 123 = .ok (.iastore, 1) := by decide +kernel
theorem dX8_takesFixed_124 : decode cX8_takesFixed 124 = .ok (.iinc 2 1, 3) := by decide +kernel
theorem dX8_takesFixed_127 : decode cX8_takesFixed 127 = .ok (.goto (-27), 3) := by decide +kernel
theorem dX8_takesFixed_130 : decode cX8_takesFixed 130 = .ok (.aload_n 0, 1) := by decide +kernel
theorem dX8_takesFixed_131 : decode cX8_takesFixed 131 = .ok (.getfield 17, 3) := by decide +kernel
theorem dX8_takesFixed_134 : decode cX8_takesFixed 134 = .ok (.iconst 0, 1) := by decide +kernel
theorem dX8_takesFixed_135 : decode cX8_takesFixed 135 = .ok (.dup2, 1) := by decide +kernel
theorem dX8_takesFixed_136 : decode cX8_takesFixed 136 = .ok (.iaload, 1) := by decide +kernel
theorem dX8_takesFixed_137 : decode cX8_takesFixed 137 = .ok (.iconst 1, 1) := by decide +kernel
theorem dX8_takesFixed_138 : decode cX8_takesFixed 138 = .ok (.iadd, 1) := by decide +kernel
theorem dX8_takesFixed_139 : decode cX8_takesFixed 139 = .ok (.iastore, 1) := by decide +kernel
theorem dX8_takesFixed_140 : decode cX8_takesFixed 140 = .ok (.return_, 1) := by decide +kernel
theorem dX8_takesFree_0 : decode cX8_takesFree 0 = .ok (.aload_n 0, 1) := by decide +kernel
theorem dX8_takesFree_1 : decode cX8_takesFree 1 = .ok (.iconst 1, 1) := by decide +kernel
theorem dX8_takesFree_2 : decode cX8_takesFree 2 = .ok (.invokevirtual 99, 3) := by decide +kernel
theorem dX8_takesFree_5 : decode cX8_takesFree 5 = .ok (.aload_n 0, 1) := by decide +kernel
theorem dX8_takesFree_6 : decode cX8_takesFree 6 = .ok (.aload_n 0, 1) := by decide +kernel
theorem dX8_takesFree_7 : decode cX8_takesFree 7 = .ok (.getfield 83, 3) := by decide +kernel
theorem dX8_takesFree_10 : decode cX8_takesFree 10 = .ok (.ifCond .eq 37, 3) := by decide +kernel
theorem dX8_takesFree_13 : decode cX8_takesFree 13 = .ok (.aload_n 0, 1) := by decide +kernel
theorem dX8_takesFree_14 : decode cX8_takesFree 14 = .ok (.getfield 17, 3) := by decide +kernel
theorem dX8_takesFree_17 : decode cX8_takesFree 17 = .ok (.iconst 0, 1) := by decide +kernel
theorem dX8_takesFree_18 : decode cX8_takesFree 18 = .ok (.iaload, 1) := by decide +kernel
theorem dX8_takesFree_19 : decode cX8_takesFree 19 = .ok (.bipush 10, 2) := by decide +kernel
theorem dX8_takesFree_21 : decode cX8_takesFree 21 = .ok (.if_icmp .ge 26, 3) := by decide +kernel
theorem dX8_takesFree_24 : decode cX8_takesFree 24 = .ok (.aload_n 0, 1) := by decide +kernel
theorem dX8_takesFree_25 : decode cX8_takesFree 25 = .ok (.invokevirtual 102, 3) := by decide +kernel
theorem dX8_takesFree_28 : decode cX8_takesFree 28 = .ok (.iconst 5, 1) := by decide +kernel
theorem dX8_takesFree_29 : decode cX8_takesFree 29 = .ok (.if_icmp .ge 18, 3) := by decide +kernel
theorem dX8_takesFree_32 : decode cX8_takesFree 32 = .ok (.aload_n 0, 1) := by decide +kernel
theorem dX8_takesFree_33 : decode cX8_takesFree 33 = .ok (.getfield 26, 3) := by decide +kernel
theorem dX8_takesFree_36 : decode cX8_takesFree 36 = .ok (.iconst 0, 1) := by decide +kernel
theorem dX8_takesFree_37 : decode cX8_takesFree 37 = .ok (.iaload, 1) := by decide +kernel
theorem dX8_takesFree_38 : decode cX8_takesFree 38 = .ok (.bipush 18, 2) := by decide +kernel
theorem dX8_takesFree_40 : decode cX8_takesFree 40 = .ok (.if_icmp .gt 7, 3) := by decide +kernel
theorem dX8_takesFree_43 : decode cX8_takesFree 43 = .ok (.iconst 1, 1) := by decide +kernel
theorem dX8_takesFree_44 : decode cX8_takesFree 44 = .ok (.goto 4, 3) := by decide +kernel
theorem dX8_takesFree_47 : decode cX8_takesFree 47 = .ok (.iconst 0, 1) := by decide +kernel
theorem dX8_takesFree_48 : decode cX8_takesFree 48 = .ok (.putfield 83, 3) := by decide +kernel
theorem dX8_takesFree_51 : decode cX8_takesFree 51 = .ok (.aload_n 0, 1) := by decide +kernel
theorem dX8_takesFree_52 : decode cX8_takesFree 52 = .ok (.getfield 83, 3) := by decide +kernel
theorem dX8_takesFree_55 : decode cX8_takesFree 55 = .ok (.ifCond .eq 74, 3) := by decide +kernel
theorem dX8_takesFree_58 : decode cX8_takesFree 58 = .ok (.aload_n 0, 1) := by decide +kernel
theorem dX8_takesFree_59 : decode cX8_takesFree 59 = .ok (.getfield 17, 3) := by decide +kernel
theorem dX8_takesFree_62 : decode cX8_takesFree 62 = .ok (.iconst 0, 1) := by decide +kernel
theorem dX8_takesFree_63 : decode cX8_takesFree 63 = .ok (.iaload, 1) := by decide +kernel
theorem dX8_takesFree_64 : decode cX8_takesFree 64 = .ok (.istore_n 1, 1) := by decide +kernel
theorem dX8_takesFree_65 : decode cX8_takesFree 65 = .ok (.aload_n 0, 1) := by decide +kernel
theorem dX8_takesFree_66 : decode cX8_takesFree 66 = .ok (.getfield 17, 3) := by decide +kernel
theorem dX8_takesFree_69 : decode cX8_takesFree 69 = .ok (.iconst 4, 1) := by decide +kernel
theorem dX8_takesFree_70 : decode cX8_takesFree 70 = .ok (.iload_n 1, 1) := by decide +kernel
theorem dX8_takesFree_71 : decode cX8_takesFree 71 = .ok (.iadd, 1) := by decide +kernel
theorem dX8_takesFree_72 : decode cX8_takesFree 72 = .ok (.iconst 1, 1) := by decide +kernel
theorem dX8_takesFree_73 : decode cX8_takesFree 73 = .ok (.iastore, 1) := by decide +kernel
theorem dX8_takesFree_74 : decode cX8_takesFree 74 = .ok (.aload_n 0, 1) := by decide +kernel
theorem dX8_takesFree_75 : decode cX8_takesFree 75 = .ok (.getfield 17, 3) := by decide +kernel
theorem dX8_takesFree_78 : decode cX8_takesFree 78 = .ok (.bipush 44, 2) := by decide +kernel
theorem dX8_takesFree_80 : decode cX8_takesFree 80 = .ok (.iload_n 1, 1) := by decide +kernel
theorem dX8_takesFree_81 : decode cX8_takesFree 81 = .ok (.iadd, 1) := by decide +kernel
theorem dX8_takesFree_82 : decode cX8_takesFree 82 = .ok (.aload_n 0, 1) := by decide +kernel
theorem dX8_takesFree_83 : decode cX8_takesFree 83 = .ok (.getfield 26, 3) := by decide +kernel
theorem dX8_takesFree_86 : decode cX8_takesFree 86 = .ok (.iconst 0, 1) := by decide +kernel
theorem dX8_takesFree_87 : decode cX8_takesFree 87 = .ok (.iaload, 1) := by decide +kernel
theorem dX8_takesFree_88 : decode cX8_takesFree 88 = .ok (.bipush 9, 2) := by decide +kernel
theorem dX8_takesFree_90 : decode cX8_takesFree 90 = .ok (.isub, 1) := by decide +kernel
theorem dX8_takesFree_91 : decode cX8_takesFree 91 = .ok (.iastore, 1) := by decide +kernel
theorem dX8_takesFree_92 : decode cX8_takesFree 92 = .ok (.iconst 0, 1) := by decide +kernel
theorem dX8_takesFree_93 : decode cX8_takesFree 93 = .ok (.istore_n 2, 1) := by decide +kernel
theorem dX8_takesFree_94 : decode cX8_takesFree 94 = .ok (.iload_n 2, 1) := by decide +kernel
theorem dX8_takesFree_95 : decode cX8_takesFree 95 = .ok (.iconst 3, 1) := by decide +kernel
theorem dX8_takesFree_96 : decode cX8_takesFree 96 = .ok (.if_icmp .ge 23, 3) := by decide +kernel
theorem dX8_takesFree_99 : decode cX8_takesFree 99 = .ok (.aload_n 0, 1) := by decide +kernel
theorem dX8_takesFree_100 : decode cX8_takesFree 100 = .ok (.getfield 17, 3) := by decide +kernel
theorem dX8_takesFree_103 : decode cX8_takesFree 103 = .ok (.bipush 14, 2) := by decide +kernel
theorem dX8_takesFree_105 : decode cX8_takesFree 105 = .ok (.iconst 3, 1) := by decide +kernel
theorem dX8_takesFree_106 : decode cX8_takesFree 106 = .ok (.iload_n 1, 1) := by decide +kernel
theorem dX8_takesFree_107 : decode cX8_takesFree 107 = .ok (.imul, 1) := by decide +kernel
theorem dX8_takesFree_108 : decode cX8_takesFree 108 = .ok (.iadd, 1) := by decide +kernel
theorem dX8_takesFree_109 : decode cX8_takesFree 109 = .ok (.iload_n 2, 1) := by decide +kernel
theorem dX8_takesFree_110 : decode cX8_takesFree 110 = .ok (.iadd, 1) := by decide +kernel
theorem dX8_takesFree_111 : decode cX8_takesFree 111 = .ok (.iconst 0, 1) := by decide +kernel
theorem dX8_takesFree_112 : decode cX8_takesFree 112 = .ok (.iastore, 1) := by decide +kernel
theorem dX8_takesFree_113 : decode cX8_takesFree 113 = .ok (.iinc 2 1, 3) := by decide +kernel
theorem dX8_takesFree_116 : decode cX8_takesFree 116 = .ok (.goto (-22), 3) := by decide +kernel
theorem dX8_takesFree_119 : decode cX8_takesFree 119 = .ok (.aload_n 0, 1) := by decide +kernel
theorem dX8_takesFree_120 : decode cX8_takesFree 120 = .ok (.getfield 17, 3) := by decide +kernel
theorem dX8_takesFree_123 : decode cX8_takesFree 123 = .ok (.iconst 0, 1) := by decide +kernel
theorem dX8_takesFree_124 : decode cX8_takesFree 124 = .ok (.dup2, 1) := by decide +kernel
theorem dX8_takesFree_125 : decode cX8_takesFree 125 = .ok (.iaload, 1) := by decide +kernel
theorem dX8_takesFree_126 : decode cX8_takesFree 126 = .ok (.iconst 1, 1) := by decide +kernel
theorem dX8_takesFree_127 : decode cX8_takesFree 127 = .ok (.iadd, 1) := by decide +kernel
theorem dX8_takesFree_128 : decode cX8_takesFree 128 = .ok (.iastore, 1) := by decide +kernel
theorem dX8_takesFree_129 : decode cX8_takesFree 129 = .ok (.return_, 1) := by decide +kernel
theorem dX8_hasRoom_0 : decode cX8_hasRoom 0 = .ok (.iconst 0, 1) := by decide +kernel
theorem dX8_hasRoom_1 : decode cX8_hasRoom 1 = .ok (.istore_n 2, 1) := by decide +kernel
theorem dX8_hasRoom_2 : decode cX8_hasRoom 2 = .ok (.iconst 0, 1) := by decide +kernel
theorem dX8_hasRoom_3 : decode cX8_hasRoom 3 = .ok (.istore_n 3, 1) := by decide +kernel
theorem dX8_hasRoom_4 : decode cX8_hasRoom 4 = .ok (.iload_n 3, 1) := by decide +kernel
theorem dX8_hasRoom_5 : decode cX8_hasRoom 5 = .ok (.aload_n 0, 1) := by decide +kernel
theorem dX8_hasRoom_6 : decode cX8_hasRoom 6 = .ok (.getfield 17, 3) := by decide +kernel
theorem dX8_hasRoom_9 : decode cX8_hasRoom 9 = .ok (.iconst 1, 1) := by decide +kernel
theorem dX8_hasRoom_10 : decode cX8_hasRoom 10 = .ok (.iaload, 1) := by decide +kernel
theorem dX8_hasRoom_11 : decode cX8_hasRoom 11 = .ok (.if_icmp .ge 49, 3) := by decide +kernel
theorem dX8_hasRoom_14 : decode cX8_hasRoom 14 = .ok (.iload_n 2, 1) := by decide +kernel
theorem dX8_hasRoom_15 : decode cX8_hasRoom 15 = .ok (.aload_n 0, 1) := by decide +kernel
theorem dX8_hasRoom_16 : decode cX8_hasRoom 16 = .ok (.getfield 17, 3) := by decide +kernel
theorem dX8_hasRoom_19 : decode cX8_hasRoom 19 = .ok (.bipush 54, 2) := by decide +kernel
theorem dX8_hasRoom_21 : decode cX8_hasRoom 21 = .ok (.iconst 5, 1) := by decide +kernel
theorem dX8_hasRoom_22 : decode cX8_hasRoom 22 = .ok (.iload_n 3, 1) := by decide +kernel
theorem dX8_hasRoom_23 : decode cX8_hasRoom 23 = .ok (.imul, 1) := by decide +kernel
theorem dX8_hasRoom_24 : decode cX8_hasRoom 24 = .ok (.iadd, 1) := by decide +kernel
theorem dX8_hasRoom_25 : decode cX8_hasRoom 25 = .ok (.iaload, 1) := by decide +kernel
theorem dX8_hasRoom_26 : decode cX8_hasRoom 26 = .ok (.iload_n 1, 1) := by decide +kernel
theorem dX8_hasRoom_27 : decode cX8_hasRoom 27 = .ok (.if_icmp .eq 20, 3) := by decide +kernel
theorem dX8_hasRoom_30 : decode cX8_hasRoom 30 = .ok (.aload_n 0, 1) := by decide +kernel
theorem dX8_hasRoom_31 : decode cX8_hasRoom 31 = .ok (.getfield 17, 3) := by decide +kernel
theorem dX8_hasRoom_34 : decode cX8_hasRoom 34 = .ok (.bipush 54, 2) := by decide +kernel
theorem dX8_hasRoom_36 : decode cX8_hasRoom 36 = .ok (.iconst 5, 1) := by decide +kernel
theorem dX8_hasRoom_37 : decode cX8_hasRoom 37 = .ok (.iload_n 3, 1) := by decide +kernel
theorem dX8_hasRoom_38 : decode cX8_hasRoom 38 = .ok (.imul, 1) := by decide +kernel
theorem dX8_hasRoom_39 : decode cX8_hasRoom 39 = .ok (.iadd, 1) := by decide +kernel
theorem dX8_hasRoom_40 : decode cX8_hasRoom 40 = .ok (.iconst 1, 1) := by decide +kernel
theorem dX8_hasRoom_41 : decode cX8_hasRoom 41 = .ok (.iadd, 1) := by decide +kernel
theorem dX8_hasRoom_42 : decode cX8_hasRoom 42 = .ok (.iaload, 1) := by decide +kernel
theorem dX8_hasRoom_43 : decode cX8_hasRoom 43 = .ok (.iload_n 1, 1) := by decide +kernel
theorem dX8_hasRoom_44 : decode cX8_hasRoom 44 = .ok (.if_icmp .ne 7, 3) := by decide +kernel
theorem dX8_hasRoom_47 : decode cX8_hasRoom 47 = .ok (.iconst 1, 1) := by decide +kernel
theorem dX8_hasRoom_48 : decode cX8_hasRoom 48 = .ok (.goto 4, 3) := by decide +kernel
theorem dX8_hasRoom_51 : decode cX8_hasRoom 51 = .ok (.iconst 0, 1) := by decide +kernel
theorem dX8_hasRoom_52 : decode cX8_hasRoom 52 = .ok (.iadd, 1) := by decide +kernel
theorem dX8_hasRoom_53 : decode cX8_hasRoom 53 = .ok (.istore_n 2, 1) := by decide +kernel
theorem dX8_hasRoom_54 : decode cX8_hasRoom 54 = .ok (.iinc 3 1, 3) := by decide +kernel
theorem dX8_hasRoom_57 : decode cX8_hasRoom 57 = .ok (.goto (-53), 3) := by decide +kernel
theorem dX8_hasRoom_60 : decode cX8_hasRoom 60 = .ok (.aload_n 0, 1) := by decide +kernel
theorem dX8_hasRoom_61 : decode cX8_hasRoom 61 = .ok (.getfield 17, 3) := by decide +kernel
theorem dX8_hasRoom_64 : decode cX8_hasRoom 64 = .ok (.iconst 4, 1) := by decide +kernel
theorem dX8_hasRoom_65 : decode cX8_hasRoom 65 = .ok (.iload_n 1, 1) := by decide +kernel
theorem dX8_hasRoom_66 : decode cX8_hasRoom 66 = .ok (.iadd, 1) := by decide +kernel
theorem dX8_hasRoom_67 : decode cX8_hasRoom 67 = .ok (.iaload, 1) := by decide +kernel
theorem dX8_hasRoom_68 : decode cX8_hasRoom 68 = .ok (.ifCond .eq 8, 3) := by decide +kernel
theorem dX8_hasRoom_71 : decode cX8_hasRoom 71 = .ok (.iload_n 2, 1) := by decide +kernel
theorem dX8_hasRoom_72 : decode cX8_hasRoom 72 = .ok (.iconst 4, 1) := by decide +kernel
theorem dX8_hasRoom_73 : decode cX8_hasRoom 73 = .ok (.if_icmp .ge 7, 3) := by decide +kernel
theorem dX8_hasRoom_76 : decode cX8_hasRoom 76 = .ok (.iconst 1, 1) := by decide +kernel
theorem dX8_hasRoom_77 : decode cX8_hasRoom 77 = .ok (.goto 4, 3) := by decide +kernel
theorem dX8_hasRoom_80 : decode cX8_hasRoom 80 = .ok (.iconst 0, 1) := by decide +kernel
theorem dX8_hasRoom_81 : decode cX8_hasRoom 81 = .ok (.ireturn, 1) := by decide +kernel
theorem dX8_isTied_0 : decode cX8_isTied 0 = .ok (.iconst 0, 1) := by decide +kernel
theorem dX8_isTied_1 : decode cX8_isTied 1 = .ok (.istore_n 3, 1) := by decide +kernel
theorem dX8_isTied_2 : decode cX8_isTied 2 = .ok (.iconst 0, 1) := by decide +kernel
theorem dX8_isTied_3 : decode cX8_isTied 3 = .ok (.istore 4, 2) := by decide +kernel
theorem dX8_isTied_5 : decode cX8_isTied 5 = .ok (.iload 4, 2) := by decide +kernel
theorem dX8_isTied_7 : decode cX8_isTied 7 = .ok (.aload_n 0, 1) := by decide +kernel
theorem dX8_isTied_8 : decode cX8_isTied 8 = .ok (.getfield 17, 3) := by decide +kernel
theorem dX8_isTied_11 : decode cX8_isTied 11 = .ok (.iconst 1, 1) := by decide +kernel
theorem dX8_isTied_12 : decode cX8_isTied 12 = .ok (.iaload, 1) := by decide +kernel
theorem dX8_isTied_13 : decode cX8_isTied 13 = .ok (.if_icmp .ge 73, 3) := by decide +kernel
theorem dX8_isTied_16 : decode cX8_isTied 16 = .ok (.aload_n 0, 1) := by decide +kernel
theorem dX8_isTied_17 : decode cX8_isTied 17 = .ok (.getfield 17, 3) := by decide +kernel
theorem dX8_isTied_20 : decode cX8_isTied 20 = .ok (.bipush 54, 2) := by decide +kernel
theorem dX8_isTied_22 : decode cX8_isTied 22 = .ok (.iconst 5, 1) := by decide +kernel
theorem dX8_isTied_23 : decode cX8_isTied 23 = .ok (.iload 4, 2) := by decide +kernel
theorem dX8_isTied_25 : decode cX8_isTied 25 = .ok (.imul, 1) := by decide +kernel
theorem dX8_isTied_26 : decode cX8_isTied 26 = .ok (.iadd, 1) := by decide +kernel
theorem dX8_isTied_27 : decode cX8_isTied 27 = .ok (.iaload, 1) := by decide +kernel
theorem dX8_isTied_28 : decode cX8_isTied 28 = .ok (.istore 5, 2) := by decide +kernel
theorem dX8_isTied_30 : decode cX8_isTied 30 = .ok (.aload_n 0, 1) := by decide +kernel
theorem dX8_isTied_31 : decode cX8_isTied 31 = .ok (.getfield 17, 3) := by decide +kernel
theorem dX8_isTied_34 : decode cX8_isTied 34 = .ok (.bipush 54, 2) := by decide +kernel
theorem dX8_isTied_36 : decode cX8_isTied 36 = .ok (.iconst 5, 1) := by decide +kernel
theorem dX8_isTied_37 : decode cX8_isTied 37 = .ok (.iload 4, 2) := by decide +kernel
theorem dX8_isTied_39 : decode cX8_isTied 39 = .ok (.imul, 1) := by decide +kernel
theorem dX8_isTied_40 : decode cX8_isTied 40 = .ok (.iadd, 1) := by decide +kernel
theorem dX8_isTied_41 : decode cX8_isTied 41 = .ok (.iconst 1, 1) := by decide +kernel
theorem dX8_isTied_42 : decode cX8_isTied 42 = .ok (.iadd, 1) := by decide +kernel
theorem dX8_isTied_43 : decode cX8_isTied 43 = .ok (.iaload, 1) := by decide +kernel
theorem dX8_isTied_44 : decode cX8_isTied 44 = .ok (.istore 6, 2) := by decide +kernel
theorem dX8_isTied_46 : decode cX8_isTied 46 = .ok (.iload_n 3, 1) := by decide +kernel
theorem dX8_isTied_47 : decode cX8_isTied 47 = .ok (.ifCond .ne 27, 3) := by decide +kernel
theorem dX8_isTied_50 : decode cX8_isTied 50 = .ok (.iload 5, 2) := by decide +kernel
theorem dX8_isTied_52 : decode cX8_isTied 52 = .ok (.iload_n 1, 1) := by decide +kernel
theorem dX8_isTied_53 : decode cX8_isTied 53 = .ok (.if_icmp .ne 9, 3) := by decide +kernel
theorem dX8_isTied_56 : decode cX8_isTied 56 = .ok (.iload 6, 2) := by decide +kernel
theorem dX8_isTied_58 : decode cX8_isTied 58 = .ok (.iload_n 2, 1) := by decide +kernel
theorem dX8_isTied_59 : decode cX8_isTied 59 = .ok (.if_icmp .eq 15, 3) := by decide +kernel
theorem dX8_isTied_62 : decode cX8_isTied 62 = .ok (.iload 5, 2) := by decide +kernel
theorem dX8_isTied_64 : decode cX8_isTied 64 = .ok (.iload_n 2, 1) := by decide +kernel
theorem dX8_isTied_65 : decode cX8_isTied 65 = .ok (.if_icmp .ne 13, 3) := by decide +kernel
theorem dX8_isTied_68 : decode cX8_isTied 68 = .ok (.iload 6, 2) := by decide +kernel
theorem dX8_isTied_70 : decode cX8_isTied 70 = .ok (.iload_n 1, 1) := by decide +kernel
theorem dX8_isTied_71 : decode cX8_isTied 71 = .ok (.if_icmp .ne 7, 3) := by decide +kernel
theorem dX8_isTied_74 : decode cX8_isTied 74 = .ok (.iconst 1, 1) := by decide +kernel
theorem dX8_isTied_75 : decode cX8_isTied 75 = .ok (.goto 4, 3) := by decide +kernel
theorem dX8_isTied_78 : decode cX8_isTied 78 = .ok (.iconst 0, 1) := by decide +kernel
theorem dX8_isTied_79 : decode cX8_isTied 79 = .ok (.istore_n 3, 1) := by decide +kernel
theorem dX8_isTied_80 : decode cX8_isTied 80 = .ok (.iinc 4 1, 3) := by decide +kernel
theorem dX8_isTied_83 : decode cX8_isTied 83 = .ok (.goto (-78), 3) := by decide +kernel
theorem dX8_isTied_86 : decode cX8_isTied 86 = .ok (.iload_n 3, 1) := by decide +kernel
theorem dX8_isTied_87 : decode cX8_isTied 87 = .ok (.ireturn, 1) := by decide +kernel
theorem dX8_takesStrand_0 : decode cX8_takesStrand 0 = .ok (.aload_n 0, 1) := by decide +kernel
theorem dX8_takesStrand_1 : decode cX8_takesStrand 1 = .ok (.iconst 4, 1) := by decide +kernel
theorem dX8_takesStrand_2 : decode cX8_takesStrand 2 = .ok (.invokevirtual 99, 3) := by decide +kernel
theorem dX8_takesStrand_5 : decode cX8_takesStrand 5 = .ok (.aload_n 0, 1) := by decide +kernel
theorem dX8_takesStrand_6 : decode cX8_takesStrand 6 = .ok (.getfield 26, 3) := by decide +kernel
theorem dX8_takesStrand_9 : decode cX8_takesStrand 9 = .ok (.iconst 0, 1) := by decide +kernel
theorem dX8_takesStrand_10 : decode cX8_takesStrand 10 = .ok (.iaload, 1) := by decide +kernel
theorem dX8_takesStrand_11 : decode cX8_takesStrand 11 = .ok (.istore_n 1, 1) := by decide +kernel
theorem dX8_takesStrand_12 : decode cX8_takesStrand 12 = .ok (.aload_n 0, 1) := by decide +kernel
theorem dX8_takesStrand_13 : decode cX8_takesStrand 13 = .ok (.getfield 26, 3) := by decide +kernel
theorem dX8_takesStrand_16 : decode cX8_takesStrand 16 = .ok (.iconst 1, 1) := by decide +kernel
theorem dX8_takesStrand_17 : decode cX8_takesStrand 17 = .ok (.iaload, 1) := by decide +kernel
theorem dX8_takesStrand_18 : decode cX8_takesStrand 18 = .ok (.istore_n 2, 1) := by decide +kernel
theorem dX8_takesStrand_19 : decode cX8_takesStrand 19 = .ok (.aload_n 0, 1) := by decide +kernel
theorem dX8_takesStrand_20 : decode cX8_takesStrand 20 = .ok (.aload_n 0, 1) := by decide +kernel
theorem dX8_takesStrand_21 : decode cX8_takesStrand 21 = .ok (.getfield 83, 3) := by decide +kernel
theorem dX8_takesStrand_24 : decode cX8_takesStrand 24 = .ok (.ifCond .eq 57, 3) := by decide +kernel
theorem dX8_takesStrand_27 : decode cX8_takesStrand 27 = .ok (.aload_n 0, 1) := by decide +kernel
theorem dX8_takesStrand_28 : decode cX8_takesStrand 28 = .ok (.getfield 17, 3) := by decide +kernel
theorem dX8_takesStrand_31 : decode cX8_takesStrand 31 = .ok (.iconst 1, 1) := by decide +kernel
theorem dX8_takesStrand_32 : decode cX8_takesStrand 32 = .ok (.iaload, 1) := by decide +kernel
theorem dX8_takesStrand_33 : decode cX8_takesStrand 33 = .ok (.bipush 14, 2) := by decide +kernel
theorem dX8_takesStrand_35 : decode cX8_takesStrand 35 = .ok (.if_icmp .ge 46, 3) := by decide +kernel
theorem dX8_takesStrand_38 : decode cX8_takesStrand 38 = .ok (.iload_n 1, 1) := by decide +kernel
theorem dX8_takesStrand_39 : decode cX8_takesStrand 39 = .ok (.aload_n 0, 1) := by decide +kernel
theorem dX8_takesStrand_40 : decode cX8_takesStrand 40 = .ok (.getfield 17, 3) := by decide +kernel
theorem dX8_takesStrand_43 : decode cX8_takesStrand 43 = .ok (.iconst 0, 1) := by decide +kernel
theorem dX8_takesStrand_44 : decode cX8_takesStrand 44 = .ok (.iaload, 1) := by decide +kernel
theorem dX8_takesStrand_45 : decode cX8_takesStrand 45 = .ok (.if_icmp .ge 36, 3) := by decide +kernel
theorem dX8_takesStrand_48 : decode cX8_takesStrand 48 = .ok (.iload_n 2, 1) := by decide +kernel
theorem dX8_takesStrand_49 : decode cX8_takesStrand 49 = .ok (.aload_n 0, 1) := by decide +kernel
theorem dX8_takesStrand_50 : decode cX8_takesStrand 50 = .ok (.getfield 17, 3) := by decide +kernel
theorem dX8_takesStrand_53 : decode cX8_takesStrand 53 = .ok (.iconst 0, 1) := by decide +kernel
theorem dX8_takesStrand_54 : decode cX8_takesStrand 54 = .ok (.iaload, 1) := by decide +kernel
theorem dX8_takesStrand_55 : decode cX8_takesStrand 55 = .ok (.if_icmp .ge 26, 3) := by decide +kernel
theorem dX8_takesStrand_58 : decode cX8_takesStrand 58 = .ok (.iload_n 1, 1) := by decide +kernel
theorem dX8_takesStrand_59 : decode cX8_takesStrand 59 = .ok (.iload_n 2, 1) := by decide +kernel
theorem dX8_takesStrand_60 : decode cX8_takesStrand 60 = .ok (.if_icmp .eq 21, 3) := by decide +kernel
theorem dX8_takesStrand_63 : decode cX8_takesStrand 63 = .ok (.aload_n 0, 1) := by decide +kernel
theorem dX8_takesStrand_64 : decode cX8_takesStrand 64 = .ok (.getfield 26, 3) := by decide +kernel
theorem dX8_takesStrand_67 : decode cX8_takesStrand 67 = .ok (.iconst 2, 1) := by decide +kernel
theorem dX8_takesStrand_68 : decode cX8_takesStrand 68 = .ok (.iaload, 1) := by decide +kernel
theorem dX8_takesStrand_69 : decode cX8_takesStrand 69 = .ok (.iconst 1, 1) := by decide +kernel
theorem dX8_takesStrand_70 : decode cX8_takesStrand 70 = .ok (.iconst 5, 1) := by decide +kernel
theorem dX8_takesStrand_71 : decode cX8_takesStrand 71 = .ok (.invokestatic 73, 3) := by decide +kernel
theorem dX8_takesStrand_74 : decode cX8_takesStrand 74 = .ok (.ifCond .eq 7, 3) := by decide +kernel
theorem dX8_takesStrand_77 : decode cX8_takesStrand 77 = .ok (.iconst 1, 1) := by decide +kernel
theorem dX8_takesStrand_78 : decode cX8_takesStrand 78 = .ok (.goto 4, 3) := by decide +kernel
theorem dX8_takesStrand_81 : decode cX8_takesStrand 81 = .ok (.iconst 0, 1) := by decide +kernel
theorem dX8_takesStrand_82 : decode cX8_takesStrand 82 = .ok (.putfield 83, 3) := by decide +kernel
theorem dX8_takesStrand_85 : decode cX8_takesStrand 85 = .ok (.aload_n 0, 1) := by decide +kernel
theorem dX8_takesStrand_86 : decode cX8_takesStrand 86 = .ok (.aload_n 0, 1) := by decide +kernel
theorem dX8_takesStrand_87 : decode cX8_takesStrand 87 = .ok (.getfield 83, 3) := by decide +kernel
theorem dX8_takesStrand_90 : decode cX8_takesStrand 90 = .ok (.ifCond .eq 32, 3) := by decide +kernel
theorem dX8_takesStrand_93 : decode cX8_takesStrand 93 = .ok (.aload_n 0, 1) := by decide +kernel
theorem dX8_takesStrand_94 : decode cX8_takesStrand 94 = .ok (.iload_n 1, 1) := by decide +kernel
theorem dX8_takesStrand_95 : decode cX8_takesStrand 95 = .ok (.invokevirtual 106, 3) := by decide +kernel
theorem dX8_takesStrand_98 : decode cX8_takesStrand 98 = .ok (.ifCond .eq 24, 3) := by decide +kernel
theorem dX8_takesStrand_101 : decode cX8_takesStrand 101 = .ok (.aload_n 0, 1) := by decide +kernel
theorem dX8_takesStrand_102 : decode cX8_takesStrand 102 = .ok (.iload_n 2, 1) := by decide +kernel
theorem dX8_takesStrand_103 : decode cX8_takesStrand 103 = .ok (.invokevirtual 106, 3) := by decide +kernel
theorem dX8_takesStrand_106 : decode cX8_takesStrand 106 = .ok (.ifCond .eq 16, 3) := by decide +kernel
theorem dX8_takesStrand_109 : decode cX8_takesStrand 109 = .ok (.aload_n 0, 1) := by decide +kernel
theorem dX8_takesStrand_110 : decode cX8_takesStrand 110 = .ok (.iload_n 1, 1) := by decide +kernel
theorem dX8_takesStrand_111 : decode cX8_takesStrand 111 = .ok (.iload_n 2, 1) := by decide +kernel
theorem dX8_takesStrand_112 : decode cX8_takesStrand 112 = .ok (.invokevirtual 109, 3) := by decide +kernel
theorem dX8_takesStrand_115 : decode cX8_takesStrand 115 = .ok (.ifCond .ne 7, 3) := by decide +kernel
theorem dX8_takesStrand_118 : decode cX8_takesStrand 118 = .ok (.iconst 1, 1) := by decide +kernel
theorem dX8_takesStrand_119 : decode cX8_takesStrand 119 = .ok (.goto 4, 3) := by decide +kernel
theorem dX8_takesStrand_122 : decode cX8_takesStrand 122 = .ok (.iconst 0, 1) := by decide +kernel
theorem dX8_takesStrand_123 : decode cX8_takesStrand 123 = .ok (.putfield 83, 3) := by decide +kernel
theorem dX8_takesStrand_126 : decode cX8_takesStrand 126 = .ok (.aload_n 0, 1) := by decide +kernel
theorem dX8_takesStrand_127 : decode cX8_takesStrand 127 = .ok (.getfield 83, 3) := by decide +kernel
theorem dX8_takesStrand_130 : decode cX8_takesStrand 130 = .ok (.ifCond .eq 69, 3) := by decide +kernel
theorem dX8_takesStrand_133 : decode cX8_takesStrand 133 = .ok (.iconst 0, 1) := by decide +kernel
theorem dX8_takesStrand_134 : decode cX8_takesStrand 134 = .ok (.istore_n 3, 1) := by decide +kernel
theorem dX8_takesStrand_135 : decode cX8_takesStrand 135 = .ok (.iload_n 3, 1) := by decide +kernel
theorem dX8_takesStrand_136 : decode cX8_takesStrand 136 = .ok (.iconst 4, 1) := by decide +kernel
theorem dX8_takesStrand_137 : decode cX8_takesStrand 137 = .ok (.if_icmp .ge 33, 3) := by decide +kernel
theorem dX8_takesStrand_140 : decode cX8_takesStrand 140 = .ok (.aload_n 0, 1) := by decide +kernel
theorem dX8_takesStrand_141 : decode cX8_takesStrand 141 = .ok (.getfield 17, 3) := by decide +kernel
theorem dX8_takesStrand_144 : decode cX8_takesStrand 144 = .ok (.bipush 54, 2) := by decide +kernel
theorem dX8_takesStrand_146 : decode cX8_takesStrand 146 = .ok (.iconst 5, 1) := by decide +kernel
theorem dX8_takesStrand_147 : decode cX8_takesStrand 147 = .ok (.aload_n 0, 1) := by decide +kernel
theorem dX8_takesStrand_148 : decode cX8_takesStrand 148 = .ok (.getfield 17, 3) := by decide +kernel
theorem dX8_takesStrand_151 : decode cX8_takesStrand 151 = .ok (.iconst 1, 1) := by decide +kernel
theorem dX8_takesStrand_152 : decode cX8_takesStrand 152 = .ok (.iaload, 1) := by decide +kernel
theorem dX8_takesStrand_153 : decode cX8_takesStrand 153 = .ok (.imul, 1) := by decide +kernel
theorem dX8_takesStrand_154 : decode cX8_takesStrand 154 = .ok (.iadd, 1) := by decide +kernel
theorem dX8_takesStrand_155 : decode cX8_takesStrand 155 = .ok (.iload_n 3, 1) := by decide +kernel
theorem dX8_takesStrand_156 : decode cX8_takesStrand 156 = .ok (.iadd, 1) := by decide +kernel
theorem dX8_takesStrand_157 : decode cX8_takesStrand 157 = .ok (.aload_n 0, 1) := by decide +kernel
theorem dX8_takesStrand_158 : decode cX8_takesStrand 158 = .ok (.getfield 26, 3) := by decide +kernel
theorem dX8_takesStrand_161 : decode cX8_takesStrand 161 = .ok (.iload_n 3, 1) := by decide +kernel
theorem dX8_takesStrand_162 : decode cX8_takesStrand 162 = .ok (.iaload, 1) := by decide +kernel
theorem dX8_takesStrand_163 : decode cX8_takesStrand 163 = .ok (.iastore, 1) := by decide +kernel
theorem dX8_takesStrand_164 : decode cX8_takesStrand 164 = .ok (.iinc 3 1, 3) := by decide +kernel
theorem dX8_takesStrand_167 : decode cX8_takesStrand 167 = .ok (.goto (-32), 3) := by decide +kernel
theorem dX8_takesStrand_170 : decode cX8_takesStrand 170 = .ok (.aload_n 0, 1) := by decide +kernel
theorem dX8_takesStrand_171 : decode cX8_takesStrand 171 = .ok (.getfield 17, 3) := by decide +kernel
theorem dX8_takesStrand_174 : decode cX8_takesStrand 174 = .ok (.bipush 54, 2) := by decide +kernel
theorem dX8_takesStrand_176 : decode cX8_takesStrand 176 = .ok (.iconst 5, 1) := by decide +kernel
theorem dX8_takesStrand_177 : decode cX8_takesStrand 177 = .ok (.aload_n 0, 1) := by decide +kernel
theorem dX8_takesStrand_178 : decode cX8_takesStrand 178 = .ok (.getfield 17, 3) := by decide +kernel
theorem dX8_takesStrand_181 : decode cX8_takesStrand 181 = .ok (.iconst 1, 1) := by decide +kernel
theorem dX8_takesStrand_182 : decode cX8_takesStrand 182 = .ok (.iaload, 1) := by decide +kernel
theorem dX8_takesStrand_183 : decode cX8_takesStrand 183 = .ok (.imul, 1) := by decide +kernel
theorem dX8_takesStrand_184 : decode cX8_takesStrand 184 = .ok (.iadd, 1) := by decide +kernel
theorem dX8_takesStrand_185 : decode cX8_takesStrand 185 = .ok (.iconst 4, 1) := by decide +kernel
theorem dX8_takesStrand_186 : decode cX8_takesStrand 186 = .ok (.iadd, 1) := by decide +kernel
theorem dX8_takesStrand_187 : decode cX8_takesStrand 187 = .ok (.iconst 0, 1) := by decide +kernel
theorem dX8_takesStrand_188 : decode cX8_takesStrand 188 = .ok (.iastore, 1) := by decide +kernel
theorem dX8_takesStrand_189 : decode cX8_takesStrand 189 = .ok (.aload_n 0, 1) := by decide +kernel
theorem dX8_takesStrand_190 : decode cX8_takesStrand 190 = .ok (.getfield 17, 3) := by decide +kernel
theorem dX8_takesStrand_193 : decode cX8_takesStrand 193 = .ok (.iconst 1, 1) := by decide +kernel
theorem dX8_takesStrand_194 : decode cX8_takesStrand 194 = .ok (.dup2, 1) := by decide +kernel
theorem dX8_takesStrand_195 : decode cX8_takesStrand 195 = .ok (.iaload, 1) := by decide +kernel
theorem dX8_takesStrand_196 : decode cX8_takesStrand 196 = .ok (.iconst 1, 1) := by decide +kernel
theorem dX8_takesStrand_197 : decode cX8_takesStrand 197 = .ok (.iadd, 1) := by decide +kernel
theorem dX8_takesStrand_198 : decode cX8_takesStrand 198 = .ok (.iastore, 1) := by decide +kernel
theorem dX8_takesStrand_199 : decode cX8_takesStrand 199 = .ok (.return_, 1) := by decide +kernel
theorem dX8_takesRolls_0 : decode cX8_takesRolls 0 = .ok (.aload_n 0, 1) := by decide +kernel
theorem dX8_takesRolls_1 : decode cX8_takesRolls 1 = .ok (.iconst 2, 1) := by decide +kernel
theorem dX8_takesRolls_2 : decode cX8_takesRolls 2 = .ok (.invokevirtual 99, 3) := by decide +kernel
theorem dX8_takesRolls_5 : decode cX8_takesRolls 5 = .ok (.aload_n 0, 1) := by decide +kernel
theorem dX8_takesRolls_6 : decode cX8_takesRolls 6 = .ok (.aload_n 0, 1) := by decide +kernel
theorem dX8_takesRolls_7 : decode cX8_takesRolls 7 = .ok (.getfield 83, 3) := by decide +kernel
theorem dX8_takesRolls_10 : decode cX8_takesRolls 10 = .ok (.ifCond .eq 27, 3) := by decide +kernel
theorem dX8_takesRolls_13 : decode cX8_takesRolls 13 = .ok (.aload_n 0, 1) := by decide +kernel
theorem dX8_takesRolls_14 : decode cX8_takesRolls 14 = .ok (.getfield 26, 3) := by decide +kernel
theorem dX8_takesRolls_17 : decode cX8_takesRolls 17 = .ok (.iconst 0, 1) := by decide +kernel
theorem dX8_takesRolls_18 : decode cX8_takesRolls 18 = .ok (.iaload, 1) := by decide +kernel
theorem dX8_takesRolls_19 : decode cX8_takesRolls 19 = .ok (.ifCond .le 18, 3) := by decide +kernel
theorem dX8_takesRolls_22 : decode cX8_takesRolls 22 = .ok (.aload_n 0, 1) := by decide +kernel
theorem dX8_takesRolls_23 : decode cX8_takesRolls 23 = .ok (.getfield 26, 3) := by decide +kernel
theorem dX8_takesRolls_26 : decode cX8_takesRolls 26 = .ok (.iconst 1, 1) := by decide +kernel
theorem dX8_takesRolls_27 : decode cX8_takesRolls 27 = .ok (.iaload, 1) := by decide +kernel
theorem dX8_takesRolls_28 : decode cX8_takesRolls 28 = .ok (.bipush 50, 2) := by decide +kernel
theorem dX8_takesRolls_30 : decode cX8_takesRolls 30 = .ok (.if_icmp .gt 7, 3) := by decide +kernel
theorem dX8_takesRolls_33 : decode cX8_takesRolls 33 = .ok (.iconst 1, 1) := by decide +kernel
theorem dX8_takesRolls_34 : decode cX8_takesRolls 34 = .ok (.goto 4, 3) := by decide +kernel
theorem dX8_takesRolls_37 : decode cX8_takesRolls 37 = .ok (.iconst 0, 1) := by decide +kernel
theorem dX8_takesRolls_38 : decode cX8_takesRolls 38 = .ok (.putfield 83, 3) := by decide +kernel
theorem dX8_takesRolls_41 : decode cX8_takesRolls 41 = .ok (.aload_n 0, 1) := by decide +kernel
theorem dX8_takesRolls_42 : decode cX8_takesRolls 42 = .ok (.getfield 83, 3) := by decide +kernel
theorem dX8_takesRolls_45 : decode cX8_takesRolls 45 = .ok (.ifCond .eq 27, 3) := by decide +kernel
theorem dX8_takesRolls_48 : decode cX8_takesRolls 48 = .ok (.aload_n 0, 1) := by decide +kernel
theorem dX8_takesRolls_49 : decode cX8_takesRolls 49 = .ok (.getfield 17, 3) := by decide +kernel
theorem dX8_takesRolls_52 : decode cX8_takesRolls 52 = .ok (.iconst 2, 1) := by decide +kernel
theorem dX8_takesRolls_53 : decode cX8_takesRolls 53 = .ok (.aload_n 0, 1) := by decide +kernel
theorem dX8_takesRolls_54 : decode cX8_takesRolls 54 = .ok (.getfield 26, 3) := by decide +kernel
theorem dX8_takesRolls_57 : decode cX8_takesRolls 57 = .ok (.iconst 0, 1) := by decide +kernel
theorem dX8_takesRolls_58 : decode cX8_takesRolls 58 = .ok (.iaload, 1) := by decide +kernel
theorem dX8_takesRolls_59 : decode cX8_takesRolls 59 = .ok (.iastore, 1) := by decide +kernel
theorem dX8_takesRolls_60 : decode cX8_takesRolls 60 = .ok (.aload_n 0, 1) := by decide +kernel
theorem dX8_takesRolls_61 : decode cX8_takesRolls 61 = .ok (.getfield 17, 3) := by decide +kernel
theorem dX8_takesRolls_64 : decode cX8_takesRolls 64 = .ok (.iconst 3, 1) := by decide +kernel
theorem dX8_takesRolls_65 : decode cX8_takesRolls 65 = .ok (.aload_n 0, 1) := by decide +kernel
theorem dX8_takesRolls_66 : decode cX8_takesRolls 66 = .ok (.getfield 26, 3) := by decide +kernel
theorem dX8_takesRolls_69 : decode cX8_takesRolls 69 = .ok (.iconst 1, 1) := by decide +kernel
theorem dX8_takesRolls_70 : decode cX8_takesRolls 70 = .ok (.iaload, 1) := by decide +kernel
theorem dX8_takesRolls_71 : decode cX8_takesRolls 71 = .ok (.iastore, 1) := by decide +kernel
theorem dX8_takesRolls_72 : decode cX8_takesRolls 72 = .ok (.return_, 1) := by decide +kernel
theorem dX8_reads_0 : decode cX8_reads 0 = .ok (.aload_n 0, 1) := by decide +kernel
theorem dX8_reads_1 : decode cX8_reads 1 = .ok (.getfield 17, 3) := by decide +kernel
theorem dX8_reads_4 : decode cX8_reads 4 = .ok (.iconst 0, 1) := by decide +kernel
theorem dX8_reads_5 : decode cX8_reads 5 = .ok (.iconst 0, 1) := by decide +kernel
theorem dX8_reads_6 : decode cX8_reads 6 = .ok (.iastore, 1) := by decide +kernel
theorem dX8_reads_7 : decode cX8_reads 7 = .ok (.aload_n 0, 1) := by decide +kernel
theorem dX8_reads_8 : decode cX8_reads 8 = .ok (.getfield 17, 3) := by decide +kernel
theorem dX8_reads_11 : decode cX8_reads 11 = .ok (.iconst 1, 1) := by decide +kernel
theorem dX8_reads_12 : decode cX8_reads 12 = .ok (.iconst 0, 1) := by decide +kernel
theorem dX8_reads_13 : decode cX8_reads 13 = .ok (.iastore, 1) := by decide +kernel
theorem dX8_reads_14 : decode cX8_reads 14 = .ok (.aload_n 0, 1) := by decide +kernel
theorem dX8_reads_15 : decode cX8_reads 15 = .ok (.getfield 17, 3) := by decide +kernel
theorem dX8_reads_18 : decode cX8_reads 18 = .ok (.iconst 2, 1) := by decide +kernel
theorem dX8_reads_19 : decode cX8_reads 19 = .ok (.bipush 40, 2) := by decide +kernel
theorem dX8_reads_21 : decode cX8_reads 21 = .ok (.iastore, 1) := by decide +kernel
theorem dX8_reads_22 : decode cX8_reads 22 = .ok (.aload_n 0, 1) := by decide +kernel
theorem dX8_reads_23 : decode cX8_reads 23 = .ok (.getfield 17, 3) := by decide +kernel
theorem dX8_reads_26 : decode cX8_reads 26 = .ok (.iconst 3, 1) := by decide +kernel
theorem dX8_reads_27 : decode cX8_reads 27 = .ok (.bipush 10, 2) := by decide +kernel
theorem dX8_reads_29 : decode cX8_reads 29 = .ok (.iastore, 1) := by decide +kernel
theorem dX8_reads_30 : decode cX8_reads 30 = .ok (.aload_n 0, 1) := by decide +kernel
theorem dX8_reads_31 : decode cX8_reads 31 = .ok (.iconst 0, 1) := by decide +kernel
theorem dX8_reads_32 : decode cX8_reads 32 = .ok (.putfield 80, 3) := by decide +kernel
theorem dX8_reads_35 : decode cX8_reads 35 = .ok (.aload_n 0, 1) := by decide +kernel
theorem dX8_reads_36 : decode cX8_reads 36 = .ok (.getfield 80, 3) := by decide +kernel
theorem dX8_reads_39 : decode cX8_reads 39 = .ok (.aload_n 0, 1) := by decide +kernel
theorem dX8_reads_40 : decode cX8_reads 40 = .ok (.getfield 77, 3) := by decide +kernel
theorem dX8_reads_43 : decode cX8_reads 43 = .ok (.if_icmp .ge 102, 3) := by decide +kernel
theorem dX8_reads_46 : decode cX8_reads 46 = .ok (.aload_n 0, 1) := by decide +kernel
theorem dX8_reads_47 : decode cX8_reads 47 = .ok (.getfield 80, 3) := by decide +kernel
theorem dX8_reads_50 : decode cX8_reads 50 = .ok (.istore_n 1, 1) := by decide +kernel
theorem dX8_reads_51 : decode cX8_reads 51 = .ok (.aload_n 0, 1) := by decide +kernel
theorem dX8_reads_52 : decode cX8_reads 52 = .ok (.getfield 7, 3) := by decide +kernel
theorem dX8_reads_55 : decode cX8_reads 55 = .ok (.aload_n 0, 1) := by decide +kernel
theorem dX8_reads_56 : decode cX8_reads 56 = .ok (.getfield 80, 3) := by decide +kernel
theorem dX8_reads_59 : decode cX8_reads 59 = .ok (.baload, 1) := by decide +kernel
theorem dX8_reads_60 : decode cX8_reads 60 = .ok (.istore_n 2, 1) := by decide +kernel
theorem dX8_reads_61 : decode cX8_reads 61 = .ok (.aload_n 0, 1) := by decide +kernel
theorem dX8_reads_62 : decode cX8_reads 62 = .ok (.iconst 1, 1) := by decide +kernel
theorem dX8_reads_63 : decode cX8_reads 63 = .ok (.putfield 83, 3) := by decide +kernel
theorem dX8_reads_66 : decode cX8_reads 66 = .ok (.aload_n 0, 1) := by decide +kernel
theorem dX8_reads_67 : decode cX8_reads 67 = .ok (.dup, 1) := by decide +kernel
theorem dX8_reads_68 : decode cX8_reads 68 = .ok (.getfield 80, 3) := by decide +kernel
theorem dX8_reads_71 : decode cX8_reads 71 = .ok (.iconst 1, 1) := by decide +kernel
theorem dX8_reads_72 : decode cX8_reads 72 = .ok (.iadd, 1) := by decide +kernel
theorem dX8_reads_73 : decode cX8_reads 73 = .ok (.putfield 80, 3) := by decide +kernel
theorem dX8_reads_76 : decode cX8_reads 76 = .ok (.iload_n 2, 1) := by decide +kernel
theorem dX8_reads_77 : decode cX8_reads 77 = .ok (.bipush 102, 2) := by decide +kernel
theorem dX8_reads_79 : decode cX8_reads 79 = .ok (.if_icmp .ne 10, 3) := by decide +kernel
theorem dX8_reads_82 : decode cX8_reads 82 = .ok (.aload_n 0, 1) := by decide +kernel
theorem dX8_reads_83 : decode cX8_reads 83 = .ok (.invokevirtual 113, 3) := by decide +kernel
theorem dX8_reads_86 : decode cX8_reads 86 = .ok (.goto 47, 3) := by decide +kernel
theorem dX8_reads_89 : decode cX8_reads 89 = .ok (.iload_n 2, 1) := by decide +kernel
theorem dX8_reads_90 : decode cX8_reads 90 = .ok (.bipush 117, 2) := by decide +kernel
theorem dX8_reads_92 : decode cX8_reads 92 = .ok (.if_icmp .ne 10, 3) := by decide +kernel
theorem dX8_reads_95 : decode cX8_reads 95 = .ok (.aload_n 0, 1) := by decide +kernel
theorem dX8_reads_96 : decode cX8_reads 96 = .ok (.invokevirtual 116, 3) := by decide +kernel
theorem dX8_reads_99 : decode cX8_reads 99 = .ok (.goto 34, 3) := by decide +kernel
theorem dX8_reads_102 : decode cX8_reads 102 = .ok (.iload_n 2, 1) := by decide +kernel
theorem dX8_reads_103 : decode cX8_reads 103 = .ok (.bipush 115, 2) := by decide +kernel
theorem dX8_reads_105 : decode cX8_reads 105 = .ok (.if_icmp .ne 10, 3) := by decide +kernel
theorem dX8_reads_108 : decode cX8_reads 108 = .ok (.aload_n 0, 1) := by decide +kernel
theorem dX8_reads_109 : decode cX8_reads 109 = .ok (.invokevirtual 119, 3) := by decide +kernel
theorem dX8_reads_112 : decode cX8_reads 112 = .ok (.goto 21, 3) := by decide +kernel
theorem dX8_reads_115 : decode cX8_reads 115 = .ok (.iload_n 2, 1) := by decide +kernel
theorem dX8_reads_116 : decode cX8_reads 116 = .ok (.bipush 114, 2) := by decide +kernel
theorem dX8_reads_118 : decode cX8_reads 118 = .ok (.if_icmp .ne 10, 3) := by decide +kernel
theorem dX8_reads_121 : decode cX8_reads 121 = .ok (.aload_n 0, 1) := by decide +kernel
theorem dX8_reads_122 : decode cX8_reads 122 = .ok (.invokevirtual 122, 3) := by decide +kernel
theorem dX8_reads_125 : decode cX8_reads 125 = .ok (.goto 8, 3) := by decide +kernel
theorem dX8_reads_128 : decode cX8_reads 128 = .ok (.aload_n 0, 1) := by decide +kernel
theorem dX8_reads_129 : decode cX8_reads 129 = .ok (.iconst 0, 1) := by decide +kernel
theorem dX8_reads_130 : decode cX8_reads 130 = .ok (.putfield 83, 3) := by decide +kernel
theorem dX8_reads_133 : decode cX8_reads 133 = .ok (.aload_n 0, 1) := by decide +kernel
theorem dX8_reads_134 : decode cX8_reads 134 = .ok (.getfield 83, 3) := by decide +kernel
theorem dX8_reads_137 : decode cX8_reads 137 = .ok (.ifCond .ne 5, 3) := by decide +kernel
theorem dX8_reads_140 : decode cX8_reads 140 = .ok (.iload_n 1, 1) := by decide +kernel
theorem dX8_reads_141 : decode cX8_reads 141 = .ok (.ireturn, 1) := by decide +kernel
theorem dX8_reads_142 : decode cX8_reads 142 = .ok (.goto (-107), 3) := by decide +kernel
theorem dX8_reads_145 : decode cX8_reads 145 = .ok (.bipush (-4), 2) := by decide +kernel
theorem dX8_reads_147 : decode cX8_reads 147 = .ok (.ireturn, 1) := by decide +kernel
theorem dX8_fault_0 : decode cX8_fault 0 = .ok (.aload_n 0, 1) := by decide +kernel
theorem dX8_fault_1 : decode cX8_fault 1 = .ok (.iconst 0, 1) := by decide +kernel
theorem dX8_fault_2 : decode cX8_fault 2 = .ok (.putfield 69, 3) := by decide +kernel
theorem dX8_fault_5 : decode cX8_fault 5 = .ok (.aload_n 0, 1) := by decide +kernel
theorem dX8_fault_6 : decode cX8_fault 6 = .ok (.invokevirtual 125, 3) := by decide +kernel
theorem dX8_fault_9 : decode cX8_fault 9 = .ok (.ireturn, 1) := by decide +kernel
theorem dX8_lay_0 : decode cX8_lay 0 = .ok (.aload_n 0, 1) := by decide +kernel
theorem dX8_lay_1 : decode cX8_lay 1 = .ok (.iconst 0, 1) := by decide +kernel
theorem dX8_lay_2 : decode cX8_lay 2 = .ok (.putfield 69, 3) := by decide +kernel
theorem dX8_lay_5 : decode cX8_lay 5 = .ok (.aload_n 0, 1) := by decide +kernel
theorem dX8_lay_6 : decode cX8_lay 6 = .ok (.invokevirtual 125, 3) := by decide +kernel
theorem dX8_lay_9 : decode cX8_lay 9 = .ok (.bipush (-4), 2) := by decide +kernel
theorem dX8_lay_11 : decode cX8_lay 11 = .ok (.if_icmp .ne 12, 3) := by decide +kernel
theorem dX8_lay_14 : decode cX8_lay 14 = .ok (.aload_n 0, 1) := by decide +kernel
theorem dX8_lay_15 : decode cX8_lay 15 = .ok (.getfield 17, 3) := by decide +kernel
theorem dX8_lay_18 : decode cX8_lay 18 = .ok (.iconst 0, 1) := by decide +kernel
theorem dX8_lay_19 : decode cX8_lay 19 = .ok (.iaload, 1) := by decide +kernel
theorem dX8_lay_20 : decode cX8_lay 20 = .ok (.ifCond .ne 6, 3) := by decide +kernel
theorem dX8_lay_23 : decode cX8_lay 23 = .ok (.bipush (-2), 2) := by decide +kernel
theorem dX8_lay_25 : decode cX8_lay 25 = .ok (.ireturn, 1) := by decide +kernel
theorem dX8_lay_26 : decode cX8_lay 26 = .ok (.iconst 0, 1) := by decide +kernel
theorem dX8_lay_27 : decode cX8_lay 27 = .ok (.istore_n 1, 1) := by decide +kernel
theorem dX8_lay_28 : decode cX8_lay 28 = .ok (.iload_n 1, 1) := by decide +kernel
theorem dX8_lay_29 : decode cX8_lay 29 = .ok (.bipush 124, 2) := by decide +kernel
theorem dX8_lay_31 : decode cX8_lay 31 = .ok (.if_icmp .ge 21, 3) := by decide +kernel
theorem dX8_lay_34 : decode cX8_lay 34 = .ok (.aload_n 0, 1) := by decide +kernel
theorem dX8_lay_35 : decode cX8_lay 35 = .ok (.getfield 13, 3) := by decide +kernel
theorem dX8_lay_38 : decode cX8_lay 38 = .ok (.iload_n 1, 1) := by decide +kernel
theorem dX8_lay_39 : decode cX8_lay 39 = .ok (.aload_n 0, 1) := by decide +kernel
theorem dX8_lay_40 : decode cX8_lay 40 = .ok (.getfield 17, 3) := by decide +kernel
theorem dX8_lay_43 : decode cX8_lay 43 = .ok (.iload_n 1, 1) := by decide +kernel
theorem dX8_lay_44 : decode cX8_lay 44 = .ok (.iaload, 1) := by decide +kernel
theorem dX8_lay_45 : decode cX8_lay 45 = .ok (.iastore, 1) := by decide +kernel
theorem dX8_lay_46 : decode cX8_lay 46 = .ok (.iinc 1 1, 3) := by decide +kernel
theorem dX8_lay_49 : decode cX8_lay 49 = .ok (.goto (-21), 3) := by decide +kernel
theorem dX8_lay_52 : decode cX8_lay 52 = .ok (.aload_n 0, 1) := by decide +kernel
theorem dX8_lay_53 : decode cX8_lay 53 = .ok (.iconst 0, 1) := by decide +kernel
theorem dX8_lay_54 : decode cX8_lay 54 = .ok (.putfield 128, 3) := by decide +kernel
theorem dX8_lay_57 : decode cX8_lay 57 = .ok (.aload_n 0, 1) := by decide +kernel
theorem dX8_lay_58 : decode cX8_lay 58 = .ok (.getfield 13, 3) := by decide +kernel
theorem dX8_lay_61 : decode cX8_lay 61 = .ok (.iconst 0, 1) := by decide +kernel
theorem dX8_lay_62 : decode cX8_lay 62 = .ok (.iaload, 1) := by decide +kernel
theorem dX8_lay_63 : decode cX8_lay 63 = .ok (.ireturn, 1) := by decide +kernel
theorem dX8_isJoint_0 : decode cX8_isJoint 0 = .ok (.iload_n 1, 1) := by decide +kernel
theorem dX8_isJoint_1 : decode cX8_isJoint 1 = .ok (.iconst 0, 1) := by decide +kernel
theorem dX8_isJoint_2 : decode cX8_isJoint 2 = .ok (.aload_n 0, 1) := by decide +kernel
theorem dX8_isJoint_3 : decode cX8_isJoint 3 = .ok (.getfield 13, 3) := by decide +kernel
theorem dX8_isJoint_6 : decode cX8_isJoint 6 = .ok (.iconst 0, 1) := by decide +kernel
theorem dX8_isJoint_7 : decode cX8_isJoint 7 = .ok (.iaload, 1) := by decide +kernel
theorem dX8_isJoint_8 : decode cX8_isJoint 8 = .ok (.iconst 1, 1) := by decide +kernel
theorem dX8_isJoint_9 : decode cX8_isJoint 9 = .ok (.isub, 1) := by decide +kernel
theorem dX8_isJoint_10 : decode cX8_isJoint 10 = .ok (.invokestatic 73, 3) := by decide +kernel
theorem dX8_isJoint_13 : decode cX8_isJoint 13 = .ok (.ireturn, 1) := by decide +kernel
theorem dX8_isFree_0 : decode cX8_isFree 0 = .ok (.aload_n 0, 1) := by decide +kernel
theorem dX8_isFree_1 : decode cX8_isFree 1 = .ok (.getfield 13, 3) := by decide +kernel
theorem dX8_isFree_4 : decode cX8_isFree 4 = .ok (.iconst 4, 1) := by decide +kernel
theorem dX8_isFree_5 : decode cX8_isFree 5 = .ok (.iload_n 1, 1) := by decide +kernel
theorem dX8_isFree_6 : decode cX8_isFree 6 = .ok (.iadd, 1) := by decide +kernel
theorem dX8_isFree_7 : decode cX8_isFree 7 = .ok (.iaload, 1) := by decide +kernel
theorem dX8_isFree_8 : decode cX8_isFree 8 = .ok (.iconst 1, 1) := by decide +kernel
theorem dX8_isFree_9 : decode cX8_isFree 9 = .ok (.if_icmp .ne 7, 3) := by decide +kernel
theorem dX8_isFree_12 : decode cX8_isFree 12 = .ok (.iconst 1, 1) := by decide +kernel
theorem dX8_isFree_13 : decode cX8_isFree 13 = .ok (.goto 4, 3) := by decide +kernel
theorem dX8_isFree_16 : decode cX8_isFree 16 = .ok (.iconst 0, 1) := by decide +kernel
theorem dX8_isFree_17 : decode cX8_isFree 17 = .ok (.ireturn, 1) := by decide +kernel
theorem dX8_isStrand_0 : decode cX8_isStrand 0 = .ok (.iload_n 1, 1) := by decide +kernel
theorem dX8_isStrand_1 : decode cX8_isStrand 1 = .ok (.iconst 0, 1) := by decide +kernel
theorem dX8_isStrand_2 : decode cX8_isStrand 2 = .ok (.aload_n 0, 1) := by decide +kernel
theorem dX8_isStrand_3 : decode cX8_isStrand 3 = .ok (.getfield 13, 3) := by decide +kernel
theorem dX8_isStrand_6 : decode cX8_isStrand 6 = .ok (.iconst 1, 1) := by decide +kernel
theorem dX8_isStrand_7 : decode cX8_isStrand 7 = .ok (.iaload, 1) := by decide +kernel
theorem dX8_isStrand_8 : decode cX8_isStrand 8 = .ok (.iconst 1, 1) := by decide +kernel
theorem dX8_isStrand_9 : decode cX8_isStrand 9 = .ok (.isub, 1) := by decide +kernel
theorem dX8_isStrand_10 : decode cX8_isStrand 10 = .ok (.invokestatic 73, 3) := by decide +kernel
theorem dX8_isStrand_13 : decode cX8_isStrand 13 = .ok (.ireturn, 1) := by decide +kernel
theorem dX8_of_0 : decode cX8_of 0 = .ok (.aload_n 0, 1) := by decide +kernel
theorem dX8_of_1 : decode cX8_of 1 = .ok (.getfield 13, 3) := by decide +kernel
theorem dX8_of_4 : decode cX8_of 4 = .ok (.bipush 54, 2) := by decide +kernel
theorem dX8_of_6 : decode cX8_of 6 = .ok (.iconst 5, 1) := by decide +kernel
theorem dX8_of_7 : decode cX8_of 7 = .ok (.iload_n 1, 1) := by decide +kernel
theorem dX8_of_8 : decode cX8_of 8 = .ok (.imul, 1) := by decide +kernel
theorem dX8_of_9 : decode cX8_of 9 = .ok (.iadd, 1) := by decide +kernel
theorem dX8_of_10 : decode cX8_of 10 = .ok (.iload_n 2, 1) := by decide +kernel
theorem dX8_of_11 : decode cX8_of 11 = .ok (.iadd, 1) := by decide +kernel
theorem dX8_of_12 : decode cX8_of 12 = .ok (.iaload, 1) := by decide +kernel
theorem dX8_of_13 : decode cX8_of 13 = .ok (.ireturn, 1) := by decide +kernel
theorem dX8_hangs_0 : decode cX8_hangs 0 = .ok (.aload_n 0, 1) := by decide +kernel
theorem dX8_hangs_1 : decode cX8_hangs 1 = .ok (.iload_n 1, 1) := by decide +kernel
theorem dX8_hangs_2 : decode cX8_hangs 2 = .ok (.iconst 4, 1) := by decide +kernel
theorem dX8_hangs_3 : decode cX8_hangs 3 = .ok (.invokevirtual 131, 3) := by decide +kernel
theorem dX8_hangs_6 : decode cX8_hangs 6 = .ok (.ifCond .ne 7, 3) := by decide +kernel
theorem dX8_hangs_9 : decode cX8_hangs 9 = .ok (.iconst 1, 1) := by decide +kernel
theorem dX8_hangs_10 : decode cX8_hangs 10 = .ok (.goto 4, 3) := by decide +kernel
theorem dX8_hangs_13 : decode cX8_hangs 13 = .ok (.iconst 0, 1) := by decide +kernel
theorem dX8_hangs_14 : decode cX8_hangs 14 = .ok (.ireturn, 1) := by decide +kernel
theorem dX8_isOf_0 : decode cX8_isOf 0 = .ok (.aload_n 0, 1) := by decide +kernel
theorem dX8_isOf_1 : decode cX8_isOf 1 = .ok (.iload_n 1, 1) := by decide +kernel
theorem dX8_isOf_2 : decode cX8_isOf 2 = .ok (.iconst 0, 1) := by decide +kernel
theorem dX8_isOf_3 : decode cX8_isOf 3 = .ok (.invokevirtual 131, 3) := by decide +kernel
theorem dX8_isOf_6 : decode cX8_isOf 6 = .ok (.iload_n 2, 1) := by decide +kernel
theorem dX8_isOf_7 : decode cX8_isOf 7 = .ok (.if_icmp .eq 13, 3) := by decide +kernel
theorem dX8_isOf_10 : decode cX8_isOf 10 = .ok (.aload_n 0, 1) := by decide +kernel
theorem dX8_isOf_11 : decode cX8_isOf 11 = .ok (.iload_n 1, 1) := by decide +kernel
theorem dX8_isOf_12 : decode cX8_isOf 12 = .ok (.iconst 1, 1) := by decide +kernel
theorem dX8_isOf_13 : decode cX8_isOf 13 = .ok (.invokevirtual 131, 3) := by decide +kernel
theorem dX8_isOf_16 : decode cX8_isOf 16 = .ok (.iload_n 2, 1) := by decide +kernel
theorem dX8_isOf_17 : decode cX8_isOf 17 = .ok (.if_icmp .ne 7, 3) := by decide +kernel
theorem dX8_isOf_20 : decode cX8_isOf 20 = .ok (.iconst 1, 1) := by decide +kernel
theorem dX8_isOf_21 : decode cX8_isOf 21 = .ok (.goto 4, 3) := by decide +kernel
theorem dX8_isOf_24 : decode cX8_isOf 24 = .ok (.iconst 0, 1) := by decide +kernel
theorem dX8_isOf_25 : decode cX8_isOf 25 = .ok (.ireturn, 1) := by decide +kernel
theorem dX8_other_0 : decode cX8_other 0 = .ok (.aload_n 0, 1) := by decide +kernel
theorem dX8_other_1 : decode cX8_other 1 = .ok (.iload_n 1, 1) := by decide +kernel
theorem dX8_other_2 : decode cX8_other 2 = .ok (.iconst 0, 1) := by decide +kernel
theorem dX8_other_3 : decode cX8_other 3 = .ok (.invokevirtual 131, 3) := by decide +kernel
theorem dX8_other_6 : decode cX8_other 6 = .ok (.iload_n 2, 1) := by decide +kernel
theorem dX8_other_7 : decode cX8_other 7 = .ok (.if_icmp .ne 12, 3) := by decide +kernel
theorem dX8_other_10 : decode cX8_other 10 = .ok (.aload_n 0, 1) := by decide +kernel
theorem dX8_other_11 : decode cX8_other 11 = .ok (.iload_n 1, 1) := by decide +kernel
theorem dX8_other_12 : decode cX8_other 12 = .ok (.iconst 1, 1) := by decide +kernel
theorem dX8_other_13 : decode cX8_other 13 = .ok (.invokevirtual 131, 3) := by decide +kernel
theorem dX8_other_16 : decode cX8_other 16 = .ok (.goto 9, 3) := by decide +kernel
theorem dX8_other_19 : decode cX8_other 19 = .ok (.aload_n 0, 1) := by decide +kernel
theorem dX8_other_20 : decode cX8_other 20 = .ok (.iload_n 1, 1) := by decide +kernel
theorem dX8_other_21 : decode cX8_other 21 = .ok (.iconst 0, 1) := by decide +kernel
theorem dX8_other_22 : decode cX8_other 22 = .ok (.invokevirtual 131, 3) := by decide +kernel
theorem dX8_other_25 : decode cX8_other 25 = .ok (.ireturn, 1) := by decide +kernel
theorem dX8_laysHung_0 : decode cX8_laysHung 0 = .ok (.iconst 0, 1) := by decide +kernel
theorem dX8_laysHung_1 : decode cX8_laysHung 1 = .ok (.istore_n 2, 1) := by decide +kernel
theorem dX8_laysHung_2 : decode cX8_laysHung 2 = .ok (.iload_n 2, 1) := by decide +kernel
theorem dX8_laysHung_3 : decode cX8_laysHung 3 = .ok (.aload_n 0, 1) := by decide +kernel
theorem dX8_laysHung_4 : decode cX8_laysHung 4 = .ok (.getfield 13, 3) := by decide +kernel
theorem dX8_laysHung_7 : decode cX8_laysHung 7 = .ok (.iconst 0, 1) := by decide +kernel
theorem dX8_laysHung_8 : decode cX8_laysHung 8 = .ok (.iaload, 1) := by decide +kernel
theorem dX8_laysHung_9 : decode cX8_laysHung 9 = .ok (.if_icmp .ge 28, 3) := by decide +kernel
theorem dX8_laysHung_12 : decode cX8_laysHung 12 = .ok (.aload_n 0, 1) := by decide +kernel
theorem dX8_laysHung_13 : decode cX8_laysHung 13 = .ok (.getfield 29, 3) := by decide +kernel
theorem dX8_laysHung_16 : decode cX8_laysHung 16 = .ok (.iload_n 2, 1) := by decide +kernel
theorem dX8_laysHung_17 : decode cX8_laysHung 17 = .ok (.aload_n 0, 1) := by decide +kernel
theorem dX8_laysHung_18 : decode cX8_laysHung 18 = .ok (.iload_n 2, 1) := by decide +kernel
theorem dX8_laysHung_19 : decode cX8_laysHung 19 = .ok (.invokevirtual 134, 3) := by decide +kernel
theorem dX8_laysHung_22 : decode cX8_laysHung 22 = .ok (.ifCond .ne 7, 3) := by decide +kernel
theorem dX8_laysHung_25 : decode cX8_laysHung 25 = .ok (.iconst 1, 1) := by decide +kernel
theorem dX8_laysHung_26 : decode cX8_laysHung 26 = .ok (.goto 4, 3) := by decide +kernel
theorem dX8_laysHung_29 : decode cX8_laysHung 29 = .ok (.iconst 0, 1) := by decide +kernel
theorem dX8_laysHung_30 : decode cX8_laysHung 30 = .ok (.bastore, 1) := by decide +kernel
theorem dX8_laysHung_31 : decode cX8_laysHung 31 = .ok (.iinc 2 1, 3) := by decide +kernel
theorem dX8_laysHung_34 : decode cX8_laysHung 34 = .ok (.goto (-32), 3) := by decide +kernel
theorem dX8_laysHung_37 : decode cX8_laysHung 37 = .ok (.iconst 1, 1) := by decide +kernel
theorem dX8_laysHung_38 : decode cX8_laysHung 38 = .ok (.istore_n 2, 1) := by decide +kernel
theorem dX8_laysHung_39 : decode cX8_laysHung 39 = .ok (.iload_n 2, 1) := by decide +kernel
theorem dX8_laysHung_40 : decode cX8_laysHung 40 = .ok (.ifCond .eq 102, 3) := by decide +kernel
theorem dX8_laysHung_43 : decode cX8_laysHung 43 = .ok (.iconst 0, 1) := by decide +kernel
theorem dX8_laysHung_44 : decode cX8_laysHung 44 = .ok (.istore_n 2, 1) := by decide +kernel
theorem dX8_laysHung_45 : decode cX8_laysHung 45 = .ok (.iconst 0, 1) := by decide +kernel
theorem dX8_laysHung_46 : decode cX8_laysHung 46 = .ok (.istore_n 3, 1) := by decide +kernel
theorem dX8_laysHung_47 : decode cX8_laysHung 47 = .ok (.iload_n 3, 1) := by decide +kernel
theorem dX8_laysHung_48 : decode cX8_laysHung 48 = .ok (.aload_n 0, 1) := by decide +kernel
theorem dX8_laysHung_49 : decode cX8_laysHung 49 = .ok (.getfield 13, 3) := by decide +kernel
theorem dX8_laysHung_52 : decode cX8_laysHung 52 = .ok (.iconst 1, 1) := by decide +kernel
theorem dX8_laysHung_53 : decode cX8_laysHung 53 = .ok (.iaload, 1) := by decide +kernel
theorem dX8_laysHung_54 : decode cX8_laysHung 54 = .ok (.if_icmp .ge 85, 3) := by decide +kernel
theorem dX8_laysHung_57 : decode cX8_laysHung 57 = .ok (.aload_n 0, 1) := by decide +kernel
theorem dX8_laysHung_58 : decode cX8_laysHung 58 = .ok (.iload_n 3, 1) := by decide +kernel
theorem dX8_laysHung_59 : decode cX8_laysHung 59 = .ok (.invokevirtual 137, 3) := by decide +kernel
theorem dX8_laysHung_62 : decode cX8_laysHung 62 = .ok (.ifCond .eq 37, 3) := by decide +kernel
theorem dX8_laysHung_65 : decode cX8_laysHung 65 = .ok (.iload_n 3, 1) := by decide +kernel
theorem dX8_laysHung_66 : decode cX8_laysHung 66 = .ok (.iload_n 1, 1) := by decide +kernel
theorem dX8_laysHung_67 : decode cX8_laysHung 67 = .ok (.if_icmp .eq 32, 3) := by decide +kernel
theorem dX8_laysHung_70 : decode cX8_laysHung 70 = .ok (.aload_n 0, 1) := by decide +kernel
theorem dX8_laysHung_71 : decode cX8_laysHung 71 = .ok (.getfield 29, 3) := by decide +kernel
theorem dX8_laysHung_74 : decode cX8_laysHung 74 = .ok (.aload_n 0, 1) := by decide +kernel
theorem dX8_laysHung_75 : decode cX8_laysHung 75 = .ok (.iload_n 3, 1) := by decide +kernel
theorem dX8_laysHung_76 : decode cX8_laysHung 76 = .ok (.iconst 0, 1) := by decide +kernel
theorem dX8_laysHung_77 : decode cX8_laysHung 77 = .ok (.invokevirtual 131, 3) := by decide +kernel
theorem dX8_laysHung_80 : decode cX8_laysHung 80 = .ok (.baload, 1) := by decide +kernel
theorem dX8_laysHung_81 : decode cX8_laysHung 81 = .ok (.aload_n 0, 1) := by decide +kernel
theorem dX8_laysHung_82 : decode cX8_laysHung 82 = .ok (.getfield 29, 3) := by decide +kernel
theorem dX8_laysHung_85 : decode cX8_laysHung 85 = .ok (.aload_n 0, 1) := by decide +kernel
theorem dX8_laysHung_86 : decode cX8_laysHung 86 = .ok (.iload_n 3, 1) := by decide +kernel
theorem dX8_laysHung_87 : decode cX8_laysHung 87 = .ok (.iconst 1, 1) := by decide +kernel
theorem dX8_laysHung_88 : decode cX8_laysHung 88 = .ok (.invokevirtual 131, 3) := by decide +kernel
theorem dX8_laysHung_91 : decode cX8_laysHung 91 = .ok (.baload, 1) := by decide +kernel
theorem dX8_laysHung_92 : decode cX8_laysHung 92 = .ok (.if_icmp .eq 7, 3) := by decide +kernel
theorem dX8_laysHung_95 : decode cX8_laysHung 95 = .ok (.iconst 1, 1) := by decide +kernel
theorem dX8_laysHung_96 : decode cX8_laysHung 96 = .ok (.goto 4, 3) := by decide +kernel
theorem dX8_laysHung_99 : decode cX8_laysHung 99 = .ok (.iconst 0, 1) := by decide +kernel
theorem dX8_laysHung_100 : decode cX8_laysHung 100 = .ok (.istore 4, 2) := by decide +kernel
theorem dX8_laysHung_102 : decode cX8_laysHung 102 = .ok (.iload 4, 2) := by decide +kernel
theorem dX8_laysHung_104 : decode cX8_laysHung 104 = .ok (.ifCond .eq 29, 3) := by decide +kernel
theorem dX8_laysHung_107 : decode cX8_laysHung 107 = .ok (.aload_n 0, 1) := by decide +kernel
theorem dX8_laysHung_108 : decode cX8_laysHung 108 = .ok (.getfield 29, 3) := by decide +kernel
theorem dX8_laysHung_111 : decode cX8_laysHung 111 = .ok (.aload_n 0, 1) := by decide +kernel
theorem dX8_laysHung_112 : decode cX8_laysHung 112 = .ok (.iload_n 3, 1) := by decide +kernel
theorem dX8_laysHung_113 : decode cX8_laysHung 113 = .ok (.iconst 0, 1) := by decide +kernel
theorem dX8_laysHung_114 : decode cX8_laysHung 114 = .ok (.invokevirtual 131, 3) := by decide +kernel
theorem dX8_laysHung_117 : decode cX8_laysHung 117 = .ok (.iconst 1, 1) := by decide +kernel
theorem dX8_laysHung_118 : decode cX8_laysHung 118 = .ok (.bastore, 1) := by decide +kernel
theorem dX8_laysHung_119 : decode cX8_laysHung 119 = .ok (.aload_n 0, 1) := by decide +kernel
theorem dX8_laysHung_120 : decode cX8_laysHung 120 = .ok (.getfield 29, 3) := by decide +kernel
theorem dX8_laysHung_123 : decode cX8_laysHung 123 = .ok (.aload_n 0, 1) := by decide +kernel
theorem dX8_laysHung_124 : decode cX8_laysHung 124 = .ok (.iload_n 3, 1) := by decide +kernel
theorem dX8_laysHung_125 : decode cX8_laysHung 125 = .ok (.iconst 1, 1) := by decide +kernel
theorem dX8_laysHung_126 : decode cX8_laysHung 126 = .ok (.invokevirtual 131, 3) := by decide +kernel
theorem dX8_laysHung_129 : decode cX8_laysHung 129 = .ok (.iconst 1, 1) := by decide +kernel
theorem dX8_laysHung_130 : decode cX8_laysHung 130 = .ok (.bastore, 1) := by decide +kernel
theorem dX8_laysHung_131 : decode cX8_laysHung 131 = .ok (.iconst 1, 1) := by decide +kernel
theorem dX8_laysHung_132 : decode cX8_laysHung 132 = .ok (.istore_n 2, 1) := by decide +kernel
theorem dX8_laysHung_133 : decode cX8_laysHung 133 = .ok (.iinc 3 1, 3) := by decide +kernel
theorem dX8_laysHung_136 : decode cX8_laysHung 136 = .ok (.goto (-89), 3) := by decide +kernel
theorem dX8_laysHung_139 : decode cX8_laysHung 139 = .ok (.goto (-100), 3) := by decide +kernel
theorem dX8_laysHung_142 : decode cX8_laysHung 142 = .ok (.iconst 1, 1) := by decide +kernel
theorem dX8_laysHung_143 : decode cX8_laysHung 143 = .ok (.istore_n 3, 1) := by decide +kernel
theorem dX8_laysHung_144 : decode cX8_laysHung 144 = .ok (.iconst 0, 1) := by decide +kernel
theorem dX8_laysHung_145 : decode cX8_laysHung 145 = .ok (.istore 4, 2) := by decide +kernel
theorem dX8_laysHung_147 : decode cX8_laysHung 147 = .ok (.iload 4, 2) := by decide +kernel
theorem dX8_laysHung_149 : decode cX8_laysHung 149 = .ok (.aload_n 0, 1) := by decide +kernel
theorem dX8_laysHung_150 : decode cX8_laysHung 150 = .ok (.getfield 13, 3) := by decide +kernel
theorem dX8_laysHung_153 : decode cX8_laysHung 153 = .ok (.iconst 0, 1) := by decide +kernel
theorem dX8_laysHung_154 : decode cX8_laysHung 154 = .ok (.iaload, 1) := by decide +kernel
theorem dX8_laysHung_155 : decode cX8_laysHung 155 = .ok (.if_icmp .ge 29, 3) := by decide +kernel
theorem dX8_laysHung_158 : decode cX8_laysHung 158 = .ok (.iload_n 3, 1) := by decide +kernel
theorem dX8_laysHung_159 : decode cX8_laysHung 159 = .ok (.ifCond .eq 17, 3) := by decide +kernel
theorem dX8_laysHung_162 : decode cX8_laysHung 162 = .ok (.aload_n 0, 1) := by decide +kernel
theorem dX8_laysHung_163 : decode cX8_laysHung 163 = .ok (.getfield 29, 3) := by decide +kernel
theorem dX8_laysHung_166 : decode cX8_laysHung 166 = .ok (.iload 4, 2) := by decide +kernel
theorem dX8_laysHung_168 : decode cX8_laysHung 168 = .ok (.baload, 1) := by decide +kernel
theorem dX8_laysHung_169 : decode cX8_laysHung 169 = .ok (.ifCond .eq 7, 3) := by decide +kernel
theorem dX8_laysHung_172 : decode cX8_laysHung 172 = .ok (.iconst 1, 1) := by decide +kernel
theorem dX8_laysHung_173 : decode cX8_laysHung 173 = .ok (.goto 4, 3) := by decide +kernel
theorem dX8_laysHung_176 : decode cX8_laysHung 176 = .ok (.iconst 0, 1) := by decide +kernel
theorem dX8_laysHung_177 : decode cX8_laysHung 177 = .ok (.istore_n 3, 1) := by decide +kernel
theorem dX8_laysHung_178 : decode cX8_laysHung 178 = .ok (.iinc 4 1, 3) := by decide +kernel
theorem dX8_laysHung_181 : decode cX8_laysHung 181 = .ok (.goto (-34), 3) := by decide +kernel
theorem dX8_laysHung_184 : decode cX8_laysHung 184 = .ok (.iload_n 3, 1) := by decide +kernel
theorem dX8_laysHung_185 : decode cX8_laysHung 185 = .ok (.ireturn, 1) := by decide +kernel
theorem dX8_laysTable_0 : decode cX8_laysTable 0 = .ok (.aload_n 0, 1) := by decide +kernel
theorem dX8_laysTable_1 : decode cX8_laysTable 1 = .ok (.iconst 0, 1) := by decide +kernel
theorem dX8_laysTable_2 : decode cX8_laysTable 2 = .ok (.putfield 140, 3) := by decide +kernel
theorem dX8_laysTable_5 : decode cX8_laysTable 5 = .ok (.iconst 0, 1) := by decide +kernel
theorem dX8_laysTable_6 : decode cX8_laysTable 6 = .ok (.istore_n 1, 1) := by decide +kernel
theorem dX8_laysTable_7 : decode cX8_laysTable 7 = .ok (.iload_n 1, 1) := by decide +kernel
theorem dX8_laysTable_8 : decode cX8_laysTable 8 = .ok (.aload_n 0, 1) := by decide +kernel
theorem dX8_laysTable_9 : decode cX8_laysTable 9 = .ok (.getfield 13, 3) := by decide +kernel
theorem dX8_laysTable_12 : decode cX8_laysTable 12 = .ok (.iconst 0, 1) := by decide +kernel
theorem dX8_laysTable_13 : decode cX8_laysTable 13 = .ok (.iaload, 1) := by decide +kernel
theorem dX8_laysTable_14 : decode cX8_laysTable 14 = .ok (.if_icmp .ge 54, 3) := by decide +kernel
theorem dX8_laysTable_17 : decode cX8_laysTable 17 = .ok (.aload_n 0, 1) := by decide +kernel
theorem dX8_laysTable_18 : decode cX8_laysTable 18 = .ok (.getfield 37, 3) := by decide +kernel
theorem dX8_laysTable_21 : decode cX8_laysTable 21 = .ok (.iload_n 1, 1) := by decide +kernel
theorem dX8_laysTable_22 : decode cX8_laysTable 22 = .ok (.aload_n 0, 1) := by decide +kernel
theorem dX8_laysTable_23 : decode cX8_laysTable 23 = .ok (.iload_n 1, 1) := by decide +kernel
theorem dX8_laysTable_24 : decode cX8_laysTable 24 = .ok (.invokevirtual 134, 3) := by decide +kernel
theorem dX8_laysTable_27 : decode cX8_laysTable 27 = .ok (.ifCond .eq 10, 3) := by decide +kernel
theorem dX8_laysTable_30 : decode cX8_laysTable 30 = .ok (.aload_n 0, 1) := by decide +kernel
theorem dX8_laysTable_31 : decode cX8_laysTable 31 = .ok (.getfield 140, 3) := by decide +kernel
theorem dX8_laysTable_34 : decode cX8_laysTable 34 = .ok (.goto 5, 3) := by decide +kernel
theorem dX8_laysTable_37 : decode cX8_laysTable 37 = .ok (.bipush (-4), 2) := by decide +kernel
theorem dX8_laysTable_39 : decode cX8_laysTable 39 = .ok (.iastore, 1) := by decide +kernel
theorem dX8_laysTable_40 : decode cX8_laysTable 40 = .ok (.aload_n 0, 1) := by decide +kernel
theorem dX8_laysTable_41 : decode cX8_laysTable 41 = .ok (.dup, 1) := by decide +kernel
theorem dX8_laysTable_42 : decode cX8_laysTable 42 = .ok (.getfield 140, 3) := by decide +kernel
theorem dX8_laysTable_45 : decode cX8_laysTable 45 = .ok (.aload_n 0, 1) := by decide +kernel
theorem dX8_laysTable_46 : decode cX8_laysTable 46 = .ok (.iload_n 1, 1) := by decide +kernel
theorem dX8_laysTable_47 : decode cX8_laysTable 47 = .ok (.invokevirtual 134, 3) := by decide +kernel
theorem dX8_laysTable_50 : decode cX8_laysTable 50 = .ok (.ifCond .eq 7, 3) := by decide +kernel
theorem dX8_laysTable_53 : decode cX8_laysTable 53 = .ok (.iconst 1, 1) := by decide +kernel
theorem dX8_laysTable_54 : decode cX8_laysTable 54 = .ok (.goto 4, 3) := by decide +kernel
theorem dX8_laysTable_57 : decode cX8_laysTable 57 = .ok (.iconst 0, 1) := by decide +kernel
theorem dX8_laysTable_58 : decode cX8_laysTable 58 = .ok (.iadd, 1) := by decide +kernel
theorem dX8_laysTable_59 : decode cX8_laysTable 59 = .ok (.putfield 140, 3) := by decide +kernel
theorem dX8_laysTable_62 : decode cX8_laysTable 62 = .ok (.iinc 1 1, 3) := by decide +kernel
theorem dX8_laysTable_65 : decode cX8_laysTable 65 = .ok (.goto (-58), 3) := by decide +kernel
theorem dX8_laysTable_68 : decode cX8_laysTable 68 = .ok (.iconst 0, 1) := by decide +kernel
theorem dX8_laysTable_69 : decode cX8_laysTable 69 = .ok (.istore_n 1, 1) := by decide +kernel
theorem dX8_laysTable_70 : decode cX8_laysTable 70 = .ok (.iload_n 1, 1) := by decide +kernel
theorem dX8_laysTable_71 : decode cX8_laysTable 71 = .ok (.bipush 40, 2) := by decide +kernel
theorem dX8_laysTable_73 : decode cX8_laysTable 73 = .ok (.if_icmp .ge 16, 3) := by decide +kernel
theorem dX8_laysTable_76 : decode cX8_laysTable 76 = .ok (.aload_n 0, 1) := by decide +kernel
theorem dX8_laysTable_77 : decode cX8_laysTable 77 = .ok (.getfield 33, 3) := by decide +kernel
theorem dX8_laysTable_80 : decode cX8_laysTable 80 = .ok (.iload_n 1, 1) := by decide +kernel
theorem dX8_laysTable_81 : decode cX8_laysTable 81 = .ok (.lconst 0, 1) := by decide +kernel
theorem dX8_laysTable_82 : decode cX8_laysTable 82 = .ok (.lastore, 1) := by decide +kernel
theorem dX8_laysTable_83 : decode cX8_laysTable 83 = .ok (.iinc 1 1, 3) := by decide +kernel
theorem dX8_laysTable_86 : decode cX8_laysTable 86 = .ok (.goto (-16), 3) := by decide +kernel
theorem dX8_laysTable_89 : decode cX8_laysTable 89 = .ok (.iconst 0, 1) := by decide +kernel
theorem dX8_laysTable_90 : decode cX8_laysTable 90 = .ok (.istore_n 1, 1) := by decide +kernel
theorem dX8_laysTable_91 : decode cX8_laysTable 91 = .ok (.iload_n 1, 1) := by decide +kernel
theorem dX8_laysTable_92 : decode cX8_laysTable 92 = .ok (.aload_n 0, 1) := by decide +kernel
theorem dX8_laysTable_93 : decode cX8_laysTable 93 = .ok (.getfield 13, 3) := by decide +kernel
theorem dX8_laysTable_96 : decode cX8_laysTable 96 = .ok (.iconst 0, 1) := by decide +kernel
theorem dX8_laysTable_97 : decode cX8_laysTable 97 = .ok (.iaload, 1) := by decide +kernel
theorem dX8_laysTable_98 : decode cX8_laysTable 98 = .ok (.if_icmp .ge 48, 3) := by decide +kernel
theorem dX8_laysTable_101 : decode cX8_laysTable 101 = .ok (.aload_n 0, 1) := by decide +kernel
theorem dX8_laysTable_102 : decode cX8_laysTable 102 = .ok (.iload_n 1, 1) := by decide +kernel
theorem dX8_laysTable_103 : decode cX8_laysTable 103 = .ok (.invokevirtual 134, 3) := by decide +kernel
theorem dX8_laysTable_106 : decode cX8_laysTable 106 = .ok (.ifCond .eq 34, 3) := by decide +kernel
theorem dX8_laysTable_109 : decode cX8_laysTable 109 = .ok (.aload_n 0, 1) := by decide +kernel
theorem dX8_laysTable_110 : decode cX8_laysTable 110 = .ok (.getfield 33, 3) := by decide +kernel
theorem dX8_laysTable_113 : decode cX8_laysTable 113 = .ok (.bipush 8, 2) := by decide +kernel
theorem dX8_laysTable_115 : decode cX8_laysTable 115 = .ok (.aload_n 0, 1) := by decide +kernel
theorem dX8_laysTable_116 : decode cX8_laysTable 116 = .ok (.getfield 37, 3) := by decide +kernel
theorem dX8_laysTable_119 : decode cX8_laysTable 119 = .ok (.iload_n 1, 1) := by decide +kernel
theorem dX8_laysTable_120 : decode cX8_laysTable 120 = .ok (.iaload, 1) := by decide +kernel
theorem dX8_laysTable_121 : decode cX8_laysTable 121 = .ok (.imul, 1) := by decide +kernel
theorem dX8_laysTable_122 : decode cX8_laysTable 122 = .ok (.iconst 5, 1) := by decide +kernel
theorem dX8_laysTable_123 : decode cX8_laysTable 123 = .ok (.iadd, 1) := by decide +kernel
theorem dX8_laysTable_124 : decode cX8_laysTable 124 = .ok (.iconst 2, 1) := by decide +kernel
theorem dX8_laysTable_125 : decode cX8_laysTable 125 = .ok (.iadd, 1) := by decide +kernel
theorem dX8_laysTable_126 : decode cX8_laysTable 126 = .ok (.dup2, 1) := by decide +kernel
theorem dX8_laysTable_127 : decode cX8_laysTable 127 = .ok (.laload, 1) := by decide +kernel
theorem dX8_laysTable_128 : decode cX8_laysTable 128 = .ok (.aload_n 0, 1) := by decide +kernel
theorem dX8_laysTable_129 : decode cX8_laysTable 129 = .ok (.getfield 13, 3) := by decide +kernel
theorem dX8_laysTable_132 : decode cX8_laysTable 132 = .ok (.bipush 44, 2) := by decide +kernel
theorem dX8_laysTable_134 : decode cX8_laysTable 134 = .ok (.iload_n 1, 1) := by decide +kernel
theorem dX8_laysTable_135 : decode cX8_laysTable 135 = .ok (.iadd, 1) := by decide +kernel
theorem dX8_laysTable_136 : decode cX8_laysTable 136 = .ok (.iaload, 1) := by decide +kernel
theorem dX8_laysTable_137 : decode cX8_laysTable 137 = .ok (.i2l, 1) := by decide +kernel
theorem dX8_laysTable_138 : decode cX8_laysTable 138 = .ok (.ladd, 1) := by decide +kernel
theorem dX8_laysTable_139 : decode cX8_laysTable 139 = .ok (.lastore, 1) := by decide +kernel
theorem dX8_laysTable_140 : decode cX8_laysTable 140 = .ok (.iinc 1 1, 3) := by decide +kernel
theorem dX8_laysTable_143 : decode cX8_laysTable 143 = .ok (.goto (-52), 3) := by decide +kernel
theorem dX8_laysTable_146 : decode cX8_laysTable 146 = .ok (.iconst 0, 1) := by decide +kernel
theorem dX8_laysTable_147 : decode cX8_laysTable 147 = .ok (.istore_n 1, 1) := by decide +kernel
theorem dX8_laysTable_148 : decode cX8_laysTable 148 = .ok (.iload_n 1, 1) := by decide +kernel
theorem dX8_laysTable_149 : decode cX8_laysTable 149 = .ok (.aload_n 0, 1) := by decide +kernel
theorem dX8_laysTable_150 : decode cX8_laysTable 150 = .ok (.getfield 13, 3) := by decide +kernel
theorem dX8_laysTable_153 : decode cX8_laysTable 153 = .ok (.iconst 1, 1) := by decide +kernel
theorem dX8_laysTable_154 : decode cX8_laysTable 154 = .ok (.iaload, 1) := by decide +kernel
theorem dX8_laysTable_155 : decode cX8_laysTable 155 = .ok (.if_icmp .ge 39, 3) := by decide +kernel
theorem dX8_laysTable_158 : decode cX8_laysTable 158 = .ok (.aload_n 0, 1) := by decide +kernel
theorem dX8_laysTable_159 : decode cX8_laysTable 159 = .ok (.iload_n 1, 1) := by decide +kernel
theorem dX8_laysTable_160 : decode cX8_laysTable 160 = .ok (.invokevirtual 137, 3) := by decide +kernel
theorem dX8_laysTable_163 : decode cX8_laysTable 163 = .ok (.ifCond .eq 25, 3) := by decide +kernel
theorem dX8_laysTable_166 : decode cX8_laysTable 166 = .ok (.aload_n 0, 1) := by decide +kernel
theorem dX8_laysTable_167 : decode cX8_laysTable 167 = .ok (.iload_n 1, 1) := by decide +kernel
theorem dX8_laysTable_168 : decode cX8_laysTable 168 = .ok (.aload_n 0, 1) := by decide +kernel
theorem dX8_laysTable_169 : decode cX8_laysTable 169 = .ok (.iload_n 1, 1) := by decide +kernel
theorem dX8_laysTable_170 : decode cX8_laysTable 170 = .ok (.iconst 0, 1) := by decide +kernel
theorem dX8_laysTable_171 : decode cX8_laysTable 171 = .ok (.invokevirtual 131, 3) := by decide +kernel
theorem dX8_laysTable_174 : decode cX8_laysTable 174 = .ok (.invokevirtual 143, 3) := by decide +kernel
theorem dX8_laysTable_177 : decode cX8_laysTable 177 = .ok (.aload_n 0, 1) := by decide +kernel
theorem dX8_laysTable_178 : decode cX8_laysTable 178 = .ok (.iload_n 1, 1) := by decide +kernel
theorem dX8_laysTable_179 : decode cX8_laysTable 179 = .ok (.aload_n 0, 1) := by decide +kernel
theorem dX8_laysTable_180 : decode cX8_laysTable 180 = .ok (.iload_n 1, 1) := by decide +kernel
theorem dX8_laysTable_181 : decode cX8_laysTable 181 = .ok (.iconst 1, 1) := by decide +kernel
theorem dX8_laysTable_182 : decode cX8_laysTable 182 = .ok (.invokevirtual 131, 3) := by decide +kernel
theorem dX8_laysTable_185 : decode cX8_laysTable 185 = .ok (.invokevirtual 143, 3) := by decide +kernel
theorem dX8_laysTable_188 : decode cX8_laysTable 188 = .ok (.iinc 1 1, 3) := by decide +kernel
theorem dX8_laysTable_191 : decode cX8_laysTable 191 = .ok (.goto (-43), 3) := by decide +kernel
theorem dX8_laysTable_194 : decode cX8_laysTable 194 = .ok (.return_, 1) := by decide +kernel
theorem dX8_laysEnd_0 : decode cX8_laysEnd 0 = .ok (.aload_n 0, 1) := by decide +kernel
theorem dX8_laysEnd_1 : decode cX8_laysEnd 1 = .ok (.iload_n 2, 1) := by decide +kernel
theorem dX8_laysEnd_2 : decode cX8_laysEnd 2 = .ok (.invokevirtual 134, 3) := by decide +kernel
theorem dX8_laysEnd_5 : decode cX8_laysEnd 5 = .ok (.ifCond .ne 4, 3) := by decide +kernel
theorem dX8_laysEnd_8 : decode cX8_laysEnd 8 = .ok (.return_, 1) := by decide +kernel
theorem dX8_laysEnd_9 : decode cX8_laysEnd 9 = .ok (.bipush 8, 2) := by decide +kernel
theorem dX8_laysEnd_11 : decode cX8_laysEnd 11 = .ok (.aload_n 0, 1) := by decide +kernel
theorem dX8_laysEnd_12 : decode cX8_laysEnd 12 = .ok (.getfield 37, 3) := by decide +kernel
theorem dX8_laysEnd_15 : decode cX8_laysEnd 15 = .ok (.iload_n 2, 1) := by decide +kernel
theorem dX8_laysEnd_16 : decode cX8_laysEnd 16 = .ok (.iaload, 1) := by decide +kernel
theorem dX8_laysEnd_17 : decode cX8_laysEnd 17 = .ok (.imul, 1) := by decide +kernel
theorem dX8_laysEnd_18 : decode cX8_laysEnd 18 = .ok (.istore_n 3, 1) := by decide +kernel
theorem dX8_laysEnd_19 : decode cX8_laysEnd 19 = .ok (.aload_n 0, 1) := by decide +kernel
theorem dX8_laysEnd_20 : decode cX8_laysEnd 20 = .ok (.iload_n 1, 1) := by decide +kernel
theorem dX8_laysEnd_21 : decode cX8_laysEnd 21 = .ok (.iload_n 2, 1) := by decide +kernel
theorem dX8_laysEnd_22 : decode cX8_laysEnd 22 = .ok (.invokevirtual 147, 3) := by decide +kernel
theorem dX8_laysEnd_25 : decode cX8_laysEnd 25 = .ok (.istore 4, 2) := by decide +kernel
theorem dX8_laysEnd_27 : decode cX8_laysEnd 27 = .ok (.aload_n 0, 1) := by decide +kernel
theorem dX8_laysEnd_28 : decode cX8_laysEnd 28 = .ok (.iload_n 1, 1) := by decide +kernel
theorem dX8_laysEnd_29 : decode cX8_laysEnd 29 = .ok (.iconst 2, 1) := by decide +kernel
theorem dX8_laysEnd_30 : decode cX8_laysEnd 30 = .ok (.invokevirtual 131, 3) := by decide +kernel
theorem dX8_laysEnd_33 : decode cX8_laysEnd 33 = .ok (.istore 5, 2) := by decide +kernel
theorem dX8_laysEnd_35 : decode cX8_laysEnd 35 = .ok (.aload_n 0, 1) := by decide +kernel
theorem dX8_laysEnd_36 : decode cX8_laysEnd 36 = .ok (.getfield 33, 3) := by decide +kernel
theorem dX8_laysEnd_39 : decode cX8_laysEnd 39 = .ok (.iload_n 3, 1) := by decide +kernel
theorem dX8_laysEnd_40 : decode cX8_laysEnd 40 = .ok (.aload_n 0, 1) := by decide +kernel
theorem dX8_laysEnd_41 : decode cX8_laysEnd 41 = .ok (.getfield 37, 3) := by decide +kernel
theorem dX8_laysEnd_44 : decode cX8_laysEnd 44 = .ok (.iload_n 2, 1) := by decide +kernel
theorem dX8_laysEnd_45 : decode cX8_laysEnd 45 = .ok (.iaload, 1) := by decide +kernel
theorem dX8_laysEnd_46 : decode cX8_laysEnd 46 = .ok (.iadd, 1) := by decide +kernel
theorem dX8_laysEnd_47 : decode cX8_laysEnd 47 = .ok (.dup2, 1) := by decide +kernel
theorem dX8_laysEnd_48 : decode cX8_laysEnd 48 = .ok (.laload, 1) := by decide +kernel
theorem dX8_laysEnd_49 : decode cX8_laysEnd 49 = .ok (.iload 5, 2) := by decide +kernel
theorem dX8_laysEnd_51 : decode cX8_laysEnd 51 = .ok (.i2l, 1) := by decide +kernel
theorem dX8_laysEnd_52 : decode cX8_laysEnd 52 = .ok (.ladd, 1) := by decide +kernel
theorem dX8_laysEnd_53 : decode cX8_laysEnd 53 = .ok (.lastore, 1) := by decide +kernel
theorem dX8_laysEnd_54 : decode cX8_laysEnd 54 = .ok (.aload_n 0, 1) := by decide +kernel
theorem dX8_laysEnd_55 : decode cX8_laysEnd 55 = .ok (.iload 4, 2) := by decide +kernel
theorem dX8_laysEnd_57 : decode cX8_laysEnd 57 = .ok (.invokevirtual 134, 3) := by decide +kernel
theorem dX8_laysEnd_60 : decode cX8_laysEnd 60 = .ok (.ifCond .eq 23, 3) := by decide +kernel
theorem dX8_laysEnd_63 : decode cX8_laysEnd 63 = .ok (.aload_n 0, 1) := by decide +kernel
theorem dX8_laysEnd_64 : decode cX8_laysEnd 64 = .ok (.getfield 33, 3) := by decide +kernel
theorem dX8_laysEnd_67 : decode cX8_laysEnd 67 = .ok (.iload_n 3, 1) := by decide +kernel
theorem dX8_laysEnd_68 : decode cX8_laysEnd 68 = .ok (.aload_n 0, 1) := by decide +kernel
theorem dX8_laysEnd_69 : decode cX8_laysEnd 69 = .ok (.getfield 37, 3) := by decide +kernel
theorem dX8_laysEnd_72 : decode cX8_laysEnd 72 = .ok (.iload 4, 2) := by decide +kernel
theorem dX8_laysEnd_74 : decode cX8_laysEnd 74 = .ok (.iaload, 1) := by decide +kernel
theorem dX8_laysEnd_75 : decode cX8_laysEnd 75 = .ok (.iadd, 1) := by decide +kernel
theorem dX8_laysEnd_76 : decode cX8_laysEnd 76 = .ok (.dup2, 1) := by decide +kernel
theorem dX8_laysEnd_77 : decode cX8_laysEnd 77 = .ok (.laload, 1) := by decide +kernel
theorem dX8_laysEnd_78 : decode cX8_laysEnd 78 = .ok (.iload 5, 2) := by decide +kernel
theorem dX8_laysEnd_80 : decode cX8_laysEnd 80 = .ok (.i2l, 1) := by decide +kernel
theorem dX8_laysEnd_81 : decode cX8_laysEnd 81 = .ok (.lsub, 1) := by decide +kernel
theorem dX8_laysEnd_82 : decode cX8_laysEnd 82 = .ok (.lastore, 1) := by decide +kernel
theorem dX8_laysEnd_83 : decode cX8_laysEnd 83 = .ok (.iconst 0, 1) := by decide +kernel
theorem dX8_laysEnd_84 : decode cX8_laysEnd 84 = .ok (.istore 6, 2) := by decide +kernel
theorem dX8_laysEnd_86 : decode cX8_laysEnd 86 = .ok (.iload 6, 2) := by decide +kernel
theorem dX8_laysEnd_88 : decode cX8_laysEnd 88 = .ok (.iconst 3, 1) := by decide +kernel
theorem dX8_laysEnd_89 : decode cX8_laysEnd 89 = .ok (.if_icmp .ge 52, 3) := by decide +kernel
theorem dX8_laysEnd_92 : decode cX8_laysEnd 92 = .ok (.aload_n 0, 1) := by decide +kernel
theorem dX8_laysEnd_93 : decode cX8_laysEnd 93 = .ok (.iload 4, 2) := by decide +kernel
theorem dX8_laysEnd_95 : decode cX8_laysEnd 95 = .ok (.invokevirtual 134, 3) := by decide +kernel
theorem dX8_laysEnd_98 : decode cX8_laysEnd 98 = .ok (.ifCond .ne 43, 3) := by decide +kernel
theorem dX8_laysEnd_101 : decode cX8_laysEnd 101 = .ok (.aload_n 0, 1) := by decide +kernel
theorem dX8_laysEnd_102 : decode cX8_laysEnd 102 = .ok (.getfield 33, 3) := by decide +kernel
theorem dX8_laysEnd_105 : decode cX8_laysEnd 105 = .ok (.iload_n 3, 1) := by decide +kernel
theorem dX8_laysEnd_106 : decode cX8_laysEnd 106 = .ok (.iconst 5, 1) := by decide +kernel
theorem dX8_laysEnd_107 : decode cX8_laysEnd 107 = .ok (.iadd, 1) := by decide +kernel
theorem dX8_laysEnd_108 : decode cX8_laysEnd 108 = .ok (.iload 6, 2) := by decide +kernel
theorem dX8_laysEnd_110 : decode cX8_laysEnd 110 = .ok (.iadd, 1) := by decide +kernel
theorem dX8_laysEnd_111 : decode cX8_laysEnd 111 = .ok (.dup2, 1) := by decide +kernel
theorem dX8_laysEnd_112 : decode cX8_laysEnd 112 = .ok (.laload, 1) := by decide +kernel
theorem dX8_laysEnd_113 : decode cX8_laysEnd 113 = .ok (.iload 5, 2) := by decide +kernel
theorem dX8_laysEnd_115 : decode cX8_laysEnd 115 = .ok (.i2l, 1) := by decide +kernel
theorem dX8_laysEnd_116 : decode cX8_laysEnd 116 = .ok (.aload_n 0, 1) := by decide +kernel
theorem dX8_laysEnd_117 : decode cX8_laysEnd 117 = .ok (.getfield 13, 3) := by decide +kernel
theorem dX8_laysEnd_120 : decode cX8_laysEnd 120 = .ok (.bipush 14, 2) := by decide +kernel
theorem dX8_laysEnd_122 : decode cX8_laysEnd 122 = .ok (.iconst 3, 1) := by decide +kernel
theorem dX8_laysEnd_123 : decode cX8_laysEnd 123 = .ok (.iload 4, 2) := by decide +kernel
theorem dX8_laysEnd_125 : decode cX8_laysEnd 125 = .ok (.imul, 1) := by decide +kernel
theorem dX8_laysEnd_126 : decode cX8_laysEnd 126 = .ok (.iadd, 1) := by decide +kernel
theorem dX8_laysEnd_127 : decode cX8_laysEnd 127 = .ok (.iload 6, 2) := by decide +kernel
theorem dX8_laysEnd_129 : decode cX8_laysEnd 129 = .ok (.iadd, 1) := by decide +kernel
theorem dX8_laysEnd_130 : decode cX8_laysEnd 130 = .ok (.iaload, 1) := by decide +kernel
theorem dX8_laysEnd_131 : decode cX8_laysEnd 131 = .ok (.i2l, 1) := by decide +kernel
theorem dX8_laysEnd_132 : decode cX8_laysEnd 132 = .ok (.lmul, 1) := by decide +kernel
theorem dX8_laysEnd_133 : decode cX8_laysEnd 133 = .ok (.ladd, 1) := by decide +kernel
theorem dX8_laysEnd_134 : decode cX8_laysEnd 134 = .ok (.lastore, 1) := by decide +kernel
theorem dX8_laysEnd_135 : decode cX8_laysEnd 135 = .ok (.iinc 6 1, 3) := by decide +kernel
theorem dX8_laysEnd_138 : decode cX8_laysEnd 138 = .ok (.goto (-52), 3) := by decide +kernel
theorem dX8_laysEnd_141 : decode cX8_laysEnd 141 = .ok (.return_, 1) := by decide +kernel
theorem dX8_lays_0 : decode cX8_lays 0 = .ok (.aload_n 0, 1) := by decide +kernel
theorem dX8_lays_1 : decode cX8_lays 1 = .ok (.bipush (-4), 2) := by decide +kernel
theorem dX8_lays_3 : decode cX8_lays 3 = .ok (.invokevirtual 150, 3) := by decide +kernel
theorem dX8_lays_6 : decode cX8_lays 6 = .ok (.ifCond .ne 5, 3) := by decide +kernel
theorem dX8_lays_9 : decode cX8_lays 9 = .ok (.iconst 0, 1) := by decide +kernel
theorem dX8_lays_10 : decode cX8_lays 10 = .ok (.ireturn, 1) := by decide +kernel
theorem dX8_lays_11 : decode cX8_lays 11 = .ok (.aload_n 0, 1) := by decide +kernel
theorem dX8_lays_12 : decode cX8_lays 12 = .ok (.invokevirtual 153, 3) := by decide +kernel
theorem dX8_lays_15 : decode cX8_lays 15 = .ok (.lconst 1, 1) := by decide +kernel
theorem dX8_lays_16 : decode cX8_lays 16 = .ok (.lstore_n 1, 1) := by decide +kernel
theorem dX8_lays_17 : decode cX8_lays 17 = .ok (.iconst 0, 1) := by decide +kernel
theorem dX8_lays_18 : decode cX8_lays 18 = .ok (.istore_n 3, 1) := by decide +kernel
theorem dX8_lays_19 : decode cX8_lays 19 = .ok (.iload_n 3, 1) := by decide +kernel
theorem dX8_lays_20 : decode cX8_lays 20 = .ok (.aload_n 0, 1) := by decide +kernel
theorem dX8_lays_21 : decode cX8_lays 21 = .ok (.getfield 140, 3) := by decide +kernel
theorem dX8_lays_24 : decode cX8_lays 24 = .ok (.if_icmp .ge 126, 3) := by decide +kernel
theorem dX8_lays_27 : decode cX8_lays 27 = .ok (.aload_n 0, 1) := by decide +kernel
theorem dX8_lays_28 : decode cX8_lays 28 = .ok (.getfield 33, 3) := by decide +kernel
theorem dX8_lays_31 : decode cX8_lays 31 = .ok (.bipush 8, 2) := by decide +kernel
theorem dX8_lays_33 : decode cX8_lays 33 = .ok (.iload_n 3, 1) := by decide +kernel
theorem dX8_lays_34 : decode cX8_lays 34 = .ok (.imul, 1) := by decide +kernel
theorem dX8_lays_35 : decode cX8_lays 35 = .ok (.iload_n 3, 1) := by decide +kernel
theorem dX8_lays_36 : decode cX8_lays 36 = .ok (.iadd, 1) := by decide +kernel
theorem dX8_lays_37 : decode cX8_lays 37 = .ok (.laload, 1) := by decide +kernel
theorem dX8_lays_38 : decode cX8_lays 38 = .ok (.lstore 4, 2) := by decide +kernel
theorem dX8_lays_40 : decode cX8_lays 40 = .ok (.iconst 0, 1) := by decide +kernel
theorem dX8_lays_41 : decode cX8_lays 41 = .ok (.istore 6, 2) := by decide +kernel
theorem dX8_lays_43 : decode cX8_lays 43 = .ok (.iload 6, 2) := by decide +kernel
theorem dX8_lays_45 : decode cX8_lays 45 = .ok (.aload_n 0, 1) := by decide +kernel
theorem dX8_lays_46 : decode cX8_lays 46 = .ok (.getfield 140, 3) := by decide +kernel
theorem dX8_lays_49 : decode cX8_lays 49 = .ok (.if_icmp .ge 92, 3) := by decide +kernel
theorem dX8_lays_52 : decode cX8_lays 52 = .ok (.aload_n 0, 1) := by decide +kernel
theorem dX8_lays_53 : decode cX8_lays 53 = .ok (.getfield 33, 3) := by decide +kernel
theorem dX8_lays_56 : decode cX8_lays 56 = .ok (.bipush 8, 2) := by decide +kernel
theorem dX8_lays_58 : decode cX8_lays 58 = .ok (.iload 6, 2) := by decide +kernel
theorem dX8_lays_60 : decode cX8_lays 60 = .ok (.imul, 1) := by decide +kernel
theorem dX8_lays_61 : decode cX8_lays 61 = .ok (.iload_n 3, 1) := by decide +kernel
theorem dX8_lays_62 : decode cX8_lays 62 = .ok (.iadd, 1) := by decide +kernel
theorem dX8_lays_63 : decode cX8_lays 63 = .ok (.laload, 1) := by decide +kernel
theorem dX8_lays_64 : decode cX8_lays 64 = .ok (.lstore 7, 2) := by decide +kernel
theorem dX8_lays_66 : decode cX8_lays 66 = .ok (.iconst 0, 1) := by decide +kernel
theorem dX8_lays_67 : decode cX8_lays 67 = .ok (.istore 9, 2) := by decide +kernel
theorem dX8_lays_69 : decode cX8_lays 69 = .ok (.iload 9, 2) := by decide +kernel
theorem dX8_lays_71 : decode cX8_lays 71 = .ok (.bipush 8, 2) := by decide +kernel
theorem dX8_lays_73 : decode cX8_lays 73 = .ok (.if_icmp .ge 62, 3) := by decide +kernel
theorem dX8_lays_76 : decode cX8_lays 76 = .ok (.iload 6, 2) := by decide +kernel
theorem dX8_lays_78 : decode cX8_lays 78 = .ok (.iload_n 3, 1) := by decide +kernel
theorem dX8_lays_79 : decode cX8_lays 79 = .ok (.if_icmp .eq 56, 3) := by decide +kernel
theorem dX8_lays_82 : decode cX8_lays 82 = .ok (.aload_n 0, 1) := by decide +kernel
theorem dX8_lays_83 : decode cX8_lays 83 = .ok (.getfield 33, 3) := by decide +kernel
theorem dX8_lays_86 : decode cX8_lays 86 = .ok (.bipush 8, 2) := by decide +kernel
theorem dX8_lays_88 : decode cX8_lays 88 = .ok (.iload 6, 2) := by decide +kernel
theorem dX8_lays_90 : decode cX8_lays 90 = .ok (.imul, 1) := by decide +kernel
theorem dX8_lays_91 : decode cX8_lays 91 = .ok (.iload 9, 2) := by decide +kernel
theorem dX8_lays_93 : decode cX8_lays 93 = .ok (.iadd, 1) := by decide +kernel
theorem dX8_lays_94 : decode cX8_lays 94 = .ok (.lload 4, 2) := by decide +kernel
theorem dX8_lays_96 : decode cX8_lays 96 = .ok (.aload_n 0, 1) := by decide +kernel
theorem dX8_lays_97 : decode cX8_lays 97 = .ok (.getfield 33, 3) := by decide +kernel
theorem dX8_lays_100 : decode cX8_lays 100 = .ok (.bipush 8, 2) := by decide +kernel
theorem dX8_lays_102 : decode cX8_lays 102 = .ok (.iload 6, 2) := by decide +kernel
theorem dX8_lays_104 : decode cX8_lays 104 = .ok (.imul, 1) := by decide +kernel
theorem dX8_lays_105 : decode cX8_lays 105 = .ok (.iload 9, 2) := by decide +kernel
theorem dX8_lays_107 : decode cX8_lays 107 = .ok (.iadd, 1) := by decide +kernel
theorem dX8_lays_108 : decode cX8_lays 108 = .ok (.laload, 1) := by decide +kernel
theorem dX8_lays_109 : decode cX8_lays 109 = .ok (.lmul, 1) := by decide +kernel
theorem dX8_lays_110 : decode cX8_lays 110 = .ok (.lload 7, 2) := by decide +kernel
theorem dX8_lays_112 : decode cX8_lays 112 = .ok (.aload_n 0, 1) := by decide +kernel
theorem dX8_lays_113 : decode cX8_lays 113 = .ok (.getfield 33, 3) := by decide +kernel
theorem dX8_lays_116 : decode cX8_lays 116 = .ok (.bipush 8, 2) := by decide +kernel
theorem dX8_lays_118 : decode cX8_lays 118 = .ok (.iload_n 3, 1) := by decide +kernel
theorem dX8_lays_119 : decode cX8_lays 119 = .ok (.imul, 1) := by decide +kernel
theorem dX8_lays_120 : decode cX8_lays 120 = .ok (.iload 9, 2) := by decide +kernel
theorem dX8_lays_122 : decode cX8_lays 122 = .ok (.iadd, 1) := by decide +kernel
theorem dX8_lays_123 : decode cX8_lays 123 = .ok (.laload, 1) := by decide +kernel
theorem dX8_lays_124 : decode cX8_lays 124 = .ok (.lmul, 1) := by decide +kernel
theorem dX8_lays_125 : decode cX8_lays 125 = .ok (.lsub, 1) := by decide +kernel
theorem dX8_lays_126 : decode cX8_lays 126 = .ok (.lload_n 1, 1) := by decide +kernel
theorem dX8_lays_127 : decode cX8_lays 127 = .ok (.ldiv, 1) := by decide +kernel
theorem dX8_lays_128 : decode cX8_lays 128 = .ok (.lastore, 1) := by decide +kernel
theorem dX8_lays_129 : decode cX8_lays 129 = .ok (.iinc 9 1, 3) := by decide +kernel
theorem dX8_lays_132 : decode cX8_lays 132 = .ok (.goto (-63), 3) := by decide +kernel
theorem dX8_lays_135 : decode cX8_lays 135 = .ok (.iinc 6 1, 3) := by decide +kernel
theorem dX8_lays_138 : decode cX8_lays 138 = .ok (.goto (-95), 3) := by decide +kernel
theorem dX8_lays_141 : decode cX8_lays 141 = .ok (.lload 4, 2) := by decide +kernel
theorem dX8_lays_143 : decode cX8_lays 143 = .ok (.lstore_n 1, 1) := by decide +kernel
theorem dX8_lays_144 : decode cX8_lays 144 = .ok (.iinc 3 1, 3) := by decide +kernel
theorem dX8_lays_147 : decode cX8_lays 147 = .ok (.goto (-128), 3) := by decide +kernel
theorem dX8_lays_150 : decode cX8_lays 150 = .ok (.aload_n 0, 1) := by decide +kernel
theorem dX8_lays_151 : decode cX8_lays 151 = .ok (.lload_n 1, 1) := by decide +kernel
theorem dX8_lays_152 : decode cX8_lays 152 = .ok (.putfield 156, 3) := by decide +kernel
theorem dX8_lays_155 : decode cX8_lays 155 = .ok (.iconst 0, 1) := by decide +kernel
theorem dX8_lays_156 : decode cX8_lays 156 = .ok (.istore_n 3, 1) := by decide +kernel
theorem dX8_lays_157 : decode cX8_lays 157 = .ok (.iload_n 3, 1) := by decide +kernel
theorem dX8_lays_158 : decode cX8_lays 158 = .ok (.aload_n 0, 1) := by decide +kernel
theorem dX8_lays_159 : decode cX8_lays 159 = .ok (.getfield 13, 3) := by decide +kernel
theorem dX8_lays_162 : decode cX8_lays 162 = .ok (.iconst 0, 1) := by decide +kernel
theorem dX8_lays_163 : decode cX8_lays 163 = .ok (.iaload, 1) := by decide +kernel
theorem dX8_lays_164 : decode cX8_lays 164 = .ok (.if_icmp .ge 119, 3) := by decide +kernel
theorem dX8_lays_167 : decode cX8_lays 167 = .ok (.iconst 0, 1) := by decide +kernel
theorem dX8_lays_168 : decode cX8_lays 168 = .ok (.istore 4, 2) := by decide +kernel
theorem dX8_lays_170 : decode cX8_lays 170 = .ok (.iload 4, 2) := by decide +kernel
theorem dX8_lays_172 : decode cX8_lays 172 = .ok (.iconst 3, 1) := by decide +kernel
theorem dX8_lays_173 : decode cX8_lays 173 = .ok (.if_icmp .ge 104, 3) := by decide +kernel
theorem dX8_lays_176 : decode cX8_lays 176 = .ok (.aload_n 0, 1) := by decide +kernel
theorem dX8_lays_177 : decode cX8_lays 177 = .ok (.getfield 40, 3) := by decide +kernel
theorem dX8_lays_180 : decode cX8_lays 180 = .ok (.iconst 3, 1) := by decide +kernel
theorem dX8_lays_181 : decode cX8_lays 181 = .ok (.iload_n 3, 1) := by decide +kernel
theorem dX8_lays_182 : decode cX8_lays 182 = .ok (.imul, 1) := by decide +kernel
theorem dX8_lays_183 : decode cX8_lays 183 = .ok (.iload 4, 2) := by decide +kernel
theorem dX8_lays_185 : decode cX8_lays 185 = .ok (.iadd, 1) := by decide +kernel
theorem dX8_lays_186 : decode cX8_lays 186 = .ok (.aload_n 0, 1) := by decide +kernel
theorem dX8_lays_187 : decode cX8_lays 187 = .ok (.iload_n 3, 1) := by decide +kernel
theorem dX8_lays_188 : decode cX8_lays 188 = .ok (.invokevirtual 134, 3) := by decide +kernel
theorem dX8_lays_191 : decode cX8_lays 191 = .ok (.ifCond .eq 25, 3) := by decide +kernel
theorem dX8_lays_194 : decode cX8_lays 194 = .ok (.aload_n 0, 1) := by decide +kernel
theorem dX8_lays_195 : decode cX8_lays 195 = .ok (.getfield 33, 3) := by decide +kernel
theorem dX8_lays_198 : decode cX8_lays 198 = .ok (.bipush 8, 2) := by decide +kernel
theorem dX8_lays_200 : decode cX8_lays 200 = .ok (.aload_n 0, 1) := by decide +kernel
theorem dX8_lays_201 : decode cX8_lays 201 = .ok (.getfield 37, 3) := by decide +kernel
theorem dX8_lays_204 : decode cX8_lays 204 = .ok (.iload_n 3, 1) := by decide +kernel
theorem dX8_lays_205 : decode cX8_lays 205 = .ok (.iaload, 1) := by decide +kernel
theorem dX8_lays_206 : decode cX8_lays 206 = .ok (.imul, 1) := by decide +kernel
theorem dX8_lays_207 : decode cX8_lays 207 = .ok (.iconst 5, 1) := by decide +kernel
theorem dX8_lays_208 : decode cX8_lays 208 = .ok (.iadd, 1) := by decide +kernel
theorem dX8_lays_209 : decode cX8_lays 209 = .ok (.iload 4, 2) := by decide +kernel
theorem dX8_lays_211 : decode cX8_lays 211 = .ok (.iadd, 1) := by decide +kernel
theorem dX8_lays_212 : decode cX8_lays 212 = .ok (.laload, 1) := by decide +kernel
theorem dX8_lays_213 : decode cX8_lays 213 = .ok (.goto 23, 3) := by decide +kernel
theorem dX8_lays_216 : decode cX8_lays 216 = .ok (.aload_n 0, 1) := by decide +kernel
theorem dX8_lays_217 : decode cX8_lays 217 = .ok (.getfield 156, 3) := by decide +kernel
theorem dX8_lays_220 : decode cX8_lays 220 = .ok (.aload_n 0, 1) := by decide +kernel
theorem dX8_lays_221 : decode cX8_lays 221 = .ok (.getfield 13, 3) := by decide +kernel
theorem dX8_lays_224 : decode cX8_lays 224 = .ok (.bipush 14, 2) := by decide +kernel
theorem dX8_lays_226 : decode cX8_lays 226 = .ok (.iconst 3, 1) := by decide +kernel
theorem dX8_lays_227 : decode cX8_lays 227 = .ok (.iload_n 3, 1) := by decide +kernel
theorem dX8_lays_228 : decode cX8_lays 228 = .ok (.imul, 1) := by decide +kernel
theorem dX8_lays_229 : decode cX8_lays 229 = .ok (.iadd, 1) := by decide +kernel
theorem dX8_lays_230 : decode cX8_lays 230 = .ok (.iload 4, 2) := by decide +kernel
theorem dX8_lays_232 : decode cX8_lays 232 = .ok (.iadd, 1) := by decide +kernel
theorem dX8_lays_233 : decode cX8_lays 233 = .ok (.iaload, 1) := by decide +kernel
theorem dX8_lays_234 : decode cX8_lays 234 = .ok (.i2l, 1) := by decide +kernel
theorem dX8_lays_235 : decode cX8_lays 235 = .ok (.lmul, 1) := by decide +kernel
theorem dX8_lays_236 : decode cX8_lays 236 = .ok (.lastore, 1) := by decide +kernel
theorem dX8_lays_237 : decode cX8_lays 237 = .ok (.aload_n 0, 1) := by decide +kernel
theorem dX8_lays_238 : decode cX8_lays 238 = .ok (.getfield 43, 3) := by decide +kernel
theorem dX8_lays_241 : decode cX8_lays 241 = .ok (.iconst 3, 1) := by decide +kernel
theorem dX8_lays_242 : decode cX8_lays 242 = .ok (.iload_n 3, 1) := by decide +kernel
theorem dX8_lays_243 : decode cX8_lays 243 = .ok (.imul, 1) := by decide +kernel
theorem dX8_lays_244 : decode cX8_lays 244 = .ok (.iload 4, 2) := by decide +kernel
theorem dX8_lays_246 : decode cX8_lays 246 = .ok (.iadd, 1) := by decide +kernel
theorem dX8_lays_247 : decode cX8_lays 247 = .ok (.ldc2_w 160, 3) := by decide +kernel
theorem dX8_lays_250 : decode cX8_lays 250 = .ok (.aload_n 0, 1) := by decide +kernel
theorem dX8_lays_251 : decode cX8_lays 251 = .ok (.getfield 40, 3) := by decide +kernel
theorem dX8_lays_254 : decode cX8_lays 254 = .ok (.iconst 3, 1) := by decide +kernel
theorem dX8_lays_255 : decode cX8_lays 255 = .ok (.iload_n 3, 1) := by decide +kernel
theorem dX8_lays_256 : decode cX8_lays 256 = .ok (.imul, 1) := by decide +kernel
theorem dX8_lays_257 : decode cX8_lays 257 = .ok (.iload 4, 2) := by decide +kernel
theorem dX8_lays_259 : decode cX8_lays 259 = .ok (.iadd, 1) := by decide +kernel
theorem dX8_lays_260 : decode cX8_lays 260 = .ok (.laload, 1) := by decide +kernel
theorem dX8_lays_261 : decode cX8_lays 261 = .ok (.lmul, 1) := by decide +kernel
theorem dX8_lays_262 : decode cX8_lays 262 = .ok (.aload_n 0, 1) := by decide +kernel
theorem dX8_lays_263 : decode cX8_lays 263 = .ok (.getfield 156, 3) := by decide +kernel
theorem dX8_lays_266 : decode cX8_lays 266 = .ok (.invokestatic 162, 3) := by decide +kernel
theorem dX8_lays_269 : decode cX8_lays 269 = .ok (.l2i, 1) := by decide +kernel
theorem dX8_lays_270 : decode cX8_lays 270 = .ok (.iastore, 1) := by decide +kernel
theorem dX8_lays_271 : decode cX8_lays 271 = .ok (.iinc 4 1, 3) := by decide +kernel
theorem dX8_lays_274 : decode cX8_lays 274 = .ok (.goto (-104), 3) := by decide +kernel
theorem dX8_lays_277 : decode cX8_lays 277 = .ok (.iinc 3 1, 3) := by decide +kernel
theorem dX8_lays_280 : decode cX8_lays 280 = .ok (.goto (-123), 3) := by decide +kernel
theorem dX8_lays_283 : decode cX8_lays 283 = .ok (.iconst 1, 1) := by decide +kernel
theorem dX8_lays_284 : decode cX8_lays 284 = .ok (.ireturn, 1) := by decide +kernel
theorem dX8_down_0 : decode cX8_down 0 = .ok (.lload_n 0, 1) := by decide +kernel
theorem dX8_down_1 : decode cX8_down 1 = .ok (.lconst 0, 1) := by decide +kernel
theorem dX8_down_2 : decode cX8_down 2 = .ok (.lcmp, 1) := by decide +kernel
theorem dX8_down_3 : decode cX8_down 3 = .ok (.ifCond .lt 9, 3) := by decide +kernel
theorem dX8_down_6 : decode cX8_down 6 = .ok (.lload_n 0, 1) := by decide +kernel
theorem dX8_down_7 : decode cX8_down 7 = .ok (.lload_n 2, 1) := by decide +kernel
theorem dX8_down_8 : decode cX8_down 8 = .ok (.ldiv, 1) := by decide +kernel
theorem dX8_down_9 : decode cX8_down 9 = .ok (.goto 12, 3) := by decide +kernel
theorem dX8_down_12 : decode cX8_down 12 = .ok (.lload_n 0, 1) := by decide +kernel
theorem dX8_down_13 : decode cX8_down 13 = .ok (.lneg, 1) := by decide +kernel
theorem dX8_down_14 : decode cX8_down 14 = .ok (.lload_n 2, 1) := by decide +kernel
theorem dX8_down_15 : decode cX8_down 15 = .ok (.ladd, 1) := by decide +kernel
theorem dX8_down_16 : decode cX8_down 16 = .ok (.lconst 1, 1) := by decide +kernel
theorem dX8_down_17 : decode cX8_down 17 = .ok (.lsub, 1) := by decide +kernel
theorem dX8_down_18 : decode cX8_down 18 = .ok (.lload_n 2, 1) := by decide +kernel
theorem dX8_down_19 : decode cX8_down 19 = .ok (.ldiv, 1) := by decide +kernel
theorem dX8_down_20 : decode cX8_down 20 = .ok (.lneg, 1) := by decide +kernel
theorem dX8_down_21 : decode cX8_down 21 = .ok (.lreturn, 1) := by decide +kernel
theorem dX8_root_0 : decode cX8_root 0 = .ok (.lconst 0, 1) := by decide +kernel
theorem dX8_root_1 : decode cX8_root 1 = .ok (.lstore_n 2, 1) := by decide +kernel
theorem dX8_root_2 : decode cX8_root 2 = .ok (.ldc2_w 166, 3) := by decide +kernel
theorem dX8_root_5 : decode cX8_root 5 = .ok (.lstore 4, 2) := by decide +kernel
theorem dX8_root_7 : decode cX8_root 7 = .ok (.lload_n 2, 1) := by decide +kernel
theorem dX8_root_8 : decode cX8_root 8 = .ok (.lload 4, 2) := by decide +kernel
theorem dX8_root_10 : decode cX8_root 10 = .ok (.lcmp, 1) := by decide +kernel
theorem dX8_root_11 : decode cX8_root 11 = .ok (.ifCond .ge 40, 3) := by decide +kernel
theorem dX8_root_14 : decode cX8_root 14 = .ok (.lload_n 2, 1) := by decide +kernel
theorem dX8_root_15 : decode cX8_root 15 = .ok (.lload 4, 2) := by decide +kernel
theorem dX8_root_17 : decode cX8_root 17 = .ok (.ladd, 1) := by decide +kernel
theorem dX8_root_18 : decode cX8_root 18 = .ok (.lconst 1, 1) := by decide +kernel
theorem dX8_root_19 : decode cX8_root 19 = .ok (.ladd, 1) := by decide +kernel
theorem dX8_root_20 : decode cX8_root 20 = .ok (.ldc2_w 168, 3) := by decide +kernel
theorem dX8_root_23 : decode cX8_root 23 = .ok (.ldiv, 1) := by decide +kernel
theorem dX8_root_24 : decode cX8_root 24 = .ok (.lstore 6, 2) := by decide +kernel
theorem dX8_root_26 : decode cX8_root 26 = .ok (.lload 6, 2) := by decide +kernel
theorem dX8_root_28 : decode cX8_root 28 = .ok (.lload 6, 2) := by decide +kernel
theorem dX8_root_30 : decode cX8_root 30 = .ok (.lmul, 1) := by decide +kernel
theorem dX8_root_31 : decode cX8_root 31 = .ok (.lload_n 0, 1) := by decide +kernel
theorem dX8_root_32 : decode cX8_root 32 = .ok (.lcmp, 1) := by decide +kernel
theorem dX8_root_33 : decode cX8_root 33 = .ok (.ifCond .gt 9, 3) := by decide +kernel
theorem dX8_root_36 : decode cX8_root 36 = .ok (.lload 6, 2) := by decide +kernel
theorem dX8_root_38 : decode cX8_root 38 = .ok (.lstore_n 2, 1) := by decide +kernel
theorem dX8_root_39 : decode cX8_root 39 = .ok (.goto 9, 3) := by decide +kernel
theorem dX8_root_42 : decode cX8_root 42 = .ok (.lload 6, 2) := by decide +kernel
theorem dX8_root_44 : decode cX8_root 44 = .ok (.lconst 1, 1) := by decide +kernel
theorem dX8_root_45 : decode cX8_root 45 = .ok (.lsub, 1) := by decide +kernel
theorem dX8_root_46 : decode cX8_root 46 = .ok (.lstore 4, 2) := by decide +kernel
theorem dX8_root_48 : decode cX8_root 48 = .ok (.goto (-41), 3) := by decide +kernel
theorem dX8_root_51 : decode cX8_root 51 = .ok (.lload_n 2, 1) := by decide +kernel
theorem dX8_root_52 : decode cX8_root 52 = .ok (.lreturn, 1) := by decide +kernel
theorem dX8_lengthOf_0 : decode cX8_lengthOf 0 = .ok (.lconst 0, 1) := by decide +kernel
theorem dX8_lengthOf_1 : decode cX8_lengthOf 1 = .ok (.lstore_n 2, 1) := by decide +kernel
theorem dX8_lengthOf_2 : decode cX8_lengthOf 2 = .ok (.iconst 0, 1) := by decide +kernel
theorem dX8_lengthOf_3 : decode cX8_lengthOf 3 = .ok (.istore 4, 2) := by decide +kernel
theorem dX8_lengthOf_5 : decode cX8_lengthOf 5 = .ok (.iload 4, 2) := by decide +kernel
theorem dX8_lengthOf_7 : decode cX8_lengthOf 7 = .ok (.iconst 3, 1) := by decide +kernel
theorem dX8_lengthOf_8 : decode cX8_lengthOf 8 = .ok (.if_icmp .ge 53, 3) := by decide +kernel
theorem dX8_lengthOf_11 : decode cX8_lengthOf 11 = .ok (.aload_n 0, 1) := by decide +kernel
theorem dX8_lengthOf_12 : decode cX8_lengthOf 12 = .ok (.getfield 43, 3) := by decide +kernel
theorem dX8_lengthOf_15 : decode cX8_lengthOf 15 = .ok (.iconst 3, 1) := by decide +kernel
theorem dX8_lengthOf_16 : decode cX8_lengthOf 16 = .ok (.aload_n 0, 1) := by decide +kernel
theorem dX8_lengthOf_17 : decode cX8_lengthOf 17 = .ok (.iload_n 1, 1) := by decide +kernel
theorem dX8_lengthOf_18 : decode cX8_lengthOf 18 = .ok (.iconst 0, 1) := by decide +kernel
theorem dX8_lengthOf_19 : decode cX8_lengthOf 19 = .ok (.invokevirtual 131, 3) := by decide +kernel
theorem dX8_lengthOf_22 : decode cX8_lengthOf 22 = .ok (.imul, 1) := by decide +kernel
theorem dX8_lengthOf_23 : decode cX8_lengthOf 23 = .ok (.iload 4, 2) := by decide +kernel
theorem dX8_lengthOf_25 : decode cX8_lengthOf 25 = .ok (.iadd, 1) := by decide +kernel
theorem dX8_lengthOf_26 : decode cX8_lengthOf 26 = .ok (.iaload, 1) := by decide +kernel
theorem dX8_lengthOf_27 : decode cX8_lengthOf 27 = .ok (.aload_n 0, 1) := by decide +kernel
theorem dX8_lengthOf_28 : decode cX8_lengthOf 28 = .ok (.getfield 43, 3) := by decide +kernel
theorem dX8_lengthOf_31 : decode cX8_lengthOf 31 = .ok (.iconst 3, 1) := by decide +kernel
theorem dX8_lengthOf_32 : decode cX8_lengthOf 32 = .ok (.aload_n 0, 1) := by decide +kernel
theorem dX8_lengthOf_33 : decode cX8_lengthOf 33 = .ok (.iload_n 1, 1) := by decide +kernel
theorem dX8_lengthOf_34 : decode cX8_lengthOf 34 = .ok (.iconst 1, 1) := by decide +kernel
theorem dX8_lengthOf_35 : decode cX8_lengthOf 35 = .ok (.invokevirtual 131, 3) := by decide +kernel
theorem dX8_lengthOf_38 : decode cX8_lengthOf 38 = .ok (.imul, 1) := by decide +kernel
theorem dX8_lengthOf_39 : decode cX8_lengthOf 39 = .ok (.iload 4, 2) := by decide +kernel
theorem dX8_lengthOf_41 : decode cX8_lengthOf 41 = .ok (.iadd, 1) := by decide +kernel
theorem dX8_lengthOf_42 : decode cX8_lengthOf 42 = .ok (.iaload, 1) := by decide +kernel
theorem dX8_lengthOf_43 : decode cX8_lengthOf 43 = .ok (.isub, 1) := by decide +kernel
theorem dX8_lengthOf_44 : decode cX8_lengthOf 44 = .ok (.i2l, 1) := by decide +kernel
theorem dX8_lengthOf_45 : decode cX8_lengthOf 45 = .ok (.lstore 5, 2) := by decide +kernel
theorem dX8_lengthOf_47 : decode cX8_lengthOf 47 = .ok (.lload_n 2, 1) := by decide +kernel
theorem dX8_lengthOf_48 : decode cX8_lengthOf 48 = .ok (.lload 5, 2) := by decide +kernel
theorem dX8_lengthOf_50 : decode cX8_lengthOf 50 = .ok (.lload 5, 2) := by decide +kernel
theorem dX8_lengthOf_52 : decode cX8_lengthOf 52 = .ok (.lmul, 1) := by decide +kernel
theorem dX8_lengthOf_53 : decode cX8_lengthOf 53 = .ok (.ladd, 1) := by decide +kernel
theorem dX8_lengthOf_54 : decode cX8_lengthOf 54 = .ok (.lstore_n 2, 1) := by decide +kernel
theorem dX8_lengthOf_55 : decode cX8_lengthOf 55 = .ok (.iinc 4 1, 3) := by decide +kernel
theorem dX8_lengthOf_58 : decode cX8_lengthOf 58 = .ok (.goto (-53), 3) := by decide +kernel
theorem dX8_lengthOf_61 : decode cX8_lengthOf 61 = .ok (.lload_n 2, 1) := by decide +kernel
theorem dX8_lengthOf_62 : decode cX8_lengthOf 62 = .ok (.invokestatic 170, 3) := by decide +kernel
theorem dX8_lengthOf_65 : decode cX8_lengthOf 65 = .ok (.l2i, 1) := by decide +kernel
theorem dX8_lengthOf_66 : decode cX8_lengthOf 66 = .ok (.ireturn, 1) := by decide +kernel
theorem dX8_offOf_0 : decode cX8_offOf 0 = .ok (.aload_n 0, 1) := by decide +kernel
theorem dX8_offOf_1 : decode cX8_offOf 1 = .ok (.iload_n 1, 1) := by decide +kernel
theorem dX8_offOf_2 : decode cX8_offOf 2 = .ok (.invokevirtual 174, 3) := by decide +kernel
theorem dX8_offOf_5 : decode cX8_offOf 5 = .ok (.bipush 100, 2) := by decide +kernel
theorem dX8_offOf_7 : decode cX8_offOf 7 = .ok (.aload_n 0, 1) := by decide +kernel
theorem dX8_offOf_8 : decode cX8_offOf 8 = .ok (.iload_n 1, 1) := by decide +kernel
theorem dX8_offOf_9 : decode cX8_offOf 9 = .ok (.iconst 3, 1) := by decide +kernel
theorem dX8_offOf_10 : decode cX8_offOf 10 = .ok (.invokevirtual 131, 3) := by decide +kernel
theorem dX8_offOf_13 : decode cX8_offOf 13 = .ok (.imul, 1) := by decide +kernel
theorem dX8_offOf_14 : decode cX8_offOf 14 = .ok (.isub, 1) := by decide +kernel
theorem dX8_offOf_15 : decode cX8_offOf 15 = .ok (.istore_n 2, 1) := by decide +kernel
theorem dX8_offOf_16 : decode cX8_offOf 16 = .ok (.iload_n 2, 1) := by decide +kernel
theorem dX8_offOf_17 : decode cX8_offOf 17 = .ok (.ifCond .ge 8, 3) := by decide +kernel
theorem dX8_offOf_20 : decode cX8_offOf 20 = .ok (.iload_n 2, 1) := by decide +kernel
theorem dX8_offOf_21 : decode cX8_offOf 21 = .ok (.ineg, 1) := by decide +kernel
theorem dX8_offOf_22 : decode cX8_offOf 22 = .ok (.goto 4, 3) := by decide +kernel
theorem dX8_offOf_25 : decode cX8_offOf 25 = .ok (.iload_n 2, 1) := by decide +kernel
theorem dX8_offOf_26 : decode cX8_offOf 26 = .ok (.ireturn, 1) := by decide +kernel
theorem dX8_isAsked_0 : decode cX8_isAsked 0 = .ok (.aload_n 0, 1) := by decide +kernel
theorem dX8_isAsked_1 : decode cX8_isAsked 1 = .ok (.iload_n 1, 1) := by decide +kernel
theorem dX8_isAsked_2 : decode cX8_isAsked 2 = .ok (.invokevirtual 137, 3) := by decide +kernel
theorem dX8_isAsked_5 : decode cX8_isAsked 5 = .ok (.ifCond .eq 16, 3) := by decide +kernel
theorem dX8_isAsked_8 : decode cX8_isAsked 8 = .ok (.aload_n 0, 1) := by decide +kernel
theorem dX8_isAsked_9 : decode cX8_isAsked 9 = .ok (.iload_n 1, 1) := by decide +kernel
theorem dX8_isAsked_10 : decode cX8_isAsked 10 = .ok (.iconst 3, 1) := by decide +kernel
theorem dX8_isAsked_11 : decode cX8_isAsked 11 = .ok (.invokevirtual 131, 3) := by decide +kernel
theorem dX8_isAsked_14 : decode cX8_isAsked 14 = .ok (.ifCond .le 7, 3) := by decide +kernel
theorem dX8_isAsked_17 : decode cX8_isAsked 17 = .ok (.iconst 1, 1) := by decide +kernel
theorem dX8_isAsked_18 : decode cX8_isAsked 18 = .ok (.goto 4, 3) := by decide +kernel
theorem dX8_isAsked_21 : decode cX8_isAsked 21 = .ok (.iconst 0, 1) := by decide +kernel
theorem dX8_isAsked_22 : decode cX8_isAsked 22 = .ok (.ireturn, 1) := by decide +kernel
theorem dX8_missing_0 : decode cX8_missing 0 = .ok (.iconst 0, 1) := by decide +kernel
theorem dX8_missing_1 : decode cX8_missing 1 = .ok (.istore_n 1, 1) := by decide +kernel
theorem dX8_missing_2 : decode cX8_missing 2 = .ok (.iconst 0, 1) := by decide +kernel
theorem dX8_missing_3 : decode cX8_missing 3 = .ok (.istore_n 2, 1) := by decide +kernel
theorem dX8_missing_4 : decode cX8_missing 4 = .ok (.iload_n 2, 1) := by decide +kernel
theorem dX8_missing_5 : decode cX8_missing 5 = .ok (.aload_n 0, 1) := by decide +kernel
theorem dX8_missing_6 : decode cX8_missing 6 = .ok (.getfield 13, 3) := by decide +kernel
theorem dX8_missing_9 : decode cX8_missing 9 = .ok (.iconst 1, 1) := by decide +kernel
theorem dX8_missing_10 : decode cX8_missing 10 = .ok (.iaload, 1) := by decide +kernel
theorem dX8_missing_11 : decode cX8_missing 11 = .ok (.if_icmp .ge 29, 3) := by decide +kernel
theorem dX8_missing_14 : decode cX8_missing 14 = .ok (.iload_n 1, 1) := by decide +kernel
theorem dX8_missing_15 : decode cX8_missing 15 = .ok (.aload_n 0, 1) := by decide +kernel
theorem dX8_missing_16 : decode cX8_missing 16 = .ok (.iload_n 2, 1) := by decide +kernel
theorem dX8_missing_17 : decode cX8_missing 17 = .ok (.invokevirtual 178, 3) := by decide +kernel
theorem dX8_missing_20 : decode cX8_missing 20 = .ok (.ifCond .eq 11, 3) := by decide +kernel
theorem dX8_missing_23 : decode cX8_missing 23 = .ok (.aload_n 0, 1) := by decide +kernel
theorem dX8_missing_24 : decode cX8_missing 24 = .ok (.iload_n 2, 1) := by decide +kernel
theorem dX8_missing_25 : decode cX8_missing 25 = .ok (.invokevirtual 181, 3) := by decide +kernel
theorem dX8_missing_28 : decode cX8_missing 28 = .ok (.goto 4, 3) := by decide +kernel
theorem dX8_missing_31 : decode cX8_missing 31 = .ok (.iconst 0, 1) := by decide +kernel
theorem dX8_missing_32 : decode cX8_missing 32 = .ok (.iadd, 1) := by decide +kernel
theorem dX8_missing_33 : decode cX8_missing 33 = .ok (.istore_n 1, 1) := by decide +kernel
theorem dX8_missing_34 : decode cX8_missing 34 = .ok (.iinc 2 1, 3) := by decide +kernel
theorem dX8_missing_37 : decode cX8_missing 37 = .ok (.goto (-33), 3) := by decide +kernel
theorem dX8_missing_40 : decode cX8_missing 40 = .ok (.iload_n 1, 1) := by decide +kernel
theorem dX8_missing_41 : decode cX8_missing 41 = .ok (.ireturn, 1) := by decide +kernel
theorem dX8_isWithin_0 : decode cX8_isWithin 0 = .ok (.iconst 1, 1) := by decide +kernel
theorem dX8_isWithin_1 : decode cX8_isWithin 1 = .ok (.istore_n 2, 1) := by decide +kernel
theorem dX8_isWithin_2 : decode cX8_isWithin 2 = .ok (.iconst 0, 1) := by decide +kernel
theorem dX8_isWithin_3 : decode cX8_isWithin 3 = .ok (.istore_n 3, 1) := by decide +kernel
theorem dX8_isWithin_4 : decode cX8_isWithin 4 = .ok (.iload_n 3, 1) := by decide +kernel
theorem dX8_isWithin_5 : decode cX8_isWithin 5 = .ok (.iconst 3, 1) := by decide +kernel
theorem dX8_isWithin_6 : decode cX8_isWithin 6 = .ok (.if_icmp .ge 148, 3) := by decide +kernel
theorem dX8_isWithin_9 : decode cX8_isWithin 9 = .ok (.iconst 0, 1) := by decide +kernel
theorem dX8_isWithin_10 : decode cX8_isWithin 10 = .ok (.istore 4, 2) := by decide +kernel
theorem dX8_isWithin_12 : decode cX8_isWithin 12 = .ok (.iconst 0, 1) := by decide +kernel
theorem dX8_isWithin_13 : decode cX8_isWithin 13 = .ok (.istore 5, 2) := by decide +kernel
theorem dX8_isWithin_15 : decode cX8_isWithin 15 = .ok (.iconst 0, 1) := by decide +kernel
theorem dX8_isWithin_16 : decode cX8_isWithin 16 = .ok (.istore 6, 2) := by decide +kernel
theorem dX8_isWithin_18 : decode cX8_isWithin 18 = .ok (.iload 6, 2) := by decide +kernel
theorem dX8_isWithin_20 : decode cX8_isWithin 20 = .ok (.aload_n 0, 1) := by decide +kernel
theorem dX8_isWithin_21 : decode cX8_isWithin 21 = .ok (.getfield 13, 3) := by decide +kernel
theorem dX8_isWithin_24 : decode cX8_isWithin 24 = .ok (.iconst 1, 1) := by decide +kernel
theorem dX8_isWithin_25 : decode cX8_isWithin 25 = .ok (.iaload, 1) := by decide +kernel
theorem dX8_isWithin_26 : decode cX8_isWithin 26 = .ok (.if_icmp .ge 102, 3) := by decide +kernel
theorem dX8_isWithin_29 : decode cX8_isWithin 29 = .ok (.aload_n 0, 1) := by decide +kernel
theorem dX8_isWithin_30 : decode cX8_isWithin 30 = .ok (.iload 6, 2) := by decide +kernel
theorem dX8_isWithin_32 : decode cX8_isWithin 32 = .ok (.invokevirtual 137, 3) := by decide +kernel
theorem dX8_isWithin_35 : decode cX8_isWithin 35 = .ok (.ifCond .eq 87, 3) := by decide +kernel
theorem dX8_isWithin_38 : decode cX8_isWithin 38 = .ok (.aload_n 0, 1) := by decide +kernel
theorem dX8_isWithin_39 : decode cX8_isWithin 39 = .ok (.iload 6, 2) := by decide +kernel
theorem dX8_isWithin_41 : decode cX8_isWithin 41 = .ok (.iload_n 1, 1) := by decide +kernel
theorem dX8_isWithin_42 : decode cX8_isWithin 42 = .ok (.invokevirtual 184, 3) := by decide +kernel
theorem dX8_isWithin_45 : decode cX8_isWithin 45 = .ok (.ifCond .eq 77, 3) := by decide +kernel
theorem dX8_isWithin_48 : decode cX8_isWithin 48 = .ok (.aload_n 0, 1) := by decide +kernel
theorem dX8_isWithin_49 : decode cX8_isWithin 49 = .ok (.getfield 40, 3) := by decide +kernel
theorem dX8_isWithin_52 : decode cX8_isWithin 52 = .ok (.iconst 3, 1) := by decide +kernel
theorem dX8_isWithin_53 : decode cX8_isWithin 53 = .ok (.aload_n 0, 1) := by decide +kernel
theorem dX8_isWithin_54 : decode cX8_isWithin 54 = .ok (.iload 6, 2) := by decide +kernel
theorem dX8_isWithin_56 : decode cX8_isWithin 56 = .ok (.iload_n 1, 1) := by decide +kernel
theorem dX8_isWithin_57 : decode cX8_isWithin 57 = .ok (.invokevirtual 147, 3) := by decide +kernel
theorem dX8_isWithin_60 : decode cX8_isWithin 60 = .ok (.imul, 1) := by decide +kernel
theorem dX8_isWithin_61 : decode cX8_isWithin 61 = .ok (.iload_n 3, 1) := by decide +kernel
theorem dX8_isWithin_62 : decode cX8_isWithin 62 = .ok (.iadd, 1) := by decide +kernel
theorem dX8_isWithin_63 : decode cX8_isWithin 63 = .ok (.laload, 1) := by decide +kernel
theorem dX8_isWithin_64 : decode cX8_isWithin 64 = .ok (.lstore 7, 2) := by decide +kernel
theorem dX8_isWithin_66 : decode cX8_isWithin 66 = .ok (.iload 4, 2) := by decide +kernel
theorem dX8_isWithin_68 : decode cX8_isWithin 68 = .ok (.ifCond .ne 19, 3) := by decide +kernel
theorem dX8_isWithin_71 : decode cX8_isWithin 71 = .ok (.lload 7, 2) := by decide +kernel
theorem dX8_isWithin_73 : decode cX8_isWithin 73 = .ok (.aload_n 0, 1) := by decide +kernel
theorem dX8_isWithin_74 : decode cX8_isWithin 74 = .ok (.getfield 40, 3) := by decide +kernel
theorem dX8_isWithin_77 : decode cX8_isWithin 77 = .ok (.iconst 3, 1) := by decide +kernel
theorem dX8_isWithin_78 : decode cX8_isWithin 78 = .ok (.iload_n 1, 1) := by decide +kernel
theorem dX8_isWithin_79 : decode cX8_isWithin 79 = .ok (.imul, 1) := by decide +kernel
theorem dX8_isWithin_80 : decode cX8_isWithin 80 = .ok (.iload_n 3, 1) := by decide +kernel
theorem dX8_isWithin_81 : decode cX8_isWithin 81 = .ok (.iadd, 1) := by decide +kernel
theorem dX8_isWithin_82 : decode cX8_isWithin 82 = .ok (.laload, 1) := by decide +kernel
theorem dX8_isWithin_83 : decode cX8_isWithin 83 = .ok (.lcmp, 1) := by decide +kernel
theorem dX8_isWithin_84 : decode cX8_isWithin 84 = .ok (.ifCond .gt 7, 3) := by decide +kernel
theorem dX8_isWithin_87 : decode cX8_isWithin 87 = .ok (.iconst 1, 1) := by decide +kernel
theorem dX8_isWithin_88 : decode cX8_isWithin 88 = .ok (.goto 4, 3) := by decide +kernel
theorem dX8_isWithin_91 : decode cX8_isWithin 91 = .ok (.iconst 0, 1) := by decide +kernel
theorem dX8_isWithin_92 : decode cX8_isWithin 92 = .ok (.istore 4, 2) := by decide +kernel
theorem dX8_isWithin_94 : decode cX8_isWithin 94 = .ok (.iload 5, 2) := by decide +kernel
theorem dX8_isWithin_96 : decode cX8_isWithin 96 = .ok (.ifCond .ne 19, 3) := by decide +kernel
theorem dX8_isWithin_99 : decode cX8_isWithin 99 = .ok (.lload 7, 2) := by decide +kernel
theorem dX8_isWithin_101 : decode cX8_isWithin 101 = .ok (.aload_n 0, 1) := by decide +kernel
theorem dX8_isWithin_102 : decode cX8_isWithin 102 = .ok (.getfield 40, 3) := by decide +kernel
theorem dX8_isWithin_105 : decode cX8_isWithin 105 = .ok (.iconst 3, 1) := by decide +kernel
theorem dX8_isWithin_106 : decode cX8_isWithin 106 = .ok (.iload_n 1, 1) := by decide +kernel
theorem dX8_isWithin_107 : decode cX8_isWithin 107 = .ok (.imul, 1) := by decide +kernel
theorem dX8_isWithin_108 : decode cX8_isWithin 108 = .ok (.iload_n 3, 1) := by decide +kernel
theorem dX8_isWithin_109 : decode cX8_isWithin 109 = .ok (.iadd, 1) := by decide +kernel
theorem dX8_isWithin_110 : decode cX8_isWithin 110 = .ok (.laload, 1) := by decide +kernel
theorem dX8_isWithin_111 : decode cX8_isWithin 111 = .ok (.lcmp, 1) := by decide +kernel
theorem dX8_isWithin_112 : decode cX8_isWithin 112 = .ok (.ifCond .lt 7, 3) := by decide +kernel
theorem dX8_isWithin_115 : decode cX8_isWithin 115 = .ok (.iconst 1, 1) := by decide +kernel
theorem dX8_isWithin_116 : decode cX8_isWithin 116 = .ok (.goto 4, 3) := by decide +kernel
theorem dX8_isWithin_119 : decode cX8_isWithin 119 = .ok (.iconst 0, 1) := by decide +kernel
theorem dX8_isWithin_120 : decode cX8_isWithin 120 = .ok (.istore 5, 2) := by decide +kernel
theorem dX8_isWithin_122 : decode cX8_isWithin 122 = .ok (.iinc 6 1, 3) := by decide +kernel
theorem dX8_isWithin_125 : decode cX8_isWithin 125 = .ok (.goto (-107), 3) := by decide +kernel
theorem dX8_isWithin_128 : decode cX8_isWithin 128 = .ok (.iload_n 2, 1) := by decide +kernel
theorem dX8_isWithin_129 : decode cX8_isWithin 129 = .ok (.ifCond .eq 17, 3) := by decide +kernel
theorem dX8_isWithin_132 : decode cX8_isWithin 132 = .ok (.iload 4, 2) := by decide +kernel
theorem dX8_isWithin_134 : decode cX8_isWithin 134 = .ok (.ifCond .eq 12, 3) := by decide +kernel
theorem dX8_isWithin_137 : decode cX8_isWithin 137 = .ok (.iload 5, 2) := by decide +kernel
theorem dX8_isWithin_139 : decode cX8_isWithin 139 = .ok (.ifCond .eq 7, 3) := by decide +kernel
theorem dX8_isWithin_142 : decode cX8_isWithin 142 = .ok (.iconst 1, 1) := by decide +kernel
theorem dX8_isWithin_143 : decode cX8_isWithin 143 = .ok (.goto 4, 3) := by decide +kernel
theorem dX8_isWithin_146 : decode cX8_isWithin 146 = .ok (.iconst 0, 1) := by decide +kernel
theorem dX8_isWithin_147 : decode cX8_isWithin 147 = .ok (.istore_n 2, 1) := by decide +kernel
theorem dX8_isWithin_148 : decode cX8_isWithin 148 = .ok (.iinc 3 1, 3) := by decide +kernel
theorem dX8_isWithin_151 : decode cX8_isWithin 151 = .ok (.goto (-147), 3) := by decide +kernel
theorem dX8_isWithin_154 : decode cX8_isWithin 154 = .ok (.iload_n 2, 1) := by decide +kernel
theorem dX8_isWithin_155 : decode cX8_isWithin 155 = .ok (.ireturn, 1) := by decide +kernel
theorem dX8_notes_0 : decode cX8_notes 0 = .ok (.aload_n 0, 1) := by decide +kernel
theorem dX8_notes_1 : decode cX8_notes 1 = .ok (.getfield 128, 3) := by decide +kernel
theorem dX8_notes_4 : decode cX8_notes 4 = .ok (.bipush 6, 2) := by decide +kernel
theorem dX8_notes_6 : decode cX8_notes 6 = .ok (.if_icmp .ne 43, 3) := by decide +kernel
theorem dX8_notes_9 : decode cX8_notes 9 = .ok (.iconst 0, 1) := by decide +kernel
theorem dX8_notes_10 : decode cX8_notes 10 = .ok (.istore_n 1, 1) := by decide +kernel
theorem dX8_notes_11 : decode cX8_notes 11 = .ok (.iload_n 1, 1) := by decide +kernel
theorem dX8_notes_12 : decode cX8_notes 12 = .ok (.sipush 620, 3) := by decide +kernel
theorem dX8_notes_15 : decode cX8_notes 15 = .ok (.if_icmp .ge 24, 3) := by decide +kernel
theorem dX8_notes_18 : decode cX8_notes 18 = .ok (.aload_n 0, 1) := by decide +kernel
theorem dX8_notes_19 : decode cX8_notes 19 = .ok (.getfield 20, 3) := by decide +kernel
theorem dX8_notes_22 : decode cX8_notes 22 = .ok (.iload_n 1, 1) := by decide +kernel
theorem dX8_notes_23 : decode cX8_notes 23 = .ok (.aload_n 0, 1) := by decide +kernel
theorem dX8_notes_24 : decode cX8_notes 24 = .ok (.getfield 20, 3) := by decide +kernel
theorem dX8_notes_27 : decode cX8_notes 27 = .ok (.iload_n 1, 1) := by decide +kernel
theorem dX8_notes_28 : decode cX8_notes 28 = .ok (.bipush 124, 2) := by decide +kernel
theorem dX8_notes_30 : decode cX8_notes 30 = .ok (.iadd, 1) := by decide +kernel
theorem dX8_notes_31 : decode cX8_notes 31 = .ok (.iaload, 1) := by decide +kernel
theorem dX8_notes_32 : decode cX8_notes 32 = .ok (.iastore, 1) := by decide +kernel
theorem dX8_notes_33 : decode cX8_notes 33 = .ok (.iinc 1 1, 3) := by decide +kernel
theorem dX8_notes_36 : decode cX8_notes 36 = .ok (.goto (-25), 3) := by decide +kernel
theorem dX8_notes_39 : decode cX8_notes 39 = .ok (.aload_n 0, 1) := by decide +kernel
theorem dX8_notes_40 : decode cX8_notes 40 = .ok (.dup, 1) := by decide +kernel
theorem dX8_notes_41 : decode cX8_notes 41 = .ok (.getfield 128, 3) := by decide +kernel
theorem dX8_notes_44 : decode cX8_notes 44 = .ok (.iconst 1, 1) := by decide +kernel
theorem dX8_notes_45 : decode cX8_notes 45 = .ok (.isub, 1) := by decide +kernel
theorem dX8_notes_46 : decode cX8_notes 46 = .ok (.putfield 128, 3) := by decide +kernel
theorem dX8_notes_49 : decode cX8_notes 49 = .ok (.iconst 0, 1) := by decide +kernel
theorem dX8_notes_50 : decode cX8_notes 50 = .ok (.istore_n 1, 1) := by decide +kernel
theorem dX8_notes_51 : decode cX8_notes 51 = .ok (.iload_n 1, 1) := by decide +kernel
theorem dX8_notes_52 : decode cX8_notes 52 = .ok (.bipush 124, 2) := by decide +kernel
theorem dX8_notes_54 : decode cX8_notes 54 = .ok (.if_icmp .ge 29, 3) := by decide +kernel
theorem dX8_notes_57 : decode cX8_notes 57 = .ok (.aload_n 0, 1) := by decide +kernel
theorem dX8_notes_58 : decode cX8_notes 58 = .ok (.getfield 20, 3) := by decide +kernel
theorem dX8_notes_61 : decode cX8_notes 61 = .ok (.bipush 124, 2) := by decide +kernel
theorem dX8_notes_63 : decode cX8_notes 63 = .ok (.aload_n 0, 1) := by decide +kernel
theorem dX8_notes_64 : decode cX8_notes 64 = .ok (.getfield 128, 3) := by decide +kernel
theorem dX8_notes_67 : decode cX8_notes 67 = .ok (.imul, 1) := by decide +kernel
theorem dX8_notes_68 : decode cX8_notes 68 = .ok (.iload_n 1, 1) := by decide +kernel
theorem dX8_notes_69 : decode cX8_notes 69 = .ok (.iadd, 1) := by decide +kernel
theorem dX8_notes_70 : decode cX8_notes 70 = .ok (.aload_n 0, 1) := by decide +kernel
theorem dX8_notes_71 : decode cX8_notes 71 = .ok (.getfield 13, 3) := by decide +kernel
theorem dX8_notes_74 : decode cX8_notes 74 = .ok (.iload_n 1, 1) := by decide +kernel
theorem dX8_notes_75 : decode cX8_notes 75 = .ok (.iaload, 1) := by decide +kernel
theorem dX8_notes_76 : decode cX8_notes 76 = .ok (.iastore, 1) := by decide +kernel
theorem dX8_notes_77 : decode cX8_notes 77 = .ok (.iinc 1 1, 3) := by decide +kernel
theorem dX8_notes_80 : decode cX8_notes 80 = .ok (.goto (-29), 3) := by decide +kernel
theorem dX8_notes_83 : decode cX8_notes 83 = .ok (.aload_n 0, 1) := by decide +kernel
theorem dX8_notes_84 : decode cX8_notes 84 = .ok (.dup, 1) := by decide +kernel
theorem dX8_notes_85 : decode cX8_notes 85 = .ok (.getfield 128, 3) := by decide +kernel
theorem dX8_notes_88 : decode cX8_notes 88 = .ok (.iconst 1, 1) := by decide +kernel
theorem dX8_notes_89 : decode cX8_notes 89 = .ok (.iadd, 1) := by decide +kernel
theorem dX8_notes_90 : decode cX8_notes 90 = .ok (.putfield 128, 3) := by decide +kernel
theorem dX8_notes_93 : decode cX8_notes 93 = .ok (.return_, 1) := by decide +kernel
theorem dX8_becomes_0 : decode cX8_becomes 0 = .ok (.aload_n 0, 1) := by decide +kernel
theorem dX8_becomes_1 : decode cX8_becomes 1 = .ok (.getfield 13, 3) := by decide +kernel
theorem dX8_becomes_4 : decode cX8_becomes 4 = .ok (.iload_n 1, 1) := by decide +kernel
theorem dX8_becomes_5 : decode cX8_becomes 5 = .ok (.iaload, 1) := by decide +kernel
theorem dX8_becomes_6 : decode cX8_becomes 6 = .ok (.iload_n 2, 1) := by decide +kernel
theorem dX8_becomes_7 : decode cX8_becomes 7 = .ok (.if_icmp .ne 6, 3) := by decide +kernel
theorem dX8_becomes_10 : decode cX8_becomes 10 = .ok (.bipush (-2), 2) := by decide +kernel
theorem dX8_becomes_12 : decode cX8_becomes 12 = .ok (.ireturn, 1) := by decide +kernel
theorem dX8_becomes_13 : decode cX8_becomes 13 = .ok (.aload_n 0, 1) := by decide +kernel
theorem dX8_becomes_14 : decode cX8_becomes 14 = .ok (.invokevirtual 187, 3) := by decide +kernel
theorem dX8_becomes_17 : decode cX8_becomes 17 = .ok (.aload_n 0, 1) := by decide +kernel
theorem dX8_becomes_18 : decode cX8_becomes 18 = .ok (.getfield 13, 3) := by decide +kernel
theorem dX8_becomes_21 : decode cX8_becomes 21 = .ok (.iload_n 1, 1) := by decide +kernel
theorem dX8_becomes_22 : decode cX8_becomes 22 = .ok (.iaload, 1) := by decide +kernel
theorem dX8_becomes_23 : decode cX8_becomes 23 = .ok (.istore_n 3, 1) := by decide +kernel
theorem dX8_becomes_24 : decode cX8_becomes 24 = .ok (.aload_n 0, 1) := by decide +kernel
theorem dX8_becomes_25 : decode cX8_becomes 25 = .ok (.getfield 13, 3) := by decide +kernel
theorem dX8_becomes_28 : decode cX8_becomes 28 = .ok (.iload_n 1, 1) := by decide +kernel
theorem dX8_becomes_29 : decode cX8_becomes 29 = .ok (.iload_n 2, 1) := by decide +kernel
theorem dX8_becomes_30 : decode cX8_becomes 30 = .ok (.iastore, 1) := by decide +kernel
theorem dX8_becomes_31 : decode cX8_becomes 31 = .ok (.iload_n 3, 1) := by decide +kernel
theorem dX8_becomes_32 : decode cX8_becomes 32 = .ok (.ireturn, 1) := by decide +kernel
theorem dX8_density_0 : decode cX8_density 0 = .ok (.aload_n 0, 1) := by decide +kernel
theorem dX8_density_1 : decode cX8_density 1 = .ok (.iconst 0, 1) := by decide +kernel
theorem dX8_density_2 : decode cX8_density 2 = .ok (.putfield 69, 3) := by decide +kernel
theorem dX8_density_5 : decode cX8_density 5 = .ok (.aload_n 0, 1) := by decide +kernel
theorem dX8_density_6 : decode cX8_density 6 = .ok (.iload_n 1, 1) := by decide +kernel
theorem dX8_density_7 : decode cX8_density 7 = .ok (.invokevirtual 190, 3) := by decide +kernel
theorem dX8_density_10 : decode cX8_density 10 = .ok (.ifCond .eq 28, 3) := by decide +kernel
theorem dX8_density_13 : decode cX8_density 13 = .ok (.iload_n 2, 1) := by decide +kernel
theorem dX8_density_14 : decode cX8_density 14 = .ok (.iconst 1, 1) := by decide +kernel
theorem dX8_density_15 : decode cX8_density 15 = .ok (.iconst 5, 1) := by decide +kernel
theorem dX8_density_16 : decode cX8_density 16 = .ok (.invokestatic 73, 3) := by decide +kernel
theorem dX8_density_19 : decode cX8_density 19 = .ok (.ifCond .eq 19, 3) := by decide +kernel
theorem dX8_density_22 : decode cX8_density 22 = .ok (.aload_n 0, 1) := by decide +kernel
theorem dX8_density_23 : decode cX8_density 23 = .ok (.bipush 54, 2) := by decide +kernel
theorem dX8_density_25 : decode cX8_density 25 = .ok (.iconst 5, 1) := by decide +kernel
theorem dX8_density_26 : decode cX8_density 26 = .ok (.iload_n 1, 1) := by decide +kernel
theorem dX8_density_27 : decode cX8_density 27 = .ok (.imul, 1) := by decide +kernel
theorem dX8_density_28 : decode cX8_density 28 = .ok (.iadd, 1) := by decide +kernel
theorem dX8_density_29 : decode cX8_density 29 = .ok (.iconst 2, 1) := by decide +kernel
theorem dX8_density_30 : decode cX8_density 30 = .ok (.iadd, 1) := by decide +kernel
theorem dX8_density_31 : decode cX8_density 31 = .ok (.iload_n 2, 1) := by decide +kernel
theorem dX8_density_32 : decode cX8_density 32 = .ok (.invokevirtual 193, 3) := by decide +kernel
theorem dX8_density_35 : decode cX8_density 35 = .ok (.goto 4, 3) := by decide +kernel
theorem dX8_density_38 : decode cX8_density 38 = .ok (.iconst (-1), 1) := by decide +kernel
theorem dX8_density_39 : decode cX8_density 39 = .ok (.ireturn, 1) := by decide +kernel
theorem dX8_want_0 : decode cX8_want 0 = .ok (.aload_n 0, 1) := by decide +kernel
theorem dX8_want_1 : decode cX8_want 1 = .ok (.iconst 0, 1) := by decide +kernel
theorem dX8_want_2 : decode cX8_want 2 = .ok (.putfield 69, 3) := by decide +kernel
theorem dX8_want_5 : decode cX8_want 5 = .ok (.aload_n 0, 1) := by decide +kernel
theorem dX8_want_6 : decode cX8_want 6 = .ok (.iload_n 1, 1) := by decide +kernel
theorem dX8_want_7 : decode cX8_want 7 = .ok (.invokevirtual 190, 3) := by decide +kernel
theorem dX8_want_10 : decode cX8_want 10 = .ok (.ifCond .eq 29, 3) := by decide +kernel
theorem dX8_want_13 : decode cX8_want 13 = .ok (.iload_n 2, 1) := by decide +kernel
theorem dX8_want_14 : decode cX8_want 14 = .ok (.iconst 0, 1) := by decide +kernel
theorem dX8_want_15 : decode cX8_want 15 = .ok (.bipush 99, 2) := by decide +kernel
theorem dX8_want_17 : decode cX8_want 17 = .ok (.invokestatic 73, 3) := by decide +kernel
theorem dX8_want_20 : decode cX8_want 20 = .ok (.ifCond .eq 19, 3) := by decide +kernel
theorem dX8_want_23 : decode cX8_want 23 = .ok (.aload_n 0, 1) := by decide +kernel
theorem dX8_want_24 : decode cX8_want 24 = .ok (.bipush 54, 2) := by decide +kernel
theorem dX8_want_26 : decode cX8_want 26 = .ok (.iconst 5, 1) := by decide +kernel
theorem dX8_want_27 : decode cX8_want 27 = .ok (.iload_n 1, 1) := by decide +kernel
theorem dX8_want_28 : decode cX8_want 28 = .ok (.imul, 1) := by decide +kernel
theorem dX8_want_29 : decode cX8_want 29 = .ok (.iadd, 1) := by decide +kernel
theorem dX8_want_30 : decode cX8_want 30 = .ok (.iconst 3, 1) := by decide +kernel
theorem dX8_want_31 : decode cX8_want 31 = .ok (.iadd, 1) := by decide +kernel
theorem dX8_want_32 : decode cX8_want 32 = .ok (.iload_n 2, 1) := by decide +kernel
theorem dX8_want_33 : decode cX8_want 33 = .ok (.invokevirtual 193, 3) := by decide +kernel
theorem dX8_want_36 : decode cX8_want 36 = .ok (.goto 4, 3) := by decide +kernel
theorem dX8_want_39 : decode cX8_want 39 = .ok (.iconst (-1), 1) := by decide +kernel
theorem dX8_want_40 : decode cX8_want 40 = .ok (.ireturn, 1) := by decide +kernel
theorem dX8_load_0 : decode cX8_load 0 = .ok (.aload_n 0, 1) := by decide +kernel
theorem dX8_load_1 : decode cX8_load 1 = .ok (.iconst 0, 1) := by decide +kernel
theorem dX8_load_2 : decode cX8_load 2 = .ok (.putfield 69, 3) := by decide +kernel
theorem dX8_load_5 : decode cX8_load 5 = .ok (.aload_n 0, 1) := by decide +kernel
theorem dX8_load_6 : decode cX8_load 6 = .ok (.iload_n 1, 1) := by decide +kernel
theorem dX8_load_7 : decode cX8_load 7 = .ok (.invokevirtual 196, 3) := by decide +kernel
theorem dX8_load_10 : decode cX8_load 10 = .ok (.ifCond .eq 22, 3) := by decide +kernel
theorem dX8_load_13 : decode cX8_load 13 = .ok (.aload_n 0, 1) := by decide +kernel
theorem dX8_load_14 : decode cX8_load 14 = .ok (.iload_n 1, 1) := by decide +kernel
theorem dX8_load_15 : decode cX8_load 15 = .ok (.invokevirtual 134, 3) := by decide +kernel
theorem dX8_load_18 : decode cX8_load 18 = .ok (.ifCond .eq 14, 3) := by decide +kernel
theorem dX8_load_21 : decode cX8_load 21 = .ok (.iload_n 2, 1) := by decide +kernel
theorem dX8_load_22 : decode cX8_load 22 = .ok (.bipush (-9), 2) := by decide +kernel
theorem dX8_load_24 : decode cX8_load 24 = .ok (.bipush 9, 2) := by decide +kernel
theorem dX8_load_26 : decode cX8_load 26 = .ok (.invokestatic 73, 3) := by decide +kernel
theorem dX8_load_29 : decode cX8_load 29 = .ok (.ifCond .ne 5, 3) := by decide +kernel
theorem dX8_load_32 : decode cX8_load 32 = .ok (.iconst (-1), 1) := by decide +kernel
theorem dX8_load_33 : decode cX8_load 33 = .ok (.ireturn, 1) := by decide +kernel
theorem dX8_load_34 : decode cX8_load 34 = .ok (.aload_n 0, 1) := by decide +kernel
theorem dX8_load_35 : decode cX8_load 35 = .ok (.getfield 13, 3) := by decide +kernel
theorem dX8_load_38 : decode cX8_load 38 = .ok (.bipush 44, 2) := by decide +kernel
theorem dX8_load_40 : decode cX8_load 40 = .ok (.iload_n 1, 1) := by decide +kernel
theorem dX8_load_41 : decode cX8_load 41 = .ok (.iadd, 1) := by decide +kernel
theorem dX8_load_42 : decode cX8_load 42 = .ok (.iaload, 1) := by decide +kernel
theorem dX8_load_43 : decode cX8_load 43 = .ok (.iload_n 2, 1) := by decide +kernel
theorem dX8_load_44 : decode cX8_load 44 = .ok (.if_icmp .ne 6, 3) := by decide +kernel
theorem dX8_load_47 : decode cX8_load 47 = .ok (.bipush (-2), 2) := by decide +kernel
theorem dX8_load_49 : decode cX8_load 49 = .ok (.ireturn, 1) := by decide +kernel
theorem dX8_load_50 : decode cX8_load 50 = .ok (.aload_n 0, 1) := by decide +kernel
theorem dX8_load_51 : decode cX8_load 51 = .ok (.bipush 44, 2) := by decide +kernel
theorem dX8_load_53 : decode cX8_load 53 = .ok (.iload_n 1, 1) := by decide +kernel
theorem dX8_load_54 : decode cX8_load 54 = .ok (.iadd, 1) := by decide +kernel
theorem dX8_load_55 : decode cX8_load 55 = .ok (.iload_n 2, 1) := by decide +kernel
theorem dX8_load_56 : decode cX8_load 56 = .ok (.invokevirtual 193, 3) := by decide +kernel
theorem dX8_load_59 : decode cX8_load 59 = .ok (.bipush 9, 2) := by decide +kernel
theorem dX8_load_61 : decode cX8_load 61 = .ok (.iadd, 1) := by decide +kernel
theorem dX8_load_62 : decode cX8_load 62 = .ok (.ireturn, 1) := by decide +kernel
theorem dX8_move_0 : decode cX8_move 0 = .ok (.aload_n 0, 1) := by decide +kernel
theorem dX8_move_1 : decode cX8_move 1 = .ok (.iconst 0, 1) := by decide +kernel
theorem dX8_move_2 : decode cX8_move 2 = .ok (.putfield 69, 3) := by decide +kernel
theorem dX8_move_5 : decode cX8_move 5 = .ok (.aload_n 0, 1) := by decide +kernel
theorem dX8_move_6 : decode cX8_move 6 = .ok (.iload_n 1, 1) := by decide +kernel
theorem dX8_move_7 : decode cX8_move 7 = .ok (.invokevirtual 196, 3) := by decide +kernel
theorem dX8_move_10 : decode cX8_move 10 = .ok (.ifCond .eq 30, 3) := by decide +kernel
theorem dX8_move_13 : decode cX8_move 13 = .ok (.aload_n 0, 1) := by decide +kernel
theorem dX8_move_14 : decode cX8_move 14 = .ok (.iload_n 1, 1) := by decide +kernel
theorem dX8_move_15 : decode cX8_move 15 = .ok (.invokevirtual 134, 3) := by decide +kernel
theorem dX8_move_18 : decode cX8_move 18 = .ok (.ifCond .ne 22, 3) := by decide +kernel
theorem dX8_move_21 : decode cX8_move 21 = .ok (.iload_n 2, 1) := by decide +kernel
theorem dX8_move_22 : decode cX8_move 22 = .ok (.iconst 0, 1) := by decide +kernel
theorem dX8_move_23 : decode cX8_move 23 = .ok (.iconst 2, 1) := by decide +kernel
theorem dX8_move_24 : decode cX8_move 24 = .ok (.invokestatic 73, 3) := by decide +kernel
theorem dX8_move_27 : decode cX8_move 27 = .ok (.ifCond .eq 13, 3) := by decide +kernel
theorem dX8_move_30 : decode cX8_move 30 = .ok (.iload_n 3, 1) := by decide +kernel
theorem dX8_move_31 : decode cX8_move 31 = .ok (.iconst 0, 1) := by decide +kernel
theorem dX8_move_32 : decode cX8_move 32 = .ok (.bipush 60, 2) := by decide +kernel
theorem dX8_move_34 : decode cX8_move 34 = .ok (.invokestatic 73, 3) := by decide +kernel
theorem dX8_move_37 : decode cX8_move 37 = .ok (.ifCond .ne 5, 3) := by decide +kernel
theorem dX8_move_40 : decode cX8_move 40 = .ok (.iconst (-1), 1) := by decide +kernel
theorem dX8_move_41 : decode cX8_move 41 = .ok (.ireturn, 1) := by decide +kernel
theorem dX8_move_42 : decode cX8_move 42 = .ok (.aload_n 0, 1) := by decide +kernel
theorem dX8_move_43 : decode cX8_move 43 = .ok (.bipush 14, 2) := by decide +kernel
theorem dX8_move_45 : decode cX8_move 45 = .ok (.iconst 3, 1) := by decide +kernel
theorem dX8_move_46 : decode cX8_move 46 = .ok (.iload_n 1, 1) := by decide +kernel
theorem dX8_move_47 : decode cX8_move 47 = .ok (.imul, 1) := by decide +kernel
theorem dX8_move_48 : decode cX8_move 48 = .ok (.iadd, 1) := by decide +kernel
theorem dX8_move_49 : decode cX8_move 49 = .ok (.iload_n 2, 1) := by decide +kernel
theorem dX8_move_50 : decode cX8_move 50 = .ok (.iadd, 1) := by decide +kernel
theorem dX8_move_51 : decode cX8_move 51 = .ok (.iload_n 3, 1) := by decide +kernel
theorem dX8_move_52 : decode cX8_move 52 = .ok (.invokevirtual 193, 3) := by decide +kernel
theorem dX8_move_55 : decode cX8_move 55 = .ok (.ireturn, 1) := by decide +kernel
theorem dX8_hanging_0 : decode cX8_hanging 0 = .ok (.iconst 0, 1) := by decide +kernel
theorem dX8_hanging_1 : decode cX8_hanging 1 = .ok (.istore_n 1, 1) := by decide +kernel
theorem dX8_hanging_2 : decode cX8_hanging 2 = .ok (.iconst 0, 1) := by decide +kernel
theorem dX8_hanging_3 : decode cX8_hanging 3 = .ok (.istore_n 2, 1) := by decide +kernel
theorem dX8_hanging_4 : decode cX8_hanging 4 = .ok (.iload_n 2, 1) := by decide +kernel
theorem dX8_hanging_5 : decode cX8_hanging 5 = .ok (.aload_n 0, 1) := by decide +kernel
theorem dX8_hanging_6 : decode cX8_hanging 6 = .ok (.getfield 13, 3) := by decide +kernel
theorem dX8_hanging_9 : decode cX8_hanging 9 = .ok (.iconst 1, 1) := by decide +kernel
theorem dX8_hanging_10 : decode cX8_hanging 10 = .ok (.iaload, 1) := by decide +kernel
theorem dX8_hanging_11 : decode cX8_hanging 11 = .ok (.if_icmp .ge 25, 3) := by decide +kernel
theorem dX8_hanging_14 : decode cX8_hanging 14 = .ok (.iload_n 1, 1) := by decide +kernel
theorem dX8_hanging_15 : decode cX8_hanging 15 = .ok (.aload_n 0, 1) := by decide +kernel
theorem dX8_hanging_16 : decode cX8_hanging 16 = .ok (.iload_n 2, 1) := by decide +kernel
theorem dX8_hanging_17 : decode cX8_hanging 17 = .ok (.invokevirtual 137, 3) := by decide +kernel
theorem dX8_hanging_20 : decode cX8_hanging 20 = .ok (.ifCond .eq 7, 3) := by decide +kernel
theorem dX8_hanging_23 : decode cX8_hanging 23 = .ok (.iconst 1, 1) := by decide +kernel
theorem dX8_hanging_24 : decode cX8_hanging 24 = .ok (.goto 4, 3) := by decide +kernel
theorem dX8_hanging_27 : decode cX8_hanging 27 = .ok (.iconst 0, 1) := by decide +kernel
theorem dX8_hanging_28 : decode cX8_hanging 28 = .ok (.iadd, 1) := by decide +kernel
theorem dX8_hanging_29 : decode cX8_hanging 29 = .ok (.istore_n 1, 1) := by decide +kernel
theorem dX8_hanging_30 : decode cX8_hanging 30 = .ok (.iinc 2 1, 3) := by decide +kernel
theorem dX8_hanging_33 : decode cX8_hanging 33 = .ok (.goto (-29), 3) := by decide +kernel
theorem dX8_hanging_36 : decode cX8_hanging 36 = .ok (.iload_n 1, 1) := by decide +kernel
theorem dX8_hanging_37 : decode cX8_hanging 37 = .ok (.ireturn, 1) := by decide +kernel
theorem dX8_down__0 : decode cX8_down_ 0 = .ok (.aload_n 0, 1) := by decide +kernel
theorem dX8_down__1 : decode cX8_down_ 1 = .ok (.iconst 0, 1) := by decide +kernel
theorem dX8_down__2 : decode cX8_down_ 2 = .ok (.putfield 69, 3) := by decide +kernel
theorem dX8_down__5 : decode cX8_down_ 5 = .ok (.aload_n 0, 1) := by decide +kernel
theorem dX8_down__6 : decode cX8_down_ 6 = .ok (.iload_n 1, 1) := by decide +kernel
theorem dX8_down__7 : decode cX8_down_ 7 = .ok (.invokevirtual 190, 3) := by decide +kernel
theorem dX8_down__10 : decode cX8_down_ 10 = .ok (.ifCond .eq 12, 3) := by decide +kernel
theorem dX8_down__13 : decode cX8_down_ 13 = .ok (.iload_n 2, 1) := by decide +kernel
theorem dX8_down__14 : decode cX8_down_ 14 = .ok (.iconst 0, 1) := by decide +kernel
theorem dX8_down__15 : decode cX8_down_ 15 = .ok (.iconst 1, 1) := by decide +kernel
theorem dX8_down__16 : decode cX8_down_ 16 = .ok (.invokestatic 73, 3) := by decide +kernel
theorem dX8_down__19 : decode cX8_down_ 19 = .ok (.ifCond .ne 5, 3) := by decide +kernel
theorem dX8_down__22 : decode cX8_down_ 22 = .ok (.iconst (-1), 1) := by decide +kernel
theorem dX8_down__23 : decode cX8_down_ 23 = .ok (.ireturn, 1) := by decide +kernel
theorem dX8_down__24 : decode cX8_down_ 24 = .ok (.aload_n 0, 1) := by decide +kernel
theorem dX8_down__25 : decode cX8_down_ 25 = .ok (.bipush 54, 2) := by decide +kernel
theorem dX8_down__27 : decode cX8_down_ 27 = .ok (.iconst 5, 1) := by decide +kernel
theorem dX8_down__28 : decode cX8_down_ 28 = .ok (.iload_n 1, 1) := by decide +kernel
theorem dX8_down__29 : decode cX8_down_ 29 = .ok (.imul, 1) := by decide +kernel
theorem dX8_down__30 : decode cX8_down_ 30 = .ok (.iadd, 1) := by decide +kernel
theorem dX8_down__31 : decode cX8_down_ 31 = .ok (.iconst 4, 1) := by decide +kernel
theorem dX8_down__32 : decode cX8_down_ 32 = .ok (.iadd, 1) := by decide +kernel
theorem dX8_down__33 : decode cX8_down_ 33 = .ok (.iload_n 2, 1) := by decide +kernel
theorem dX8_down__34 : decode cX8_down_ 34 = .ok (.invokevirtual 193, 3) := by decide +kernel
theorem dX8_down__37 : decode cX8_down_ 37 = .ok (.bipush (-2), 2) := by decide +kernel
theorem dX8_down__39 : decode cX8_down_ 39 = .ok (.if_icmp .ne 8, 3) := by decide +kernel
theorem dX8_down__42 : decode cX8_down_ 42 = .ok (.bipush (-2), 2) := by decide +kernel
theorem dX8_down__44 : decode cX8_down_ 44 = .ok (.goto 7, 3) := by decide +kernel
theorem dX8_down__47 : decode cX8_down_ 47 = .ok (.aload_n 0, 1) := by decide +kernel
theorem dX8_down__48 : decode cX8_down_ 48 = .ok (.invokevirtual 199, 3) := by decide +kernel
theorem dX8_down__51 : decode cX8_down_ 51 = .ok (.ireturn, 1) := by decide +kernel
theorem dX8_goesRound_0 : decode cX8_goesRound 0 = .ok (.aload_n 0, 1) := by decide +kernel
theorem dX8_goesRound_1 : decode cX8_goesRound 1 = .ok (.invokevirtual 202, 3) := by decide +kernel
theorem dX8_goesRound_4 : decode cX8_goesRound 4 = .ok (.pop, 1) := by decide +kernel
theorem dX8_goesRound_5 : decode cX8_goesRound 5 = .ok (.iconst 0, 1) := by decide +kernel
theorem dX8_goesRound_6 : decode cX8_goesRound 6 = .ok (.istore_n 1, 1) := by decide +kernel
theorem dX8_goesRound_7 : decode cX8_goesRound 7 = .ok (.iconst 0, 1) := by decide +kernel
theorem dX8_goesRound_8 : decode cX8_goesRound 8 = .ok (.istore_n 2, 1) := by decide +kernel
theorem dX8_goesRound_9 : decode cX8_goesRound 9 = .ok (.iload_n 2, 1) := by decide +kernel
theorem dX8_goesRound_10 : decode cX8_goesRound 10 = .ok (.aload_n 0, 1) := by decide +kernel
theorem dX8_goesRound_11 : decode cX8_goesRound 11 = .ok (.getfield 13, 3) := by decide +kernel
theorem dX8_goesRound_14 : decode cX8_goesRound 14 = .ok (.iconst 1, 1) := by decide +kernel
theorem dX8_goesRound_15 : decode cX8_goesRound 15 = .ok (.iaload, 1) := by decide +kernel
theorem dX8_goesRound_16 : decode cX8_goesRound 16 = .ok (.if_icmp .ge 111, 3) := by decide +kernel
theorem dX8_goesRound_19 : decode cX8_goesRound 19 = .ok (.aload_n 0, 1) := by decide +kernel
theorem dX8_goesRound_20 : decode cX8_goesRound 20 = .ok (.iload_n 2, 1) := by decide +kernel
theorem dX8_goesRound_21 : decode cX8_goesRound 21 = .ok (.invokevirtual 178, 3) := by decide +kernel
theorem dX8_goesRound_24 : decode cX8_goesRound 24 = .ok (.ifCond .eq 97, 3) := by decide +kernel
theorem dX8_goesRound_27 : decode cX8_goesRound 27 = .ok (.aload_n 0, 1) := by decide +kernel
theorem dX8_goesRound_28 : decode cX8_goesRound 28 = .ok (.iload_n 2, 1) := by decide +kernel
theorem dX8_goesRound_29 : decode cX8_goesRound 29 = .ok (.invokevirtual 174, 3) := by decide +kernel
theorem dX8_goesRound_32 : decode cX8_goesRound 32 = .ok (.bipush 100, 2) := by decide +kernel
theorem dX8_goesRound_34 : decode cX8_goesRound 34 = .ok (.aload_n 0, 1) := by decide +kernel
theorem dX8_goesRound_35 : decode cX8_goesRound 35 = .ok (.iload_n 2, 1) := by decide +kernel
theorem dX8_goesRound_36 : decode cX8_goesRound 36 = .ok (.iconst 3, 1) := by decide +kernel
theorem dX8_goesRound_37 : decode cX8_goesRound 37 = .ok (.invokevirtual 131, 3) := by decide +kernel
theorem dX8_goesRound_40 : decode cX8_goesRound 40 = .ok (.imul, 1) := by decide +kernel
theorem dX8_goesRound_41 : decode cX8_goesRound 41 = .ok (.isub, 1) := by decide +kernel
theorem dX8_goesRound_42 : decode cX8_goesRound 42 = .ok (.istore_n 3, 1) := by decide +kernel
theorem dX8_goesRound_43 : decode cX8_goesRound 43 = .ok (.aload_n 0, 1) := by decide +kernel
theorem dX8_goesRound_44 : decode cX8_goesRound 44 = .ok (.iload_n 2, 1) := by decide +kernel
theorem dX8_goesRound_45 : decode cX8_goesRound 45 = .ok (.iconst 2, 1) := by decide +kernel
theorem dX8_goesRound_46 : decode cX8_goesRound 46 = .ok (.invokevirtual 131, 3) := by decide +kernel
theorem dX8_goesRound_49 : decode cX8_goesRound 49 = .ok (.istore 4, 2) := by decide +kernel
theorem dX8_goesRound_51 : decode cX8_goesRound 51 = .ok (.iload_n 3, 1) := by decide +kernel
theorem dX8_goesRound_52 : decode cX8_goesRound 52 = .ok (.ifCond .le 16, 3) := by decide +kernel
theorem dX8_goesRound_55 : decode cX8_goesRound 55 = .ok (.iload 4, 2) := by decide +kernel
theorem dX8_goesRound_57 : decode cX8_goesRound 57 = .ok (.iconst 5, 1) := by decide +kernel
theorem dX8_goesRound_58 : decode cX8_goesRound 58 = .ok (.if_icmp .ge 10, 3) := by decide +kernel
theorem dX8_goesRound_61 : decode cX8_goesRound 61 = .ok (.iload 4, 2) := by decide +kernel
theorem dX8_goesRound_63 : decode cX8_goesRound 63 = .ok (.iconst 1, 1) := by decide +kernel
theorem dX8_goesRound_64 : decode cX8_goesRound 64 = .ok (.iadd, 1) := by decide +kernel
theorem dX8_goesRound_65 : decode cX8_goesRound 65 = .ok (.goto 22, 3) := by decide +kernel
theorem dX8_goesRound_68 : decode cX8_goesRound 68 = .ok (.iload_n 3, 1) := by decide +kernel
theorem dX8_goesRound_69 : decode cX8_goesRound 69 = .ok (.ifCond .ge 16, 3) := by decide +kernel
theorem dX8_goesRound_72 : decode cX8_goesRound 72 = .ok (.iload 4, 2) := by decide +kernel
theorem dX8_goesRound_74 : decode cX8_goesRound 74 = .ok (.iconst 1, 1) := by decide +kernel
theorem dX8_goesRound_75 : decode cX8_goesRound 75 = .ok (.if_icmp .le 10, 3) := by decide +kernel
theorem dX8_goesRound_78 : decode cX8_goesRound 78 = .ok (.iload 4, 2) := by decide +kernel
theorem dX8_goesRound_80 : decode cX8_goesRound 80 = .ok (.iconst 1, 1) := by decide +kernel
theorem dX8_goesRound_81 : decode cX8_goesRound 81 = .ok (.isub, 1) := by decide +kernel
theorem dX8_goesRound_82 : decode cX8_goesRound 82 = .ok (.goto 5, 3) := by decide +kernel
theorem dX8_goesRound_85 : decode cX8_goesRound 85 = .ok (.iload 4, 2) := by decide +kernel
theorem dX8_goesRound_87 : decode cX8_goesRound 87 = .ok (.istore 5, 2) := by decide +kernel
theorem dX8_goesRound_89 : decode cX8_goesRound 89 = .ok (.iload_n 1, 1) := by decide +kernel
theorem dX8_goesRound_90 : decode cX8_goesRound 90 = .ok (.ifCond .ne 10, 3) := by decide +kernel
theorem dX8_goesRound_93 : decode cX8_goesRound 93 = .ok (.iload 5, 2) := by decide +kernel
theorem dX8_goesRound_95 : decode cX8_goesRound 95 = .ok (.iload 4, 2) := by decide +kernel
theorem dX8_goesRound_97 : decode cX8_goesRound 97 = .ok (.if_icmp .eq 7, 3) := by decide +kernel
theorem dX8_goesRound_100 : decode cX8_goesRound 100 = .ok (.iconst 1, 1) := by decide +kernel
theorem dX8_goesRound_101 : decode cX8_goesRound 101 = .ok (.goto 4, 3) := by decide +kernel
theorem dX8_goesRound_104 : decode cX8_goesRound 104 = .ok (.iconst 0, 1) := by decide +kernel
theorem dX8_goesRound_105 : decode cX8_goesRound 105 = .ok (.istore_n 1, 1) := by decide +kernel
theorem dX8_goesRound_106 : decode cX8_goesRound 106 = .ok (.aload_n 0, 1) := by decide +kernel
theorem dX8_goesRound_107 : decode cX8_goesRound 107 = .ok (.getfield 13, 3) := by decide +kernel
theorem dX8_goesRound_110 : decode cX8_goesRound 110 = .ok (.bipush 54, 2) := by decide +kernel
theorem dX8_goesRound_112 : decode cX8_goesRound 112 = .ok (.iconst 5, 1) := by decide +kernel
theorem dX8_goesRound_113 : decode cX8_goesRound 113 = .ok (.iload_n 2, 1) := by decide +kernel
theorem dX8_goesRound_114 : decode cX8_goesRound 114 = .ok (.imul, 1) := by decide +kernel
theorem dX8_goesRound_115 : decode cX8_goesRound 115 = .ok (.iadd, 1) := by decide +kernel
theorem dX8_goesRound_116 : decode cX8_goesRound 116 = .ok (.iconst 2, 1) := by decide +kernel
theorem dX8_goesRound_117 : decode cX8_goesRound 117 = .ok (.iadd, 1) := by decide +kernel
theorem dX8_goesRound_118 : decode cX8_goesRound 118 = .ok (.iload 5, 2) := by decide +kernel
theorem dX8_goesRound_120 : decode cX8_goesRound 120 = .ok (.iastore, 1) := by decide +kernel
theorem dX8_goesRound_121 : decode cX8_goesRound 121 = .ok (.iinc 2 1, 3) := by decide +kernel
theorem dX8_goesRound_124 : decode cX8_goesRound 124 = .ok (.goto (-115), 3) := by decide +kernel
theorem dX8_goesRound_127 : decode cX8_goesRound 127 = .ok (.iload_n 1, 1) := by decide +kernel
theorem dX8_goesRound_128 : decode cX8_goesRound 128 = .ok (.ireturn, 1) := by decide +kernel
theorem dX8_round_0 : decode cX8_round 0 = .ok (.aload_n 0, 1) := by decide +kernel
theorem dX8_round_1 : decode cX8_round 1 = .ok (.iconst 0, 1) := by decide +kernel
theorem dX8_round_2 : decode cX8_round 2 = .ok (.putfield 69, 3) := by decide +kernel
theorem dX8_round_5 : decode cX8_round 5 = .ok (.iload_n 1, 1) := by decide +kernel
theorem dX8_round_6 : decode cX8_round 6 = .ok (.iconst 1, 1) := by decide +kernel
theorem dX8_round_7 : decode cX8_round 7 = .ok (.bipush 20, 2) := by decide +kernel
theorem dX8_round_9 : decode cX8_round 9 = .ok (.invokestatic 73, 3) := by decide +kernel
theorem dX8_round_12 : decode cX8_round 12 = .ok (.ifCond .ne 5, 3) := by decide +kernel
theorem dX8_round_15 : decode cX8_round 15 = .ok (.iconst (-1), 1) := by decide +kernel
theorem dX8_round_16 : decode cX8_round 16 = .ok (.ireturn, 1) := by decide +kernel
theorem dX8_round_17 : decode cX8_round 17 = .ok (.aload_n 0, 1) := by decide +kernel
theorem dX8_round_18 : decode cX8_round 18 = .ok (.bipush (-4), 2) := by decide +kernel
theorem dX8_round_20 : decode cX8_round 20 = .ok (.invokevirtual 150, 3) := by decide +kernel
theorem dX8_round_23 : decode cX8_round 23 = .ok (.ifCond .ne 6, 3) := by decide +kernel
theorem dX8_round_26 : decode cX8_round 26 = .ok (.bipush (-2), 2) := by decide +kernel
theorem dX8_round_28 : decode cX8_round 28 = .ok (.ireturn, 1) := by decide +kernel
theorem dX8_round_29 : decode cX8_round 29 = .ok (.aload_n 0, 1) := by decide +kernel
theorem dX8_round_30 : decode cX8_round 30 = .ok (.invokevirtual 187, 3) := by decide +kernel
theorem dX8_round_33 : decode cX8_round 33 = .ok (.iconst 0, 1) := by decide +kernel
theorem dX8_round_34 : decode cX8_round 34 = .ok (.istore_n 2, 1) := by decide +kernel
theorem dX8_round_35 : decode cX8_round 35 = .ok (.iconst 0, 1) := by decide +kernel
theorem dX8_round_36 : decode cX8_round 36 = .ok (.istore_n 3, 1) := by decide +kernel
theorem dX8_round_37 : decode cX8_round 37 = .ok (.iload_n 3, 1) := by decide +kernel
theorem dX8_round_38 : decode cX8_round 38 = .ok (.iload_n 1, 1) := by decide +kernel
theorem dX8_round_39 : decode cX8_round 39 = .ok (.if_icmp .ge 24, 3) := by decide +kernel
theorem dX8_round_42 : decode cX8_round 42 = .ok (.iload_n 2, 1) := by decide +kernel
theorem dX8_round_43 : decode cX8_round 43 = .ok (.aload_n 0, 1) := by decide +kernel
theorem dX8_round_44 : decode cX8_round 44 = .ok (.invokevirtual 206, 3) := by decide +kernel
theorem dX8_round_47 : decode cX8_round 47 = .ok (.ifCond .eq 7, 3) := by decide +kernel
theorem dX8_round_50 : decode cX8_round 50 = .ok (.iconst 1, 1) := by decide +kernel
theorem dX8_round_51 : decode cX8_round 51 = .ok (.goto 4, 3) := by decide +kernel
theorem dX8_round_54 : decode cX8_round 54 = .ok (.iconst 0, 1) := by decide +kernel
theorem dX8_round_55 : decode cX8_round 55 = .ok (.iadd, 1) := by decide +kernel
theorem dX8_round_56 : decode cX8_round 56 = .ok (.istore_n 2, 1) := by decide +kernel
theorem dX8_round_57 : decode cX8_round 57 = .ok (.iinc 3 1, 3) := by decide +kernel
theorem dX8_round_60 : decode cX8_round 60 = .ok (.goto (-23), 3) := by decide +kernel
theorem dX8_round_63 : decode cX8_round 63 = .ok (.iload_n 2, 1) := by decide +kernel
theorem dX8_round_64 : decode cX8_round 64 = .ok (.ireturn, 1) := by decide +kernel
theorem dX8_undo_0 : decode cX8_undo 0 = .ok (.aload_n 0, 1) := by decide +kernel
theorem dX8_undo_1 : decode cX8_undo 1 = .ok (.iconst 0, 1) := by decide +kernel
theorem dX8_undo_2 : decode cX8_undo 2 = .ok (.putfield 69, 3) := by decide +kernel
theorem dX8_undo_5 : decode cX8_undo 5 = .ok (.aload_n 0, 1) := by decide +kernel
theorem dX8_undo_6 : decode cX8_undo 6 = .ok (.getfield 128, 3) := by decide +kernel
theorem dX8_undo_9 : decode cX8_undo 9 = .ok (.ifCond .ne 6, 3) := by decide +kernel
theorem dX8_undo_12 : decode cX8_undo 12 = .ok (.bipush (-2), 2) := by decide +kernel
theorem dX8_undo_14 : decode cX8_undo 14 = .ok (.ireturn, 1) := by decide +kernel
theorem dX8_undo_15 : decode cX8_undo 15 = .ok (.aload_n 0, 1) := by decide +kernel
theorem dX8_undo_16 : decode cX8_undo 16 = .ok (.dup, 1) := by decide +kernel
theorem dX8_undo_17 : decode cX8_undo 17 = .ok (.getfield 128, 3) := by decide +kernel
theorem dX8_undo_20 : decode cX8_undo 20 = .ok (.iconst 1, 1) := by decide +kernel
theorem dX8_undo_21 : decode cX8_undo 21 = .ok (.isub, 1) := by decide +kernel
theorem dX8_undo_22 : decode cX8_undo 22 = .ok (.putfield 128, 3) := by decide +kernel
theorem dX8_undo_25 : decode cX8_undo 25 = .ok (.iconst 0, 1) := by decide +kernel
theorem dX8_undo_26 : decode cX8_undo 26 = .ok (.istore_n 1, 1) := by decide +kernel
theorem dX8_undo_27 : decode cX8_undo 27 = .ok (.iload_n 1, 1) := by decide +kernel
theorem dX8_undo_28 : decode cX8_undo 28 = .ok (.bipush 124, 2) := by decide +kernel
theorem dX8_undo_30 : decode cX8_undo 30 = .ok (.if_icmp .ge 29, 3) := by decide +kernel
theorem dX8_undo_33 : decode cX8_undo 33 = .ok (.aload_n 0, 1) := by decide +kernel
theorem dX8_undo_34 : decode cX8_undo 34 = .ok (.getfield 13, 3) := by decide +kernel
theorem dX8_undo_37 : decode cX8_undo 37 = .ok (.iload_n 1, 1) := by decide +kernel
theorem dX8_undo_38 : decode cX8_undo 38 = .ok (.aload_n 0, 1) := by decide +kernel
theorem dX8_undo_39 : decode cX8_undo 39 = .ok (.getfield 20, 3) := by decide +kernel
theorem dX8_undo_42 : decode cX8_undo 42 = .ok (.bipush 124, 2) := by decide +kernel
theorem dX8_undo_44 : decode cX8_undo 44 = .ok (.aload_n 0, 1) := by decide +kernel
theorem dX8_undo_45 : decode cX8_undo 45 = .ok (.getfield 128, 3) := by decide +kernel
theorem dX8_undo_48 : decode cX8_undo 48 = .ok (.imul, 1) := by decide +kernel
theorem dX8_undo_49 : decode cX8_undo 49 = .ok (.iload_n 1, 1) := by decide +kernel
theorem dX8_undo_50 : decode cX8_undo 50 = .ok (.iadd, 1) := by decide +kernel
theorem dX8_undo_51 : decode cX8_undo 51 = .ok (.iaload, 1) := by decide +kernel
theorem dX8_undo_52 : decode cX8_undo 52 = .ok (.iastore, 1) := by decide +kernel
theorem dX8_undo_53 : decode cX8_undo 53 = .ok (.iinc 1 1, 3) := by decide +kernel
theorem dX8_undo_56 : decode cX8_undo 56 = .ok (.goto (-29), 3) := by decide +kernel
theorem dX8_undo_59 : decode cX8_undo 59 = .ok (.aload_n 0, 1) := by decide +kernel
theorem dX8_undo_60 : decode cX8_undo 60 = .ok (.getfield 128, 3) := by decide +kernel
theorem dX8_undo_63 : decode cX8_undo 63 = .ok (.ireturn, 1) := by decide +kernel
theorem dX8_bitsOf_0 : decode cX8_bitsOf 0 = .ok (.iconst 0, 1) := by decide +kernel
theorem dX8_bitsOf_1 : decode cX8_bitsOf 1 = .ok (.istore_n 2, 1) := by decide +kernel
theorem dX8_bitsOf_2 : decode cX8_bitsOf 2 = .ok (.iconst 0, 1) := by decide +kernel
theorem dX8_bitsOf_3 : decode cX8_bitsOf 3 = .ok (.istore_n 3, 1) := by decide +kernel
theorem dX8_bitsOf_4 : decode cX8_bitsOf 4 = .ok (.iload_n 3, 1) := by decide +kernel
theorem dX8_bitsOf_5 : decode cX8_bitsOf 5 = .ok (.aload_n 0, 1) := by decide +kernel
theorem dX8_bitsOf_6 : decode cX8_bitsOf 6 = .ok (.getfield 13, 3) := by decide +kernel
theorem dX8_bitsOf_9 : decode cX8_bitsOf 9 = .ok (.iconst 1, 1) := by decide +kernel
theorem dX8_bitsOf_10 : decode cX8_bitsOf 10 = .ok (.iaload, 1) := by decide +kernel
theorem dX8_bitsOf_11 : decode cX8_bitsOf 11 = .ok (.if_icmp .ge 36, 3) := by decide +kernel
theorem dX8_bitsOf_14 : decode cX8_bitsOf 14 = .ok (.iload_n 2, 1) := by decide +kernel
theorem dX8_bitsOf_15 : decode cX8_bitsOf 15 = .ok (.aload_n 0, 1) := by decide +kernel
theorem dX8_bitsOf_16 : decode cX8_bitsOf 16 = .ok (.iload_n 3, 1) := by decide +kernel
theorem dX8_bitsOf_17 : decode cX8_bitsOf 17 = .ok (.invokevirtual 137, 3) := by decide +kernel
theorem dX8_bitsOf_20 : decode cX8_bitsOf 20 = .ok (.ifCond .eq 18, 3) := by decide +kernel
theorem dX8_bitsOf_23 : decode cX8_bitsOf 23 = .ok (.aload_n 0, 1) := by decide +kernel
theorem dX8_bitsOf_24 : decode cX8_bitsOf 24 = .ok (.iload_n 3, 1) := by decide +kernel
theorem dX8_bitsOf_25 : decode cX8_bitsOf 25 = .ok (.iload_n 1, 1) := by decide +kernel
theorem dX8_bitsOf_26 : decode cX8_bitsOf 26 = .ok (.invokevirtual 184, 3) := by decide +kernel
theorem dX8_bitsOf_29 : decode cX8_bitsOf 29 = .ok (.ifCond .eq 9, 3) := by decide +kernel
theorem dX8_bitsOf_32 : decode cX8_bitsOf 32 = .ok (.iconst 1, 1) := by decide +kernel
theorem dX8_bitsOf_33 : decode cX8_bitsOf 33 = .ok (.iload_n 3, 1) := by decide +kernel
theorem dX8_bitsOf_34 : decode cX8_bitsOf 34 = .ok (.ishl, 1) := by decide +kernel
theorem dX8_bitsOf_35 : decode cX8_bitsOf 35 = .ok (.goto 4, 3) := by decide +kernel
theorem dX8_bitsOf_38 : decode cX8_bitsOf 38 = .ok (.iconst 0, 1) := by decide +kernel
theorem dX8_bitsOf_39 : decode cX8_bitsOf 39 = .ok (.ior, 1) := by decide +kernel
theorem dX8_bitsOf_40 : decode cX8_bitsOf 40 = .ok (.istore_n 2, 1) := by decide +kernel
theorem dX8_bitsOf_41 : decode cX8_bitsOf 41 = .ok (.iinc 3 1, 3) := by decide +kernel
theorem dX8_bitsOf_44 : decode cX8_bitsOf 44 = .ok (.goto (-40), 3) := by decide +kernel
theorem dX8_bitsOf_47 : decode cX8_bitsOf 47 = .ok (.iload_n 2, 1) := by decide +kernel
theorem dX8_bitsOf_48 : decode cX8_bitsOf 48 = .ok (.ireturn, 1) := by decide +kernel
theorem dX8_joint_0 : decode cX8_joint 0 = .ok (.aload_n 0, 1) := by decide +kernel
theorem dX8_joint_1 : decode cX8_joint 1 = .ok (.iconst 0, 1) := by decide +kernel
theorem dX8_joint_2 : decode cX8_joint 2 = .ok (.putfield 69, 3) := by decide +kernel
theorem dX8_joint_5 : decode cX8_joint 5 = .ok (.aload_n 0, 1) := by decide +kernel
theorem dX8_joint_6 : decode cX8_joint 6 = .ok (.iload_n 1, 1) := by decide +kernel
theorem dX8_joint_7 : decode cX8_joint 7 = .ok (.invokevirtual 196, 3) := by decide +kernel
theorem dX8_joint_10 : decode cX8_joint 10 = .ok (.ifCond .eq 13, 3) := by decide +kernel
theorem dX8_joint_13 : decode cX8_joint 13 = .ok (.iload_n 2, 1) := by decide +kernel
theorem dX8_joint_14 : decode cX8_joint 14 = .ok (.iconst 0, 1) := by decide +kernel
theorem dX8_joint_15 : decode cX8_joint 15 = .ok (.bipush 7, 2) := by decide +kernel
theorem dX8_joint_17 : decode cX8_joint 17 = .ok (.invokestatic 73, 3) := by decide +kernel
theorem dX8_joint_20 : decode cX8_joint 20 = .ok (.ifCond .ne 5, 3) := by decide +kernel
theorem dX8_joint_23 : decode cX8_joint 23 = .ok (.iconst (-1), 1) := by decide +kernel
theorem dX8_joint_24 : decode cX8_joint 24 = .ok (.ireturn, 1) := by decide +kernel
theorem dX8_joint_25 : decode cX8_joint 25 = .ok (.aload_n 0, 1) := by decide +kernel
theorem dX8_joint_26 : decode cX8_joint 26 = .ok (.invokevirtual 202, 3) := by decide +kernel
theorem dX8_joint_29 : decode cX8_joint 29 = .ok (.istore_n 3, 1) := by decide +kernel
theorem dX8_joint_30 : decode cX8_joint 30 = .ok (.iload_n 2, 1) := by decide +kernel
theorem dX8_joint_31 : decode cX8_joint 31 = .ok (.tableswitch 119 0 7 #[45, 119, 119, 119, 54, 60, 73, 88], 45) := by decide +kernel
theorem dX8_joint_76 : decode cX8_joint 76 = .ok (.aload_n 0, 1) := by decide +kernel
theorem dX8_joint_77 : decode cX8_joint 77 = .ok (.getfield 13, 3) := by decide +kernel
theorem dX8_joint_80 : decode cX8_joint 80 = .ok (.iconst 4, 1) := by decide +kernel
theorem dX8_joint_81 : decode cX8_joint 81 = .ok (.iload_n 1, 1) := by decide +kernel
theorem dX8_joint_82 : decode cX8_joint 82 = .ok (.iadd, 1) := by decide +kernel
theorem dX8_joint_83 : decode cX8_joint 83 = .ok (.iaload, 1) := by decide +kernel
theorem dX8_joint_84 : decode cX8_joint 84 = .ok (.ireturn, 1) := by decide +kernel
theorem dX8_joint_85 : decode cX8_joint 85 = .ok (.aload_n 0, 1) := by decide +kernel
theorem dX8_joint_86 : decode cX8_joint 86 = .ok (.iload_n 1, 1) := by decide +kernel
theorem dX8_joint_87 : decode cX8_joint 87 = .ok (.invokevirtual 209, 3) := by decide +kernel
theorem dX8_joint_90 : decode cX8_joint 90 = .ok (.ireturn, 1) := by decide +kernel
theorem dX8_joint_91 : decode cX8_joint 91 = .ok (.aload_n 0, 1) := by decide +kernel
theorem dX8_joint_92 : decode cX8_joint 92 = .ok (.getfield 13, 3) := by decide +kernel
theorem dX8_joint_95 : decode cX8_joint 95 = .ok (.bipush 44, 2) := by decide +kernel
theorem dX8_joint_97 : decode cX8_joint 97 = .ok (.iload_n 1, 1) := by decide +kernel
theorem dX8_joint_98 : decode cX8_joint 98 = .ok (.iadd, 1) := by decide +kernel
theorem dX8_joint_99 : decode cX8_joint 99 = .ok (.iaload, 1) := by decide +kernel
theorem dX8_joint_100 : decode cX8_joint 100 = .ok (.bipush 9, 2) := by decide +kernel
theorem dX8_joint_102 : decode cX8_joint 102 = .ok (.iadd, 1) := by decide +kernel
theorem dX8_joint_103 : decode cX8_joint 103 = .ok (.ireturn, 1) := by decide +kernel
theorem dX8_joint_104 : decode cX8_joint 104 = .ok (.aload_n 0, 1) := by decide +kernel
theorem dX8_joint_105 : decode cX8_joint 105 = .ok (.getfield 29, 3) := by decide +kernel
theorem dX8_joint_108 : decode cX8_joint 108 = .ok (.iload_n 1, 1) := by decide +kernel
theorem dX8_joint_109 : decode cX8_joint 109 = .ok (.baload, 1) := by decide +kernel
theorem dX8_joint_110 : decode cX8_joint 110 = .ok (.ifCond .eq 7, 3) := by decide +kernel
theorem dX8_joint_113 : decode cX8_joint 113 = .ok (.iconst 1, 1) := by decide +kernel
theorem dX8_joint_114 : decode cX8_joint 114 = .ok (.goto 4, 3) := by decide +kernel
theorem dX8_joint_117 : decode cX8_joint 117 = .ok (.iconst 0, 1) := by decide +kernel
theorem dX8_joint_118 : decode cX8_joint 118 = .ok (.ireturn, 1) := by decide +kernel
theorem dX8_joint_119 : decode cX8_joint 119 = .ok (.iload_n 3, 1) := by decide +kernel
theorem dX8_joint_120 : decode cX8_joint 120 = .ok (.ifCond .ne 8, 3) := by decide +kernel
theorem dX8_joint_123 : decode cX8_joint 123 = .ok (.bipush (-2), 2) := by decide +kernel
theorem dX8_joint_125 : decode cX8_joint 125 = .ok (.goto 24, 3) := by decide +kernel
theorem dX8_joint_128 : decode cX8_joint 128 = .ok (.aload_n 0, 1) := by decide +kernel
theorem dX8_joint_129 : decode cX8_joint 129 = .ok (.iload_n 1, 1) := by decide +kernel
theorem dX8_joint_130 : decode cX8_joint 130 = .ok (.invokevirtual 134, 3) := by decide +kernel
theorem dX8_joint_133 : decode cX8_joint 133 = .ok (.ifCond .eq 11, 3) := by decide +kernel
theorem dX8_joint_136 : decode cX8_joint 136 = .ok (.aload_n 0, 1) := by decide +kernel
theorem dX8_joint_137 : decode cX8_joint 137 = .ok (.iload_n 1, 1) := by decide +kernel
theorem dX8_joint_138 : decode cX8_joint 138 = .ok (.invokevirtual 212, 3) := by decide +kernel
theorem dX8_joint_141 : decode cX8_joint 141 = .ok (.ifCond .eq 7, 3) := by decide +kernel
theorem dX8_joint_144 : decode cX8_joint 144 = .ok (.iconst 1, 1) := by decide +kernel
theorem dX8_joint_145 : decode cX8_joint 145 = .ok (.goto 4, 3) := by decide +kernel
theorem dX8_joint_148 : decode cX8_joint 148 = .ok (.iconst 0, 1) := by decide +kernel
theorem dX8_joint_149 : decode cX8_joint 149 = .ok (.ireturn, 1) := by decide +kernel
theorem dX8_joint_150 : decode cX8_joint 150 = .ok (.iload_n 3, 1) := by decide +kernel
theorem dX8_joint_151 : decode cX8_joint 151 = .ok (.ifCond .eq 21, 3) := by decide +kernel
theorem dX8_joint_154 : decode cX8_joint 154 = .ok (.aload_n 0, 1) := by decide +kernel
theorem dX8_joint_155 : decode cX8_joint 155 = .ok (.getfield 43, 3) := by decide +kernel
theorem dX8_joint_158 : decode cX8_joint 158 = .ok (.iconst 3, 1) := by decide +kernel
theorem dX8_joint_159 : decode cX8_joint 159 = .ok (.iload_n 1, 1) := by decide +kernel
theorem dX8_joint_160 : decode cX8_joint 160 = .ok (.imul, 1) := by decide +kernel
theorem dX8_joint_161 : decode cX8_joint 161 = .ok (.iload_n 2, 1) := by decide +kernel
theorem dX8_joint_162 : decode cX8_joint 162 = .ok (.iadd, 1) := by decide +kernel
theorem dX8_joint_163 : decode cX8_joint 163 = .ok (.iconst 1, 1) := by decide +kernel
theorem dX8_joint_164 : decode cX8_joint 164 = .ok (.isub, 1) := by decide +kernel
theorem dX8_joint_165 : decode cX8_joint 165 = .ok (.iaload, 1) := by decide +kernel
theorem dX8_joint_166 : decode cX8_joint 166 = .ok (.ldc 215, 2) := by decide +kernel
theorem dX8_joint_168 : decode cX8_joint 168 = .ok (.iadd, 1) := by decide +kernel
theorem dX8_joint_169 : decode cX8_joint 169 = .ok (.goto 5, 3) := by decide +kernel
theorem dX8_joint_172 : decode cX8_joint 172 = .ok (.bipush (-2), 2) := by decide +kernel
theorem dX8_joint_174 : decode cX8_joint 174 = .ok (.ireturn, 1) := by decide +kernel
theorem dX8_common_0 : decode cX8_common 0 = .ok (.lload_n 0, 1) := by decide +kernel
theorem dX8_common_1 : decode cX8_common 1 = .ok (.lconst 0, 1) := by decide +kernel
theorem dX8_common_2 : decode cX8_common 2 = .ok (.lcmp, 1) := by decide +kernel
theorem dX8_common_3 : decode cX8_common 3 = .ok (.ifCond .ge 8, 3) := by decide +kernel
theorem dX8_common_6 : decode cX8_common 6 = .ok (.lload_n 0, 1) := by decide +kernel
theorem dX8_common_7 : decode cX8_common 7 = .ok (.lneg, 1) := by decide +kernel
theorem dX8_common_8 : decode cX8_common 8 = .ok (.goto 4, 3) := by decide +kernel
theorem dX8_common_11 : decode cX8_common 11 = .ok (.lload_n 0, 1) := by decide +kernel
theorem dX8_common_12 : decode cX8_common 12 = .ok (.lstore 4, 2) := by decide +kernel
theorem dX8_common_14 : decode cX8_common 14 = .ok (.lload_n 2, 1) := by decide +kernel
theorem dX8_common_15 : decode cX8_common 15 = .ok (.lstore 6, 2) := by decide +kernel
theorem dX8_common_17 : decode cX8_common 17 = .ok (.lload 6, 2) := by decide +kernel
theorem dX8_common_19 : decode cX8_common 19 = .ok (.lconst 0, 1) := by decide +kernel
theorem dX8_common_20 : decode cX8_common 20 = .ok (.lcmp, 1) := by decide +kernel
theorem dX8_common_21 : decode cX8_common 21 = .ok (.ifCond .eq 21, 3) := by decide +kernel
theorem dX8_common_24 : decode cX8_common 24 = .ok (.lload 4, 2) := by decide +kernel
theorem dX8_common_26 : decode cX8_common 26 = .ok (.lload 6, 2) := by decide +kernel
theorem dX8_common_28 : decode cX8_common 28 = .ok (.lrem, 1) := by decide +kernel
theorem dX8_common_29 : decode cX8_common 29 = .ok (.lstore 8, 2) := by decide +kernel
theorem dX8_common_31 : decode cX8_common 31 = .ok (.lload 6, 2) := by decide +kernel
theorem dX8_common_33 : decode cX8_common 33 = .ok (.lstore 4, 2) := by decide +kernel
theorem dX8_common_35 : decode cX8_common 35 = .ok (.lload 8, 2) := by decide +kernel
theorem dX8_common_37 : decode cX8_common 37 = .ok (.lstore 6, 2) := by decide +kernel
theorem dX8_common_39 : decode cX8_common 39 = .ok (.goto (-22), 3) := by decide +kernel
theorem dX8_common_42 : decode cX8_common 42 = .ok (.lload 4, 2) := by decide +kernel
theorem dX8_common_44 : decode cX8_common 44 = .ok (.lreturn, 1) := by decide +kernel
theorem dX8_exact_0 : decode cX8_exact 0 = .ok (.aload_n 0, 1) := by decide +kernel
theorem dX8_exact_1 : decode cX8_exact 1 = .ok (.iconst 0, 1) := by decide +kernel
theorem dX8_exact_2 : decode cX8_exact 2 = .ok (.putfield 69, 3) := by decide +kernel
theorem dX8_exact_5 : decode cX8_exact 5 = .ok (.aload_n 0, 1) := by decide +kernel
theorem dX8_exact_6 : decode cX8_exact 6 = .ok (.iload_n 1, 1) := by decide +kernel
theorem dX8_exact_7 : decode cX8_exact 7 = .ok (.invokevirtual 196, 3) := by decide +kernel
theorem dX8_exact_10 : decode cX8_exact 10 = .ok (.ifCond .eq 21, 3) := by decide +kernel
theorem dX8_exact_13 : decode cX8_exact 13 = .ok (.iload_n 2, 1) := by decide +kernel
theorem dX8_exact_14 : decode cX8_exact 14 = .ok (.iconst 0, 1) := by decide +kernel
theorem dX8_exact_15 : decode cX8_exact 15 = .ok (.iconst 2, 1) := by decide +kernel
theorem dX8_exact_16 : decode cX8_exact 16 = .ok (.invokestatic 73, 3) := by decide +kernel
theorem dX8_exact_19 : decode cX8_exact 19 = .ok (.ifCond .eq 12, 3) := by decide +kernel
theorem dX8_exact_22 : decode cX8_exact 22 = .ok (.iload_n 3, 1) := by decide +kernel
theorem dX8_exact_23 : decode cX8_exact 23 = .ok (.iconst 0, 1) := by decide +kernel
theorem dX8_exact_24 : decode cX8_exact 24 = .ok (.iconst 1, 1) := by decide +kernel
theorem dX8_exact_25 : decode cX8_exact 25 = .ok (.invokestatic 73, 3) := by decide +kernel
theorem dX8_exact_28 : decode cX8_exact 28 = .ok (.ifCond .ne 6, 3) := by decide +kernel
theorem dX8_exact_31 : decode cX8_exact 31 = .ok (.ldc 216, 2) := by decide +kernel
theorem dX8_exact_33 : decode cX8_exact 33 = .ok (.ireturn, 1) := by decide +kernel
theorem dX8_exact_34 : decode cX8_exact 34 = .ok (.aload_n 0, 1) := by decide +kernel
theorem dX8_exact_35 : decode cX8_exact 35 = .ok (.invokevirtual 202, 3) := by decide +kernel
theorem dX8_exact_38 : decode cX8_exact 38 = .ok (.ifCond .ne 6, 3) := by decide +kernel
theorem dX8_exact_41 : decode cX8_exact 41 = .ok (.ldc 217, 2) := by decide +kernel
theorem dX8_exact_43 : decode cX8_exact 43 = .ok (.ireturn, 1) := by decide +kernel
theorem dX8_exact_44 : decode cX8_exact 44 = .ok (.aload_n 0, 1) := by decide +kernel
theorem dX8_exact_45 : decode cX8_exact 45 = .ok (.getfield 40, 3) := by decide +kernel
theorem dX8_exact_48 : decode cX8_exact 48 = .ok (.iconst 3, 1) := by decide +kernel
theorem dX8_exact_49 : decode cX8_exact 49 = .ok (.iload_n 1, 1) := by decide +kernel
theorem dX8_exact_50 : decode cX8_exact 50 = .ok (.imul, 1) := by decide +kernel
theorem dX8_exact_51 : decode cX8_exact 51 = .ok (.iload_n 2, 1) := by decide +kernel
theorem dX8_exact_52 : decode cX8_exact 52 = .ok (.iadd, 1) := by decide +kernel
theorem dX8_exact_53 : decode cX8_exact 53 = .ok (.laload, 1) := by decide +kernel
theorem dX8_exact_54 : decode cX8_exact 54 = .ok (.lstore 4, 2) := by decide +kernel
theorem dX8_exact_56 : decode cX8_exact 56 = .ok (.lload 4, 2) := by decide +kernel
theorem dX8_exact_58 : decode cX8_exact 58 = .ok (.aload_n 0, 1) := by decide +kernel
theorem dX8_exact_59 : decode cX8_exact 59 = .ok (.getfield 156, 3) := by decide +kernel
theorem dX8_exact_62 : decode cX8_exact 62 = .ok (.invokestatic 218, 3) := by decide +kernel
theorem dX8_exact_65 : decode cX8_exact 65 = .ok (.lstore 6, 2) := by decide +kernel
theorem dX8_exact_67 : decode cX8_exact 67 = .ok (.iload_n 3, 1) := by decide +kernel
theorem dX8_exact_68 : decode cX8_exact 68 = .ok (.ifCond .ne 11, 3) := by decide +kernel
theorem dX8_exact_71 : decode cX8_exact 71 = .ok (.lload 4, 2) := by decide +kernel
theorem dX8_exact_73 : decode cX8_exact 73 = .ok (.lload 6, 2) := by decide +kernel
theorem dX8_exact_75 : decode cX8_exact 75 = .ok (.ldiv, 1) := by decide +kernel
theorem dX8_exact_76 : decode cX8_exact 76 = .ok (.goto 10, 3) := by decide +kernel
theorem dX8_exact_79 : decode cX8_exact 79 = .ok (.aload_n 0, 1) := by decide +kernel
theorem dX8_exact_80 : decode cX8_exact 80 = .ok (.getfield 156, 3) := by decide +kernel
theorem dX8_exact_83 : decode cX8_exact 83 = .ok (.lload 6, 2) := by decide +kernel
theorem dX8_exact_85 : decode cX8_exact 85 = .ok (.ldiv, 1) := by decide +kernel
theorem dX8_exact_86 : decode cX8_exact 86 = .ok (.l2i, 1) := by decide +kernel
theorem dX8_exact_87 : decode cX8_exact 87 = .ok (.ireturn, 1) := by decide +kernel
theorem dX8_bears_0 : decode cX8_bears 0 = .ok (.aload_n 0, 1) := by decide +kernel
theorem dX8_bears_1 : decode cX8_bears 1 = .ok (.iconst 0, 1) := by decide +kernel
theorem dX8_bears_2 : decode cX8_bears 2 = .ok (.putfield 69, 3) := by decide +kernel
theorem dX8_bears_5 : decode cX8_bears 5 = .ok (.aload_n 0, 1) := by decide +kernel
theorem dX8_bears_6 : decode cX8_bears 6 = .ok (.iload_n 1, 1) := by decide +kernel
theorem dX8_bears_7 : decode cX8_bears 7 = .ok (.invokevirtual 196, 3) := by decide +kernel
theorem dX8_bears_10 : decode cX8_bears 10 = .ok (.ifCond .eq 20, 3) := by decide +kernel
theorem dX8_bears_13 : decode cX8_bears 13 = .ok (.aload_n 0, 1) := by decide +kernel
theorem dX8_bears_14 : decode cX8_bears 14 = .ok (.iload_n 1, 1) := by decide +kernel
theorem dX8_bears_15 : decode cX8_bears 15 = .ok (.invokevirtual 134, 3) := by decide +kernel
theorem dX8_bears_18 : decode cX8_bears 18 = .ok (.ifCond .ne 12, 3) := by decide +kernel
theorem dX8_bears_21 : decode cX8_bears 21 = .ok (.iload_n 2, 1) := by decide +kernel
theorem dX8_bears_22 : decode cX8_bears 22 = .ok (.iconst 0, 1) := by decide +kernel
theorem dX8_bears_23 : decode cX8_bears 23 = .ok (.iconst 2, 1) := by decide +kernel
theorem dX8_bears_24 : decode cX8_bears 24 = .ok (.invokestatic 73, 3) := by decide +kernel
theorem dX8_bears_27 : decode cX8_bears 27 = .ok (.ifCond .ne 5, 3) := by decide +kernel
theorem dX8_bears_30 : decode cX8_bears 30 = .ok (.iconst (-1), 1) := by decide +kernel
theorem dX8_bears_31 : decode cX8_bears 31 = .ok (.ireturn, 1) := by decide +kernel
theorem dX8_bears_32 : decode cX8_bears 32 = .ok (.aload_n 0, 1) := by decide +kernel
theorem dX8_bears_33 : decode cX8_bears 33 = .ok (.invokevirtual 202, 3) := by decide +kernel
theorem dX8_bears_36 : decode cX8_bears 36 = .ok (.ifCond .ne 6, 3) := by decide +kernel
theorem dX8_bears_39 : decode cX8_bears 39 = .ok (.bipush (-2), 2) := by decide +kernel
theorem dX8_bears_41 : decode cX8_bears 41 = .ok (.ireturn, 1) := by decide +kernel
theorem dX8_bears_42 : decode cX8_bears 42 = .ok (.iconst 0, 1) := by decide +kernel
theorem dX8_bears_43 : decode cX8_bears 43 = .ok (.istore_n 3, 1) := by decide +kernel
theorem dX8_bears_44 : decode cX8_bears 44 = .ok (.iconst 0, 1) := by decide +kernel
theorem dX8_bears_45 : decode cX8_bears 45 = .ok (.istore 4, 2) := by decide +kernel
theorem dX8_bears_47 : decode cX8_bears 47 = .ok (.iload 4, 2) := by decide +kernel
theorem dX8_bears_49 : decode cX8_bears 49 = .ok (.aload_n 0, 1) := by decide +kernel
theorem dX8_bears_50 : decode cX8_bears 50 = .ok (.getfield 13, 3) := by decide +kernel
theorem dX8_bears_53 : decode cX8_bears 53 = .ok (.iconst 1, 1) := by decide +kernel
theorem dX8_bears_54 : decode cX8_bears 54 = .ok (.iaload, 1) := by decide +kernel
theorem dX8_bears_55 : decode cX8_bears 55 = .ok (.if_icmp .ge 66, 3) := by decide +kernel
theorem dX8_bears_58 : decode cX8_bears 58 = .ok (.aload_n 0, 1) := by decide +kernel
theorem dX8_bears_59 : decode cX8_bears 59 = .ok (.iload 4, 2) := by decide +kernel
theorem dX8_bears_61 : decode cX8_bears 61 = .ok (.invokevirtual 137, 3) := by decide +kernel
theorem dX8_bears_64 : decode cX8_bears 64 = .ok (.ifCond .eq 51, 3) := by decide +kernel
theorem dX8_bears_67 : decode cX8_bears 67 = .ok (.aload_n 0, 1) := by decide +kernel
theorem dX8_bears_68 : decode cX8_bears 68 = .ok (.iload 4, 2) := by decide +kernel
theorem dX8_bears_70 : decode cX8_bears 70 = .ok (.iload_n 1, 1) := by decide +kernel
theorem dX8_bears_71 : decode cX8_bears 71 = .ok (.invokevirtual 184, 3) := by decide +kernel
theorem dX8_bears_74 : decode cX8_bears 74 = .ok (.ifCond .eq 41, 3) := by decide +kernel
theorem dX8_bears_77 : decode cX8_bears 77 = .ok (.iload_n 3, 1) := by decide +kernel
theorem dX8_bears_78 : decode cX8_bears 78 = .ok (.aload_n 0, 1) := by decide +kernel
theorem dX8_bears_79 : decode cX8_bears 79 = .ok (.iload 4, 2) := by decide +kernel
theorem dX8_bears_81 : decode cX8_bears 81 = .ok (.iconst 2, 1) := by decide +kernel
theorem dX8_bears_82 : decode cX8_bears 82 = .ok (.invokevirtual 131, 3) := by decide +kernel
theorem dX8_bears_85 : decode cX8_bears 85 = .ok (.aload_n 0, 1) := by decide +kernel
theorem dX8_bears_86 : decode cX8_bears 86 = .ok (.getfield 43, 3) := by decide +kernel
theorem dX8_bears_89 : decode cX8_bears 89 = .ok (.iconst 3, 1) := by decide +kernel
theorem dX8_bears_90 : decode cX8_bears 90 = .ok (.aload_n 0, 1) := by decide +kernel
theorem dX8_bears_91 : decode cX8_bears 91 = .ok (.iload 4, 2) := by decide +kernel
theorem dX8_bears_93 : decode cX8_bears 93 = .ok (.iload_n 1, 1) := by decide +kernel
theorem dX8_bears_94 : decode cX8_bears 94 = .ok (.invokevirtual 147, 3) := by decide +kernel
theorem dX8_bears_97 : decode cX8_bears 97 = .ok (.imul, 1) := by decide +kernel
theorem dX8_bears_98 : decode cX8_bears 98 = .ok (.iload_n 2, 1) := by decide +kernel
theorem dX8_bears_99 : decode cX8_bears 99 = .ok (.iadd, 1) := by decide +kernel
theorem dX8_bears_100 : decode cX8_bears 100 = .ok (.iaload, 1) := by decide +kernel
theorem dX8_bears_101 : decode cX8_bears 101 = .ok (.aload_n 0, 1) := by decide +kernel
theorem dX8_bears_102 : decode cX8_bears 102 = .ok (.getfield 43, 3) := by decide +kernel
theorem dX8_bears_105 : decode cX8_bears 105 = .ok (.iconst 3, 1) := by decide +kernel
theorem dX8_bears_106 : decode cX8_bears 106 = .ok (.iload_n 1, 1) := by decide +kernel
theorem dX8_bears_107 : decode cX8_bears 107 = .ok (.imul, 1) := by decide +kernel
theorem dX8_bears_108 : decode cX8_bears 108 = .ok (.iload_n 2, 1) := by decide +kernel
theorem dX8_bears_109 : decode cX8_bears 109 = .ok (.iadd, 1) := by decide +kernel
theorem dX8_bears_110 : decode cX8_bears 110 = .ok (.iaload, 1) := by decide +kernel
theorem dX8_bears_111 : decode cX8_bears 111 = .ok (.isub, 1) := by decide +kernel
theorem dX8_bears_112 : decode cX8_bears 112 = .ok (.imul, 1) := by decide +kernel
theorem dX8_bears_113 : decode cX8_bears 113 = .ok (.iadd, 1) := by decide +kernel
theorem dX8_bears_114 : decode cX8_bears 114 = .ok (.istore_n 3, 1) := by decide +kernel
theorem dX8_bears_115 : decode cX8_bears 115 = .ok (.iinc 4 1, 3) := by decide +kernel
theorem dX8_bears_118 : decode cX8_bears 118 = .ok (.goto (-71), 3) := by decide +kernel
theorem dX8_bears_121 : decode cX8_bears 121 = .ok (.iload_n 3, 1) := by decide +kernel
theorem dX8_bears_122 : decode cX8_bears 122 = .ok (.ldc 215, 2) := by decide +kernel
theorem dX8_bears_124 : decode cX8_bears 124 = .ok (.iadd, 1) := by decide +kernel
theorem dX8_bears_125 : decode cX8_bears 125 = .ok (.ireturn, 1) := by decide +kernel
theorem dX8_strand_0 : decode cX8_strand 0 = .ok (.aload_n 0, 1) := by decide +kernel
theorem dX8_strand_1 : decode cX8_strand 1 = .ok (.iconst 0, 1) := by decide +kernel
theorem dX8_strand_2 : decode cX8_strand 2 = .ok (.putfield 69, 3) := by decide +kernel
theorem dX8_strand_5 : decode cX8_strand 5 = .ok (.aload_n 0, 1) := by decide +kernel
theorem dX8_strand_6 : decode cX8_strand 6 = .ok (.iload_n 1, 1) := by decide +kernel
theorem dX8_strand_7 : decode cX8_strand 7 = .ok (.invokevirtual 190, 3) := by decide +kernel
theorem dX8_strand_10 : decode cX8_strand 10 = .ok (.ifCond .eq 13, 3) := by decide +kernel
theorem dX8_strand_13 : decode cX8_strand 13 = .ok (.iload_n 2, 1) := by decide +kernel
theorem dX8_strand_14 : decode cX8_strand 14 = .ok (.iconst 0, 1) := by decide +kernel
theorem dX8_strand_15 : decode cX8_strand 15 = .ok (.bipush 8, 2) := by decide +kernel
theorem dX8_strand_17 : decode cX8_strand 17 = .ok (.invokestatic 73, 3) := by decide +kernel
theorem dX8_strand_20 : decode cX8_strand 20 = .ok (.ifCond .ne 5, 3) := by decide +kernel
theorem dX8_strand_23 : decode cX8_strand 23 = .ok (.iconst (-1), 1) := by decide +kernel
theorem dX8_strand_24 : decode cX8_strand 24 = .ok (.ireturn, 1) := by decide +kernel
theorem dX8_strand_25 : decode cX8_strand 25 = .ok (.iload_n 2, 1) := by decide +kernel
theorem dX8_strand_26 : decode cX8_strand 26 = .ok (.iconst 5, 1) := by decide +kernel
theorem dX8_strand_27 : decode cX8_strand 27 = .ok (.if_icmp .ge 10, 3) := by decide +kernel
theorem dX8_strand_30 : decode cX8_strand 30 = .ok (.aload_n 0, 1) := by decide +kernel
theorem dX8_strand_31 : decode cX8_strand 31 = .ok (.iload_n 1, 1) := by decide +kernel
theorem dX8_strand_32 : decode cX8_strand 32 = .ok (.iload_n 2, 1) := by decide +kernel
theorem dX8_strand_33 : decode cX8_strand 33 = .ok (.invokevirtual 131, 3) := by decide +kernel
theorem dX8_strand_36 : decode cX8_strand 36 = .ok (.ireturn, 1) := by decide +kernel
theorem dX8_strand_37 : decode cX8_strand 37 = .ok (.aload_n 0, 1) := by decide +kernel
theorem dX8_strand_38 : decode cX8_strand 38 = .ok (.invokevirtual 202, 3) := by decide +kernel
theorem dX8_strand_41 : decode cX8_strand 41 = .ok (.ifCond .ne 6, 3) := by decide +kernel
theorem dX8_strand_44 : decode cX8_strand 44 = .ok (.bipush (-2), 2) := by decide +kernel
theorem dX8_strand_46 : decode cX8_strand 46 = .ok (.ireturn, 1) := by decide +kernel
theorem dX8_strand_47 : decode cX8_strand 47 = .ok (.aload_n 0, 1) := by decide +kernel
theorem dX8_strand_48 : decode cX8_strand 48 = .ok (.iload_n 1, 1) := by decide +kernel
theorem dX8_strand_49 : decode cX8_strand 49 = .ok (.invokevirtual 137, 3) := by decide +kernel
theorem dX8_strand_52 : decode cX8_strand 52 = .ok (.ifCond .eq 18, 3) := by decide +kernel
theorem dX8_strand_55 : decode cX8_strand 55 = .ok (.iload_n 2, 1) := by decide +kernel
theorem dX8_strand_56 : decode cX8_strand 56 = .ok (.bipush 7, 2) := by decide +kernel
theorem dX8_strand_58 : decode cX8_strand 58 = .ok (.if_icmp .ne 15, 3) := by decide +kernel
theorem dX8_strand_61 : decode cX8_strand 61 = .ok (.aload_n 0, 1) := by decide +kernel
theorem dX8_strand_62 : decode cX8_strand 62 = .ok (.iload_n 1, 1) := by decide +kernel
theorem dX8_strand_63 : decode cX8_strand 63 = .ok (.iconst 3, 1) := by decide +kernel
theorem dX8_strand_64 : decode cX8_strand 64 = .ok (.invokevirtual 131, 3) := by decide +kernel
theorem dX8_strand_67 : decode cX8_strand 67 = .ok (.ifCond .ne 6, 3) := by decide +kernel
theorem dX8_strand_70 : decode cX8_strand 70 = .ok (.bipush (-4), 2) := by decide +kernel
theorem dX8_strand_72 : decode cX8_strand 72 = .ok (.ireturn, 1) := by decide +kernel
theorem dX8_strand_73 : decode cX8_strand 73 = .ok (.aload_n 0, 1) := by decide +kernel
theorem dX8_strand_74 : decode cX8_strand 74 = .ok (.iload_n 1, 1) := by decide +kernel
theorem dX8_strand_75 : decode cX8_strand 75 = .ok (.invokevirtual 174, 3) := by decide +kernel
theorem dX8_strand_78 : decode cX8_strand 78 = .ok (.istore_n 3, 1) := by decide +kernel
theorem dX8_strand_79 : decode cX8_strand 79 = .ok (.iload_n 2, 1) := by decide +kernel
theorem dX8_strand_80 : decode cX8_strand 80 = .ok (.iconst 5, 1) := by decide +kernel
theorem dX8_strand_81 : decode cX8_strand 81 = .ok (.if_icmp .ne 7, 3) := by decide +kernel
theorem dX8_strand_84 : decode cX8_strand 84 = .ok (.iload_n 3, 1) := by decide +kernel
theorem dX8_strand_85 : decode cX8_strand 85 = .ok (.goto 47, 3) := by decide +kernel
theorem dX8_strand_88 : decode cX8_strand 88 = .ok (.iload_n 2, 1) := by decide +kernel
theorem dX8_strand_89 : decode cX8_strand 89 = .ok (.bipush 6, 2) := by decide +kernel
theorem dX8_strand_91 : decode cX8_strand 91 = .ok (.if_icmp .ne 14, 3) := by decide +kernel
theorem dX8_strand_94 : decode cX8_strand 94 = .ok (.aload_n 0, 1) := by decide +kernel
theorem dX8_strand_95 : decode cX8_strand 95 = .ok (.iload_n 1, 1) := by decide +kernel
theorem dX8_strand_96 : decode cX8_strand 96 = .ok (.iconst 2, 1) := by decide +kernel
theorem dX8_strand_97 : decode cX8_strand 97 = .ok (.invokevirtual 131, 3) := by decide +kernel
theorem dX8_strand_100 : decode cX8_strand 100 = .ok (.iload_n 3, 1) := by decide +kernel
theorem dX8_strand_101 : decode cX8_strand 101 = .ok (.imul, 1) := by decide +kernel
theorem dX8_strand_102 : decode cX8_strand 102 = .ok (.goto 30, 3) := by decide +kernel
theorem dX8_strand_105 : decode cX8_strand 105 = .ok (.iload_n 2, 1) := by decide +kernel
theorem dX8_strand_106 : decode cX8_strand 106 = .ok (.bipush 7, 2) := by decide +kernel
theorem dX8_strand_108 : decode cX8_strand 108 = .ok (.if_icmp .ne 11, 3) := by decide +kernel
theorem dX8_strand_111 : decode cX8_strand 111 = .ok (.aload_n 0, 1) := by decide +kernel
theorem dX8_strand_112 : decode cX8_strand 112 = .ok (.iload_n 1, 1) := by decide +kernel
theorem dX8_strand_113 : decode cX8_strand 113 = .ok (.invokevirtual 181, 3) := by decide +kernel
theorem dX8_strand_116 : decode cX8_strand 116 = .ok (.goto 16, 3) := by decide +kernel
theorem dX8_strand_119 : decode cX8_strand 119 = .ok (.aload_n 0, 1) := by decide +kernel
theorem dX8_strand_120 : decode cX8_strand 120 = .ok (.iload_n 1, 1) := by decide +kernel
theorem dX8_strand_121 : decode cX8_strand 121 = .ok (.invokevirtual 150, 3) := by decide +kernel
theorem dX8_strand_124 : decode cX8_strand 124 = .ok (.ifCond .eq 7, 3) := by decide +kernel
theorem dX8_strand_127 : decode cX8_strand 127 = .ok (.iconst 0, 1) := by decide +kernel
theorem dX8_strand_128 : decode cX8_strand 128 = .ok (.goto 4, 3) := by decide +kernel
theorem dX8_strand_131 : decode cX8_strand 131 = .ok (.iconst 1, 1) := by decide +kernel
theorem dX8_strand_132 : decode cX8_strand 132 = .ok (.ireturn, 1) := by decide +kernel
theorem dX8_slack_0 : decode cX8_slack 0 = .ok (.aload_n 0, 1) := by decide +kernel
theorem dX8_slack_1 : decode cX8_slack 1 = .ok (.iconst 0, 1) := by decide +kernel
theorem dX8_slack_2 : decode cX8_slack 2 = .ok (.putfield 69, 3) := by decide +kernel
theorem dX8_slack_5 : decode cX8_slack 5 = .ok (.aload_n 0, 1) := by decide +kernel
theorem dX8_slack_6 : decode cX8_slack 6 = .ok (.invokevirtual 202, 3) := by decide +kernel
theorem dX8_slack_9 : decode cX8_slack 9 = .ok (.ifCond .ne 6, 3) := by decide +kernel
theorem dX8_slack_12 : decode cX8_slack 12 = .ok (.bipush (-2), 2) := by decide +kernel
theorem dX8_slack_14 : decode cX8_slack 14 = .ok (.ireturn, 1) := by decide +kernel
theorem dX8_slack_15 : decode cX8_slack 15 = .ok (.iconst 0, 1) := by decide +kernel
theorem dX8_slack_16 : decode cX8_slack 16 = .ok (.istore_n 1, 1) := by decide +kernel
theorem dX8_slack_17 : decode cX8_slack 17 = .ok (.iconst 0, 1) := by decide +kernel
theorem dX8_slack_18 : decode cX8_slack 18 = .ok (.istore_n 2, 1) := by decide +kernel
theorem dX8_slack_19 : decode cX8_slack 19 = .ok (.iload_n 2, 1) := by decide +kernel
theorem dX8_slack_20 : decode cX8_slack 20 = .ok (.aload_n 0, 1) := by decide +kernel
theorem dX8_slack_21 : decode cX8_slack 21 = .ok (.getfield 13, 3) := by decide +kernel
theorem dX8_slack_24 : decode cX8_slack 24 = .ok (.iconst 1, 1) := by decide +kernel
theorem dX8_slack_25 : decode cX8_slack 25 = .ok (.iaload, 1) := by decide +kernel
theorem dX8_slack_26 : decode cX8_slack 26 = .ok (.if_icmp .ge 44, 3) := by decide +kernel
theorem dX8_slack_29 : decode cX8_slack 29 = .ok (.iload_n 1, 1) := by decide +kernel
theorem dX8_slack_30 : decode cX8_slack 30 = .ok (.aload_n 0, 1) := by decide +kernel
theorem dX8_slack_31 : decode cX8_slack 31 = .ok (.iload_n 2, 1) := by decide +kernel
theorem dX8_slack_32 : decode cX8_slack 32 = .ok (.invokevirtual 178, 3) := by decide +kernel
theorem dX8_slack_35 : decode cX8_slack 35 = .ok (.ifCond .eq 26, 3) := by decide +kernel
theorem dX8_slack_38 : decode cX8_slack 38 = .ok (.aload_n 0, 1) := by decide +kernel
theorem dX8_slack_39 : decode cX8_slack 39 = .ok (.iload_n 2, 1) := by decide +kernel
theorem dX8_slack_40 : decode cX8_slack 40 = .ok (.invokevirtual 174, 3) := by decide +kernel
theorem dX8_slack_43 : decode cX8_slack 43 = .ok (.bipush 100, 2) := by decide +kernel
theorem dX8_slack_45 : decode cX8_slack 45 = .ok (.aload_n 0, 1) := by decide +kernel
theorem dX8_slack_46 : decode cX8_slack 46 = .ok (.iload_n 2, 1) := by decide +kernel
theorem dX8_slack_47 : decode cX8_slack 47 = .ok (.iconst 3, 1) := by decide +kernel
theorem dX8_slack_48 : decode cX8_slack 48 = .ok (.invokevirtual 131, 3) := by decide +kernel
theorem dX8_slack_51 : decode cX8_slack 51 = .ok (.imul, 1) := by decide +kernel
theorem dX8_slack_52 : decode cX8_slack 52 = .ok (.if_icmp .ge 9, 3) := by decide +kernel
theorem dX8_slack_55 : decode cX8_slack 55 = .ok (.iconst 1, 1) := by decide +kernel
theorem dX8_slack_56 : decode cX8_slack 56 = .ok (.iload_n 2, 1) := by decide +kernel
theorem dX8_slack_57 : decode cX8_slack 57 = .ok (.ishl, 1) := by decide +kernel
theorem dX8_slack_58 : decode cX8_slack 58 = .ok (.goto 4, 3) := by decide +kernel
theorem dX8_slack_61 : decode cX8_slack 61 = .ok (.iconst 0, 1) := by decide +kernel
theorem dX8_slack_62 : decode cX8_slack 62 = .ok (.ior, 1) := by decide +kernel
theorem dX8_slack_63 : decode cX8_slack 63 = .ok (.istore_n 1, 1) := by decide +kernel
theorem dX8_slack_64 : decode cX8_slack 64 = .ok (.iinc 2 1, 3) := by decide +kernel
theorem dX8_slack_67 : decode cX8_slack 67 = .ok (.goto (-48), 3) := by decide +kernel
theorem dX8_slack_70 : decode cX8_slack 70 = .ok (.iload_n 1, 1) := by decide +kernel
theorem dX8_slack_71 : decode cX8_slack 71 = .ok (.ireturn, 1) := by decide +kernel
theorem dX8_miss_0 : decode cX8_miss 0 = .ok (.aload_n 0, 1) := by decide +kernel
theorem dX8_miss_1 : decode cX8_miss 1 = .ok (.iconst 0, 1) := by decide +kernel
theorem dX8_miss_2 : decode cX8_miss 2 = .ok (.putfield 69, 3) := by decide +kernel
theorem dX8_miss_5 : decode cX8_miss 5 = .ok (.aload_n 0, 1) := by decide +kernel
theorem dX8_miss_6 : decode cX8_miss 6 = .ok (.invokevirtual 202, 3) := by decide +kernel
theorem dX8_miss_9 : decode cX8_miss 9 = .ok (.ifCond .eq 10, 3) := by decide +kernel
theorem dX8_miss_12 : decode cX8_miss 12 = .ok (.aload_n 0, 1) := by decide +kernel
theorem dX8_miss_13 : decode cX8_miss 13 = .ok (.invokevirtual 221, 3) := by decide +kernel
theorem dX8_miss_16 : decode cX8_miss 16 = .ok (.goto 5, 3) := by decide +kernel
theorem dX8_miss_19 : decode cX8_miss 19 = .ok (.bipush (-2), 2) := by decide +kernel
theorem dX8_miss_21 : decode cX8_miss 21 = .ok (.ireturn, 1) := by decide +kernel
theorem dX8_settle_0 : decode cX8_settle 0 = .ok (.aload_n 0, 1) := by decide +kernel
theorem dX8_settle_1 : decode cX8_settle 1 = .ok (.iconst 0, 1) := by decide +kernel
theorem dX8_settle_2 : decode cX8_settle 2 = .ok (.putfield 69, 3) := by decide +kernel
theorem dX8_settle_5 : decode cX8_settle 5 = .ok (.iload_n 1, 1) := by decide +kernel
theorem dX8_settle_6 : decode cX8_settle 6 = .ok (.iconst 0, 1) := by decide +kernel
theorem dX8_settle_7 : decode cX8_settle 7 = .ok (.iconst 1, 1) := by decide +kernel
theorem dX8_settle_8 : decode cX8_settle 8 = .ok (.invokestatic 73, 3) := by decide +kernel
theorem dX8_settle_11 : decode cX8_settle 11 = .ok (.ifCond .ne 5, 3) := by decide +kernel
theorem dX8_settle_14 : decode cX8_settle 14 = .ok (.iconst (-1), 1) := by decide +kernel
theorem dX8_settle_15 : decode cX8_settle 15 = .ok (.ireturn, 1) := by decide +kernel
theorem dX8_settle_16 : decode cX8_settle 16 = .ok (.aload_n 0, 1) := by decide +kernel
theorem dX8_settle_17 : decode cX8_settle 17 = .ok (.bipush (-4), 2) := by decide +kernel
theorem dX8_settle_19 : decode cX8_settle 19 = .ok (.invokevirtual 150, 3) := by decide +kernel
theorem dX8_settle_22 : decode cX8_settle 22 = .ok (.ifCond .ne 6, 3) := by decide +kernel
theorem dX8_settle_25 : decode cX8_settle 25 = .ok (.bipush (-2), 2) := by decide +kernel
theorem dX8_settle_27 : decode cX8_settle 27 = .ok (.ireturn, 1) := by decide +kernel
theorem dX8_settle_28 : decode cX8_settle 28 = .ok (.iconst 0, 1) := by decide +kernel
theorem dX8_settle_29 : decode cX8_settle 29 = .ok (.istore_n 2, 1) := by decide +kernel
theorem dX8_settle_30 : decode cX8_settle 30 = .ok (.iload_n 2, 1) := by decide +kernel
theorem dX8_settle_31 : decode cX8_settle 31 = .ok (.bipush 124, 2) := by decide +kernel
theorem dX8_settle_33 : decode cX8_settle 33 = .ok (.if_icmp .ge 21, 3) := by decide +kernel
theorem dX8_settle_36 : decode cX8_settle 36 = .ok (.aload_n 0, 1) := by decide +kernel
theorem dX8_settle_37 : decode cX8_settle 37 = .ok (.getfield 23, 3) := by decide +kernel
theorem dX8_settle_40 : decode cX8_settle 40 = .ok (.iload_n 2, 1) := by decide +kernel
theorem dX8_settle_41 : decode cX8_settle 41 = .ok (.aload_n 0, 1) := by decide +kernel
theorem dX8_settle_42 : decode cX8_settle 42 = .ok (.getfield 13, 3) := by decide +kernel
theorem dX8_settle_45 : decode cX8_settle 45 = .ok (.iload_n 2, 1) := by decide +kernel
theorem dX8_settle_46 : decode cX8_settle 46 = .ok (.iaload, 1) := by decide +kernel
theorem dX8_settle_47 : decode cX8_settle 47 = .ok (.iastore, 1) := by decide +kernel
theorem dX8_settle_48 : decode cX8_settle 48 = .ok (.iinc 2 1, 3) := by decide +kernel
theorem dX8_settle_51 : decode cX8_settle 51 = .ok (.goto (-21), 3) := by decide +kernel
theorem dX8_settle_54 : decode cX8_settle 54 = .ok (.iconst 0, 1) := by decide +kernel
theorem dX8_settle_55 : decode cX8_settle 55 = .ok (.istore_n 2, 1) := by decide +kernel
theorem dX8_settle_56 : decode cX8_settle 56 = .ok (.iload_n 2, 1) := by decide +kernel
theorem dX8_settle_57 : decode cX8_settle 57 = .ok (.bipush 60, 2) := by decide +kernel
theorem dX8_settle_59 : decode cX8_settle 59 = .ok (.if_icmp .gt 16, 3) := by decide +kernel
theorem dX8_settle_62 : decode cX8_settle 62 = .ok (.aload_n 0, 1) := by decide +kernel
theorem dX8_settle_63 : decode cX8_settle 63 = .ok (.invokevirtual 206, 3) := by decide +kernel
theorem dX8_settle_66 : decode cX8_settle 66 = .ok (.ifCond .eq 9, 3) := by decide +kernel
theorem dX8_settle_69 : decode cX8_settle 69 = .ok (.iinc 2 1, 3) := by decide +kernel
theorem dX8_settle_72 : decode cX8_settle 72 = .ok (.goto (-16), 3) := by decide +kernel
theorem dX8_settle_75 : decode cX8_settle 75 = .ok (.aload_n 0, 1) := by decide +kernel
theorem dX8_settle_76 : decode cX8_settle 76 = .ok (.invokevirtual 202, 3) := by decide +kernel
theorem dX8_settle_79 : decode cX8_settle 79 = .ok (.pop, 1) := by decide +kernel
theorem dX8_settle_80 : decode cX8_settle 80 = .ok (.aload_n 0, 1) := by decide +kernel
theorem dX8_settle_81 : decode cX8_settle 81 = .ok (.invokevirtual 221, 3) := by decide +kernel
theorem dX8_settle_84 : decode cX8_settle 84 = .ok (.istore_n 3, 1) := by decide +kernel
theorem dX8_settle_85 : decode cX8_settle 85 = .ok (.iconst 0, 1) := by decide +kernel
theorem dX8_settle_86 : decode cX8_settle 86 = .ok (.istore 4, 2) := by decide +kernel
theorem dX8_settle_88 : decode cX8_settle 88 = .ok (.iload 4, 2) := by decide +kernel
theorem dX8_settle_90 : decode cX8_settle 90 = .ok (.bipush 124, 2) := by decide +kernel
theorem dX8_settle_92 : decode cX8_settle 92 = .ok (.if_icmp .ge 23, 3) := by decide +kernel
theorem dX8_settle_95 : decode cX8_settle 95 = .ok (.aload_n 0, 1) := by decide +kernel
theorem dX8_settle_96 : decode cX8_settle 96 = .ok (.getfield 13, 3) := by decide +kernel
theorem dX8_settle_99 : decode cX8_settle 99 = .ok (.iload 4, 2) := by decide +kernel
theorem dX8_settle_101 : decode cX8_settle 101 = .ok (.aload_n 0, 1) := by decide +kernel
theorem dX8_settle_102 : decode cX8_settle 102 = .ok (.getfield 23, 3) := by decide +kernel
theorem dX8_settle_105 : decode cX8_settle 105 = .ok (.iload 4, 2) := by decide +kernel
theorem dX8_settle_107 : decode cX8_settle 107 = .ok (.iaload, 1) := by decide +kernel
theorem dX8_settle_108 : decode cX8_settle 108 = .ok (.iastore, 1) := by decide +kernel
theorem dX8_settle_109 : decode cX8_settle 109 = .ok (.iinc 4 1, 3) := by decide +kernel
theorem dX8_settle_112 : decode cX8_settle 112 = .ok (.goto (-24), 3) := by decide +kernel
theorem dX8_settle_115 : decode cX8_settle 115 = .ok (.iload_n 2, 1) := by decide +kernel
theorem dX8_settle_116 : decode cX8_settle 116 = .ok (.bipush 60, 2) := by decide +kernel
theorem dX8_settle_118 : decode cX8_settle 118 = .ok (.if_icmp .le 8, 3) := by decide +kernel
theorem dX8_settle_121 : decode cX8_settle 121 = .ok (.bipush (-4), 2) := by decide +kernel
theorem dX8_settle_123 : decode cX8_settle 123 = .ok (.goto 12, 3) := by decide +kernel
theorem dX8_settle_126 : decode cX8_settle 126 = .ok (.iload_n 1, 1) := by decide +kernel
theorem dX8_settle_127 : decode cX8_settle 127 = .ok (.ifCond .ne 7, 3) := by decide +kernel
theorem dX8_settle_130 : decode cX8_settle 130 = .ok (.iload_n 2, 1) := by decide +kernel
theorem dX8_settle_131 : decode cX8_settle 131 = .ok (.goto 4, 3) := by decide +kernel
theorem dX8_settle_134 : decode cX8_settle 134 = .ok (.iload_n 3, 1) := by decide +kernel
theorem dX8_settle_135 : decode cX8_settle 135 = .ok (.ireturn, 1) := by decide +kernel
theorem dX8_better_0 : decode cX8_better 0 = .ok (.aload_n 0, 1) := by decide +kernel
theorem dX8_better_1 : decode cX8_better 1 = .ok (.iconst 0, 1) := by decide +kernel
theorem dX8_better_2 : decode cX8_better 2 = .ok (.putfield 69, 3) := by decide +kernel
theorem dX8_better_5 : decode cX8_better 5 = .ok (.iload_n 1, 1) := by decide +kernel
theorem dX8_better_6 : decode cX8_better 6 = .ok (.iconst 0, 1) := by decide +kernel
theorem dX8_better_7 : decode cX8_better 7 = .ok (.iconst 1, 1) := by decide +kernel
theorem dX8_better_8 : decode cX8_better 8 = .ok (.invokestatic 73, 3) := by decide +kernel
theorem dX8_better_11 : decode cX8_better 11 = .ok (.ifCond .ne 5, 3) := by decide +kernel
theorem dX8_better_14 : decode cX8_better 14 = .ok (.iconst (-1), 1) := by decide +kernel
theorem dX8_better_15 : decode cX8_better 15 = .ok (.ireturn, 1) := by decide +kernel
theorem dX8_better_16 : decode cX8_better 16 = .ok (.aload_n 0, 1) := by decide +kernel
theorem dX8_better_17 : decode cX8_better 17 = .ok (.invokevirtual 202, 3) := by decide +kernel
theorem dX8_better_20 : decode cX8_better 20 = .ok (.ifCond .ne 6, 3) := by decide +kernel
theorem dX8_better_23 : decode cX8_better 23 = .ok (.bipush (-2), 2) := by decide +kernel
theorem dX8_better_25 : decode cX8_better 25 = .ok (.ireturn, 1) := by decide +kernel
theorem dX8_better_26 : decode cX8_better 26 = .ok (.aload_n 0, 1) := by decide +kernel
theorem dX8_better_27 : decode cX8_better 27 = .ok (.invokevirtual 221, 3) := by decide +kernel
theorem dX8_better_30 : decode cX8_better 30 = .ok (.istore_n 2, 1) := by decide +kernel
theorem dX8_better_31 : decode cX8_better 31 = .ok (.bipush (-4), 2) := by decide +kernel
theorem dX8_better_33 : decode cX8_better 33 = .ok (.istore_n 3, 1) := by decide +kernel
theorem dX8_better_34 : decode cX8_better 34 = .ok (.iconst 0, 1) := by decide +kernel
theorem dX8_better_35 : decode cX8_better 35 = .ok (.istore 4, 2) := by decide +kernel
theorem dX8_better_37 : decode cX8_better 37 = .ok (.iload 4, 2) := by decide +kernel
theorem dX8_better_39 : decode cX8_better 39 = .ok (.aload_n 0, 1) := by decide +kernel
theorem dX8_better_40 : decode cX8_better 40 = .ok (.getfield 13, 3) := by decide +kernel
theorem dX8_better_43 : decode cX8_better 43 = .ok (.iconst 1, 1) := by decide +kernel
theorem dX8_better_44 : decode cX8_better 44 = .ok (.iaload, 1) := by decide +kernel
theorem dX8_better_45 : decode cX8_better 45 = .ok (.if_icmp .ge 118, 3) := by decide +kernel
theorem dX8_better_48 : decode cX8_better 48 = .ok (.aload_n 0, 1) := by decide +kernel
theorem dX8_better_49 : decode cX8_better 49 = .ok (.iload 4, 2) := by decide +kernel
theorem dX8_better_51 : decode cX8_better 51 = .ok (.iconst 2, 1) := by decide +kernel
theorem dX8_better_52 : decode cX8_better 52 = .ok (.invokevirtual 131, 3) := by decide +kernel
theorem dX8_better_55 : decode cX8_better 55 = .ok (.istore 5, 2) := by decide +kernel
theorem dX8_better_57 : decode cX8_better 57 = .ok (.iconst 1, 1) := by decide +kernel
theorem dX8_better_58 : decode cX8_better 58 = .ok (.istore 6, 2) := by decide +kernel
theorem dX8_better_60 : decode cX8_better 60 = .ok (.iload 6, 2) := by decide +kernel
theorem dX8_better_62 : decode cX8_better 62 = .ok (.bipush 6, 2) := by decide +kernel
theorem dX8_better_64 : decode cX8_better 64 = .ok (.if_icmp .ge 77, 3) := by decide +kernel
theorem dX8_better_67 : decode cX8_better 67 = .ok (.aload_n 0, 1) := by decide +kernel
theorem dX8_better_68 : decode cX8_better 68 = .ok (.iload 4, 2) := by decide +kernel
theorem dX8_better_70 : decode cX8_better 70 = .ok (.invokevirtual 137, 3) := by decide +kernel
theorem dX8_better_73 : decode cX8_better 73 = .ok (.ifCond .eq 68, 3) := by decide +kernel
theorem dX8_better_76 : decode cX8_better 76 = .ok (.aload_n 0, 1) := by decide +kernel
theorem dX8_better_77 : decode cX8_better 77 = .ok (.getfield 13, 3) := by decide +kernel
theorem dX8_better_80 : decode cX8_better 80 = .ok (.bipush 54, 2) := by decide +kernel
theorem dX8_better_82 : decode cX8_better 82 = .ok (.iconst 5, 1) := by decide +kernel
theorem dX8_better_83 : decode cX8_better 83 = .ok (.iload 4, 2) := by decide +kernel
theorem dX8_better_85 : decode cX8_better 85 = .ok (.imul, 1) := by decide +kernel
theorem dX8_better_86 : decode cX8_better 86 = .ok (.iadd, 1) := by decide +kernel
theorem dX8_better_87 : decode cX8_better 87 = .ok (.iconst 2, 1) := by decide +kernel
theorem dX8_better_88 : decode cX8_better 88 = .ok (.iadd, 1) := by decide +kernel
theorem dX8_better_89 : decode cX8_better 89 = .ok (.iload 6, 2) := by decide +kernel
theorem dX8_better_91 : decode cX8_better 91 = .ok (.iastore, 1) := by decide +kernel
theorem dX8_better_92 : decode cX8_better 92 = .ok (.aload_n 0, 1) := by decide +kernel
theorem dX8_better_93 : decode cX8_better 93 = .ok (.invokevirtual 202, 3) := by decide +kernel
theorem dX8_better_96 : decode cX8_better 96 = .ok (.pop, 1) := by decide +kernel
theorem dX8_better_97 : decode cX8_better 97 = .ok (.aload_n 0, 1) := by decide +kernel
theorem dX8_better_98 : decode cX8_better 98 = .ok (.invokevirtual 221, 3) := by decide +kernel
theorem dX8_better_101 : decode cX8_better 101 = .ok (.istore 7, 2) := by decide +kernel
theorem dX8_better_103 : decode cX8_better 103 = .ok (.iload 7, 2) := by decide +kernel
theorem dX8_better_105 : decode cX8_better 105 = .ok (.iload_n 2, 1) := by decide +kernel
theorem dX8_better_106 : decode cX8_better 106 = .ok (.if_icmp .ge 14, 3) := by decide +kernel
theorem dX8_better_109 : decode cX8_better 109 = .ok (.bipush 10, 2) := by decide +kernel
theorem dX8_better_111 : decode cX8_better 111 = .ok (.iload 4, 2) := by decide +kernel
theorem dX8_better_113 : decode cX8_better 113 = .ok (.imul, 1) := by decide +kernel
theorem dX8_better_114 : decode cX8_better 114 = .ok (.iload 6, 2) := by decide +kernel
theorem dX8_better_116 : decode cX8_better 116 = .ok (.iadd, 1) := by decide +kernel
theorem dX8_better_117 : decode cX8_better 117 = .ok (.goto 4, 3) := by decide +kernel
theorem dX8_better_120 : decode cX8_better 120 = .ok (.iload_n 3, 1) := by decide +kernel
theorem dX8_better_121 : decode cX8_better 121 = .ok (.istore_n 3, 1) := by decide +kernel
theorem dX8_better_122 : decode cX8_better 122 = .ok (.iload 7, 2) := by decide +kernel
theorem dX8_better_124 : decode cX8_better 124 = .ok (.iload_n 2, 1) := by decide +kernel
theorem dX8_better_125 : decode cX8_better 125 = .ok (.if_icmp .ge 8, 3) := by decide +kernel
theorem dX8_better_128 : decode cX8_better 128 = .ok (.iload 7, 2) := by decide +kernel
theorem dX8_better_130 : decode cX8_better 130 = .ok (.goto 4, 3) := by decide +kernel
theorem dX8_better_133 : decode cX8_better 133 = .ok (.iload_n 2, 1) := by decide +kernel
theorem dX8_better_134 : decode cX8_better 134 = .ok (.istore_n 2, 1) := by decide +kernel
theorem dX8_better_135 : decode cX8_better 135 = .ok (.iinc 6 1, 3) := by decide +kernel
theorem dX8_better_138 : decode cX8_better 138 = .ok (.goto (-78), 3) := by decide +kernel
theorem dX8_better_141 : decode cX8_better 141 = .ok (.aload_n 0, 1) := by decide +kernel
theorem dX8_better_142 : decode cX8_better 142 = .ok (.getfield 13, 3) := by decide +kernel
theorem dX8_better_145 : decode cX8_better 145 = .ok (.bipush 54, 2) := by decide +kernel
theorem dX8_better_147 : decode cX8_better 147 = .ok (.iconst 5, 1) := by decide +kernel
theorem dX8_better_148 : decode cX8_better 148 = .ok (.iload 4, 2) := by decide +kernel
theorem dX8_better_150 : decode cX8_better 150 = .ok (.imul, 1) := by decide +kernel
theorem dX8_better_151 : decode cX8_better 151 = .ok (.iadd, 1) := by decide +kernel
theorem dX8_better_152 : decode cX8_better 152 = .ok (.iconst 2, 1) := by decide +kernel
theorem dX8_better_153 : decode cX8_better 153 = .ok (.iadd, 1) := by decide +kernel
theorem dX8_better_154 : decode cX8_better 154 = .ok (.iload 5, 2) := by decide +kernel
theorem dX8_better_156 : decode cX8_better 156 = .ok (.iastore, 1) := by decide +kernel
theorem dX8_better_157 : decode cX8_better 157 = .ok (.iinc 4 1, 3) := by decide +kernel
theorem dX8_better_160 : decode cX8_better 160 = .ok (.goto (-123), 3) := by decide +kernel
theorem dX8_better_163 : decode cX8_better 163 = .ok (.iload_n 3, 1) := by decide +kernel
theorem dX8_better_164 : decode cX8_better 164 = .ok (.bipush (-4), 2) := by decide +kernel
theorem dX8_better_166 : decode cX8_better 166 = .ok (.if_icmp .eq 7, 3) := by decide +kernel
theorem dX8_better_169 : decode cX8_better 169 = .ok (.iload_n 1, 1) := by decide +kernel
theorem dX8_better_170 : decode cX8_better 170 = .ok (.ifCond .ne 7, 3) := by decide +kernel
theorem dX8_better_173 : decode cX8_better 173 = .ok (.iload_n 3, 1) := by decide +kernel
theorem dX8_better_174 : decode cX8_better 174 = .ok (.goto 4, 3) := by decide +kernel
theorem dX8_better_177 : decode cX8_better 177 = .ok (.iload_n 2, 1) := by decide +kernel
theorem dX8_better_178 : decode cX8_better 178 = .ok (.ireturn, 1) := by decide +kernel
theorem dX8_greatest_0 : decode cX8_greatest 0 = .ok (.aload_n 0, 1) := by decide +kernel
theorem dX8_greatest_1 : decode cX8_greatest 1 = .ok (.iconst 0, 1) := by decide +kernel
theorem dX8_greatest_2 : decode cX8_greatest 2 = .ok (.putfield 69, 3) := by decide +kernel
theorem dX8_greatest_5 : decode cX8_greatest 5 = .ok (.iload_n 1, 1) := by decide +kernel
theorem dX8_greatest_6 : decode cX8_greatest 6 = .ok (.iconst 0, 1) := by decide +kernel
theorem dX8_greatest_7 : decode cX8_greatest 7 = .ok (.iconst 1, 1) := by decide +kernel
theorem dX8_greatest_8 : decode cX8_greatest 8 = .ok (.invokestatic 73, 3) := by decide +kernel
theorem dX8_greatest_11 : decode cX8_greatest 11 = .ok (.ifCond .ne 5, 3) := by decide +kernel
theorem dX8_greatest_14 : decode cX8_greatest 14 = .ok (.iconst (-1), 1) := by decide +kernel
theorem dX8_greatest_15 : decode cX8_greatest 15 = .ok (.ireturn, 1) := by decide +kernel
theorem dX8_greatest_16 : decode cX8_greatest 16 = .ok (.aload_n 0, 1) := by decide +kernel
theorem dX8_greatest_17 : decode cX8_greatest 17 = .ok (.invokevirtual 202, 3) := by decide +kernel
theorem dX8_greatest_20 : decode cX8_greatest 20 = .ok (.ifCond .ne 6, 3) := by decide +kernel
theorem dX8_greatest_23 : decode cX8_greatest 23 = .ok (.bipush (-2), 2) := by decide +kernel
theorem dX8_greatest_25 : decode cX8_greatest 25 = .ok (.ireturn, 1) := by decide +kernel
theorem dX8_greatest_26 : decode cX8_greatest 26 = .ok (.bipush (-4), 2) := by decide +kernel
theorem dX8_greatest_28 : decode cX8_greatest 28 = .ok (.istore_n 2, 1) := by decide +kernel
theorem dX8_greatest_29 : decode cX8_greatest 29 = .ok (.iconst (-1), 1) := by decide +kernel
theorem dX8_greatest_30 : decode cX8_greatest 30 = .ok (.istore_n 3, 1) := by decide +kernel
theorem dX8_greatest_31 : decode cX8_greatest 31 = .ok (.iconst 0, 1) := by decide +kernel
theorem dX8_greatest_32 : decode cX8_greatest 32 = .ok (.istore 4, 2) := by decide +kernel
theorem dX8_greatest_34 : decode cX8_greatest 34 = .ok (.iload 4, 2) := by decide +kernel
theorem dX8_greatest_36 : decode cX8_greatest 36 = .ok (.aload_n 0, 1) := by decide +kernel
theorem dX8_greatest_37 : decode cX8_greatest 37 = .ok (.getfield 13, 3) := by decide +kernel
theorem dX8_greatest_40 : decode cX8_greatest 40 = .ok (.iconst 1, 1) := by decide +kernel
theorem dX8_greatest_41 : decode cX8_greatest 41 = .ok (.iaload, 1) := by decide +kernel
theorem dX8_greatest_42 : decode cX8_greatest 42 = .ok (.if_icmp .ge 72, 3) := by decide +kernel
theorem dX8_greatest_45 : decode cX8_greatest 45 = .ok (.aload_n 0, 1) := by decide +kernel
theorem dX8_greatest_46 : decode cX8_greatest 46 = .ok (.iload 4, 2) := by decide +kernel
theorem dX8_greatest_48 : decode cX8_greatest 48 = .ok (.invokevirtual 137, 3) := by decide +kernel
theorem dX8_greatest_51 : decode cX8_greatest 51 = .ok (.ifCond .eq 28, 3) := by decide +kernel
theorem dX8_greatest_54 : decode cX8_greatest 54 = .ok (.iload_n 1, 1) := by decide +kernel
theorem dX8_greatest_55 : decode cX8_greatest 55 = .ok (.ifCond .ne 7, 3) := by decide +kernel
theorem dX8_greatest_58 : decode cX8_greatest 58 = .ok (.iconst 1, 1) := by decide +kernel
theorem dX8_greatest_59 : decode cX8_greatest 59 = .ok (.goto 10, 3) := by decide +kernel
theorem dX8_greatest_62 : decode cX8_greatest 62 = .ok (.aload_n 0, 1) := by decide +kernel
theorem dX8_greatest_63 : decode cX8_greatest 63 = .ok (.iload 4, 2) := by decide +kernel
theorem dX8_greatest_65 : decode cX8_greatest 65 = .ok (.iconst 2, 1) := by decide +kernel
theorem dX8_greatest_66 : decode cX8_greatest 66 = .ok (.invokevirtual 131, 3) := by decide +kernel
theorem dX8_greatest_69 : decode cX8_greatest 69 = .ok (.aload_n 0, 1) := by decide +kernel
theorem dX8_greatest_70 : decode cX8_greatest 70 = .ok (.iload 4, 2) := by decide +kernel
theorem dX8_greatest_72 : decode cX8_greatest 72 = .ok (.invokevirtual 174, 3) := by decide +kernel
theorem dX8_greatest_75 : decode cX8_greatest 75 = .ok (.imul, 1) := by decide +kernel
theorem dX8_greatest_76 : decode cX8_greatest 76 = .ok (.goto 4, 3) := by decide +kernel
theorem dX8_greatest_79 : decode cX8_greatest 79 = .ok (.iconst (-1), 1) := by decide +kernel
theorem dX8_greatest_80 : decode cX8_greatest 80 = .ok (.istore 5, 2) := by decide +kernel
theorem dX8_greatest_82 : decode cX8_greatest 82 = .ok (.iload 5, 2) := by decide +kernel
theorem dX8_greatest_84 : decode cX8_greatest 84 = .ok (.iload_n 3, 1) := by decide +kernel
theorem dX8_greatest_85 : decode cX8_greatest 85 = .ok (.if_icmp .le 8, 3) := by decide +kernel
theorem dX8_greatest_88 : decode cX8_greatest 88 = .ok (.iload 4, 2) := by decide +kernel
theorem dX8_greatest_90 : decode cX8_greatest 90 = .ok (.goto 4, 3) := by decide +kernel
theorem dX8_greatest_93 : decode cX8_greatest 93 = .ok (.iload_n 2, 1) := by decide +kernel
theorem dX8_greatest_94 : decode cX8_greatest 94 = .ok (.istore_n 2, 1) := by decide +kernel
theorem dX8_greatest_95 : decode cX8_greatest 95 = .ok (.iload 5, 2) := by decide +kernel
theorem dX8_greatest_97 : decode cX8_greatest 97 = .ok (.iload_n 3, 1) := by decide +kernel
theorem dX8_greatest_98 : decode cX8_greatest 98 = .ok (.if_icmp .le 8, 3) := by decide +kernel
theorem dX8_greatest_101 : decode cX8_greatest 101 = .ok (.iload 5, 2) := by decide +kernel
theorem dX8_greatest_103 : decode cX8_greatest 103 = .ok (.goto 4, 3) := by decide +kernel
theorem dX8_greatest_106 : decode cX8_greatest 106 = .ok (.iload_n 3, 1) := by decide +kernel
theorem dX8_greatest_107 : decode cX8_greatest 107 = .ok (.istore_n 3, 1) := by decide +kernel
theorem dX8_greatest_108 : decode cX8_greatest 108 = .ok (.iinc 4 1, 3) := by decide +kernel
theorem dX8_greatest_111 : decode cX8_greatest 111 = .ok (.goto (-77), 3) := by decide +kernel
theorem dX8_greatest_114 : decode cX8_greatest 114 = .ok (.iload_n 2, 1) := by decide +kernel
theorem dX8_greatest_115 : decode cX8_greatest 115 = .ok (.ireturn, 1) := by decide +kernel
theorem dX8_laysPieces_0 : decode cX8_laysPieces 0 = .ok (.iconst 1, 1) := by decide +kernel
theorem dX8_laysPieces_1 : decode cX8_laysPieces 1 = .ok (.istore_n 1, 1) := by decide +kernel
theorem dX8_laysPieces_2 : decode cX8_laysPieces 2 = .ok (.iconst 0, 1) := by decide +kernel
theorem dX8_laysPieces_3 : decode cX8_laysPieces 3 = .ok (.istore_n 2, 1) := by decide +kernel
theorem dX8_laysPieces_4 : decode cX8_laysPieces 4 = .ok (.iload_n 2, 1) := by decide +kernel
theorem dX8_laysPieces_5 : decode cX8_laysPieces 5 = .ok (.aload_n 0, 1) := by decide +kernel
theorem dX8_laysPieces_6 : decode cX8_laysPieces 6 = .ok (.getfield 13, 3) := by decide +kernel
theorem dX8_laysPieces_9 : decode cX8_laysPieces 9 = .ok (.iconst 1, 1) := by decide +kernel
theorem dX8_laysPieces_10 : decode cX8_laysPieces 10 = .ok (.iaload, 1) := by decide +kernel
theorem dX8_laysPieces_11 : decode cX8_laysPieces 11 = .ok (.if_icmp .ge 68, 3) := by decide +kernel
theorem dX8_laysPieces_14 : decode cX8_laysPieces 14 = .ok (.aload_n 0, 1) := by decide +kernel
theorem dX8_laysPieces_15 : decode cX8_laysPieces 15 = .ok (.getfield 46, 3) := by decide +kernel
theorem dX8_laysPieces_18 : decode cX8_laysPieces 18 = .ok (.iload_n 2, 1) := by decide +kernel
theorem dX8_laysPieces_19 : decode cX8_laysPieces 19 = .ok (.aload_n 0, 1) := by decide +kernel
theorem dX8_laysPieces_20 : decode cX8_laysPieces 20 = .ok (.iload_n 2, 1) := by decide +kernel
theorem dX8_laysPieces_21 : decode cX8_laysPieces 21 = .ok (.invokevirtual 137, 3) := by decide +kernel
theorem dX8_laysPieces_24 : decode cX8_laysPieces 24 = .ok (.ifCond .eq 18, 3) := by decide +kernel
theorem dX8_laysPieces_27 : decode cX8_laysPieces 27 = .ok (.aload_n 0, 1) := by decide +kernel
theorem dX8_laysPieces_28 : decode cX8_laysPieces 28 = .ok (.iload_n 2, 1) := by decide +kernel
theorem dX8_laysPieces_29 : decode cX8_laysPieces 29 = .ok (.invokevirtual 174, 3) := by decide +kernel
theorem dX8_laysPieces_32 : decode cX8_laysPieces 32 = .ok (.aload_n 0, 1) := by decide +kernel
theorem dX8_laysPieces_33 : decode cX8_laysPieces 33 = .ok (.getfield 13, 3) := by decide +kernel
theorem dX8_laysPieces_36 : decode cX8_laysPieces 36 = .ok (.iconst 3, 1) := by decide +kernel
theorem dX8_laysPieces_37 : decode cX8_laysPieces 37 = .ok (.iaload, 1) := by decide +kernel
theorem dX8_laysPieces_38 : decode cX8_laysPieces 38 = .ok (.iadd, 1) := by decide +kernel
theorem dX8_laysPieces_39 : decode cX8_laysPieces 39 = .ok (.goto 5, 3) := by decide +kernel
theorem dX8_laysPieces_42 : decode cX8_laysPieces 42 = .ok (.bipush (-4), 2) := by decide +kernel
theorem dX8_laysPieces_44 : decode cX8_laysPieces 44 = .ok (.iastore, 1) := by decide +kernel
theorem dX8_laysPieces_45 : decode cX8_laysPieces 45 = .ok (.iload_n 1, 1) := by decide +kernel
theorem dX8_laysPieces_46 : decode cX8_laysPieces 46 = .ok (.ifCond .eq 25, 3) := by decide +kernel
theorem dX8_laysPieces_49 : decode cX8_laysPieces 49 = .ok (.aload_n 0, 1) := by decide +kernel
theorem dX8_laysPieces_50 : decode cX8_laysPieces 50 = .ok (.getfield 46, 3) := by decide +kernel
theorem dX8_laysPieces_53 : decode cX8_laysPieces 53 = .ok (.iload_n 2, 1) := by decide +kernel
theorem dX8_laysPieces_54 : decode cX8_laysPieces 54 = .ok (.iaload, 1) := by decide +kernel
theorem dX8_laysPieces_55 : decode cX8_laysPieces 55 = .ok (.bipush 100, 2) := by decide +kernel
theorem dX8_laysPieces_57 : decode cX8_laysPieces 57 = .ok (.aload_n 0, 1) := by decide +kernel
theorem dX8_laysPieces_58 : decode cX8_laysPieces 58 = .ok (.getfield 13, 3) := by decide +kernel
theorem dX8_laysPieces_61 : decode cX8_laysPieces 61 = .ok (.iconst 2, 1) := by decide +kernel
theorem dX8_laysPieces_62 : decode cX8_laysPieces 62 = .ok (.iaload, 1) := by decide +kernel
theorem dX8_laysPieces_63 : decode cX8_laysPieces 63 = .ok (.imul, 1) := by decide +kernel
theorem dX8_laysPieces_64 : decode cX8_laysPieces 64 = .ok (.if_icmp .gt 7, 3) := by decide +kernel
theorem dX8_laysPieces_67 : decode cX8_laysPieces 67 = .ok (.iconst 1, 1) := by decide +kernel
theorem dX8_laysPieces_68 : decode cX8_laysPieces 68 = .ok (.goto 4, 3) := by decide +kernel
theorem dX8_laysPieces_71 : decode cX8_laysPieces 71 = .ok (.iconst 0, 1) := by decide +kernel
theorem dX8_laysPieces_72 : decode cX8_laysPieces 72 = .ok (.istore_n 1, 1) := by decide +kernel
theorem dX8_laysPieces_73 : decode cX8_laysPieces 73 = .ok (.iinc 2 1, 3) := by decide +kernel
theorem dX8_laysPieces_76 : decode cX8_laysPieces 76 = .ok (.goto (-72), 3) := by decide +kernel
theorem dX8_laysPieces_79 : decode cX8_laysPieces 79 = .ok (.iload_n 1, 1) := by decide +kernel
theorem dX8_laysPieces_80 : decode cX8_laysPieces 80 = .ok (.ireturn, 1) := by decide +kernel
theorem dX8_longest_0 : decode cX8_longest 0 = .ok (.bipush (-4), 2) := by decide +kernel
theorem dX8_longest_2 : decode cX8_longest 2 = .ok (.istore_n 1, 1) := by decide +kernel
theorem dX8_longest_3 : decode cX8_longest 3 = .ok (.iconst 0, 1) := by decide +kernel
theorem dX8_longest_4 : decode cX8_longest 4 = .ok (.istore_n 2, 1) := by decide +kernel
theorem dX8_longest_5 : decode cX8_longest 5 = .ok (.iload_n 2, 1) := by decide +kernel
theorem dX8_longest_6 : decode cX8_longest 6 = .ok (.aload_n 0, 1) := by decide +kernel
theorem dX8_longest_7 : decode cX8_longest 7 = .ok (.getfield 13, 3) := by decide +kernel
theorem dX8_longest_10 : decode cX8_longest 10 = .ok (.iconst 1, 1) := by decide +kernel
theorem dX8_longest_11 : decode cX8_longest 11 = .ok (.iaload, 1) := by decide +kernel
theorem dX8_longest_12 : decode cX8_longest 12 = .ok (.if_icmp .ge 66, 3) := by decide +kernel
theorem dX8_longest_15 : decode cX8_longest 15 = .ok (.aload_n 0, 1) := by decide +kernel
theorem dX8_longest_16 : decode cX8_longest 16 = .ok (.getfield 46, 3) := by decide +kernel
theorem dX8_longest_19 : decode cX8_longest 19 = .ok (.iload_n 2, 1) := by decide +kernel
theorem dX8_longest_20 : decode cX8_longest 20 = .ok (.iaload, 1) := by decide +kernel
theorem dX8_longest_21 : decode cX8_longest 21 = .ok (.ifCond .lt 18, 3) := by decide +kernel
theorem dX8_longest_24 : decode cX8_longest 24 = .ok (.aload_n 0, 1) := by decide +kernel
theorem dX8_longest_25 : decode cX8_longest 25 = .ok (.getfield 49, 3) := by decide +kernel
theorem dX8_longest_28 : decode cX8_longest 28 = .ok (.iload_n 2, 1) := by decide +kernel
theorem dX8_longest_29 : decode cX8_longest 29 = .ok (.iaload, 1) := by decide +kernel
theorem dX8_longest_30 : decode cX8_longest 30 = .ok (.bipush (-4), 2) := by decide +kernel
theorem dX8_longest_32 : decode cX8_longest 32 = .ok (.if_icmp .ne 7, 3) := by decide +kernel
theorem dX8_longest_35 : decode cX8_longest 35 = .ok (.iconst 1, 1) := by decide +kernel
theorem dX8_longest_36 : decode cX8_longest 36 = .ok (.goto 4, 3) := by decide +kernel
theorem dX8_longest_39 : decode cX8_longest 39 = .ok (.iconst 0, 1) := by decide +kernel
theorem dX8_longest_40 : decode cX8_longest 40 = .ok (.istore_n 3, 1) := by decide +kernel
theorem dX8_longest_41 : decode cX8_longest 41 = .ok (.iload_n 3, 1) := by decide +kernel
theorem dX8_longest_42 : decode cX8_longest 42 = .ok (.ifCond .eq 28, 3) := by decide +kernel
theorem dX8_longest_45 : decode cX8_longest 45 = .ok (.iload_n 1, 1) := by decide +kernel
theorem dX8_longest_46 : decode cX8_longest 46 = .ok (.bipush (-4), 2) := by decide +kernel
theorem dX8_longest_48 : decode cX8_longest 48 = .ok (.if_icmp .eq 18, 3) := by decide +kernel
theorem dX8_longest_51 : decode cX8_longest 51 = .ok (.aload_n 0, 1) := by decide +kernel
theorem dX8_longest_52 : decode cX8_longest 52 = .ok (.getfield 46, 3) := by decide +kernel
theorem dX8_longest_55 : decode cX8_longest 55 = .ok (.iload_n 2, 1) := by decide +kernel
theorem dX8_longest_56 : decode cX8_longest 56 = .ok (.iaload, 1) := by decide +kernel
theorem dX8_longest_57 : decode cX8_longest 57 = .ok (.aload_n 0, 1) := by decide +kernel
theorem dX8_longest_58 : decode cX8_longest 58 = .ok (.getfield 46, 3) := by decide +kernel
theorem dX8_longest_61 : decode cX8_longest 61 = .ok (.iload_n 1, 1) := by decide +kernel
theorem dX8_longest_62 : decode cX8_longest 62 = .ok (.iaload, 1) := by decide +kernel
theorem dX8_longest_63 : decode cX8_longest 63 = .ok (.if_icmp .le 7, 3) := by decide +kernel
theorem dX8_longest_66 : decode cX8_longest 66 = .ok (.iload_n 2, 1) := by decide +kernel
theorem dX8_longest_67 : decode cX8_longest 67 = .ok (.goto 4, 3) := by decide +kernel
theorem dX8_longest_70 : decode cX8_longest 70 = .ok (.iload_n 1, 1) := by decide +kernel
theorem dX8_longest_71 : decode cX8_longest 71 = .ok (.istore_n 1, 1) := by decide +kernel
theorem dX8_longest_72 : decode cX8_longest 72 = .ok (.iinc 2 1, 3) := by decide +kernel
theorem dX8_longest_75 : decode cX8_longest 75 = .ok (.goto (-70), 3) := by decide +kernel
theorem dX8_longest_78 : decode cX8_longest 78 = .ok (.iload_n 1, 1) := by decide +kernel
theorem dX8_longest_79 : decode cX8_longest 79 = .ok (.ireturn, 1) := by decide +kernel
theorem dX8_firstFit_0 : decode cX8_firstFit 0 = .ok (.aload_n 0, 1) := by decide +kernel
theorem dX8_firstFit_1 : decode cX8_firstFit 1 = .ok (.iconst 0, 1) := by decide +kernel
theorem dX8_firstFit_2 : decode cX8_firstFit 2 = .ok (.putfield 224, 3) := by decide +kernel
theorem dX8_firstFit_5 : decode cX8_firstFit 5 = .ok (.iconst 0, 1) := by decide +kernel
theorem dX8_firstFit_6 : decode cX8_firstFit 6 = .ok (.istore_n 1, 1) := by decide +kernel
theorem dX8_firstFit_7 : decode cX8_firstFit 7 = .ok (.iload_n 1, 1) := by decide +kernel
theorem dX8_firstFit_8 : decode cX8_firstFit 8 = .ok (.bipush 14, 2) := by decide +kernel
theorem dX8_firstFit_10 : decode cX8_firstFit 10 = .ok (.if_icmp .ge 32, 3) := by decide +kernel
theorem dX8_firstFit_13 : decode cX8_firstFit 13 = .ok (.aload_n 0, 1) := by decide +kernel
theorem dX8_firstFit_14 : decode cX8_firstFit 14 = .ok (.getfield 49, 3) := by decide +kernel
theorem dX8_firstFit_17 : decode cX8_firstFit 17 = .ok (.iload_n 1, 1) := by decide +kernel
theorem dX8_firstFit_18 : decode cX8_firstFit 18 = .ok (.bipush (-4), 2) := by decide +kernel
theorem dX8_firstFit_20 : decode cX8_firstFit 20 = .ok (.iastore, 1) := by decide +kernel
theorem dX8_firstFit_21 : decode cX8_firstFit 21 = .ok (.aload_n 0, 1) := by decide +kernel
theorem dX8_firstFit_22 : decode cX8_firstFit 22 = .ok (.getfield 52, 3) := by decide +kernel
theorem dX8_firstFit_25 : decode cX8_firstFit 25 = .ok (.iload_n 1, 1) := by decide +kernel
theorem dX8_firstFit_26 : decode cX8_firstFit 26 = .ok (.bipush 100, 2) := by decide +kernel
theorem dX8_firstFit_28 : decode cX8_firstFit 28 = .ok (.aload_n 0, 1) := by decide +kernel
theorem dX8_firstFit_29 : decode cX8_firstFit 29 = .ok (.getfield 13, 3) := by decide +kernel
theorem dX8_firstFit_32 : decode cX8_firstFit 32 = .ok (.iconst 2, 1) := by decide +kernel
theorem dX8_firstFit_33 : decode cX8_firstFit 33 = .ok (.iaload, 1) := by decide +kernel
theorem dX8_firstFit_34 : decode cX8_firstFit 34 = .ok (.imul, 1) := by decide +kernel
theorem dX8_firstFit_35 : decode cX8_firstFit 35 = .ok (.iastore, 1) := by decide +kernel
theorem dX8_firstFit_36 : decode cX8_firstFit 36 = .ok (.iinc 1 1, 3) := by decide +kernel
theorem dX8_firstFit_39 : decode cX8_firstFit 39 = .ok (.goto (-32), 3) := by decide +kernel
theorem dX8_firstFit_42 : decode cX8_firstFit 42 = .ok (.aload_n 0, 1) := by decide +kernel
theorem dX8_firstFit_43 : decode cX8_firstFit 43 = .ok (.invokevirtual 227, 3) := by decide +kernel
theorem dX8_firstFit_46 : decode cX8_firstFit 46 = .ok (.istore_n 1, 1) := by decide +kernel
theorem dX8_firstFit_47 : decode cX8_firstFit 47 = .ok (.iload_n 1, 1) := by decide +kernel
theorem dX8_firstFit_48 : decode cX8_firstFit 48 = .ok (.bipush (-4), 2) := by decide +kernel
theorem dX8_firstFit_50 : decode cX8_firstFit 50 = .ok (.if_icmp .eq 80, 3) := by decide +kernel
theorem dX8_firstFit_53 : decode cX8_firstFit 53 = .ok (.iconst 0, 1) := by decide +kernel
theorem dX8_firstFit_54 : decode cX8_firstFit 54 = .ok (.istore_n 2, 1) := by decide +kernel
theorem dX8_firstFit_55 : decode cX8_firstFit 55 = .ok (.aload_n 0, 1) := by decide +kernel
theorem dX8_firstFit_56 : decode cX8_firstFit 56 = .ok (.getfield 52, 3) := by decide +kernel
theorem dX8_firstFit_59 : decode cX8_firstFit 59 = .ok (.iload_n 2, 1) := by decide +kernel
theorem dX8_firstFit_60 : decode cX8_firstFit 60 = .ok (.iaload, 1) := by decide +kernel
theorem dX8_firstFit_61 : decode cX8_firstFit 61 = .ok (.aload_n 0, 1) := by decide +kernel
theorem dX8_firstFit_62 : decode cX8_firstFit 62 = .ok (.getfield 46, 3) := by decide +kernel
theorem dX8_firstFit_65 : decode cX8_firstFit 65 = .ok (.iload_n 1, 1) := by decide +kernel
theorem dX8_firstFit_66 : decode cX8_firstFit 66 = .ok (.iaload, 1) := by decide +kernel
theorem dX8_firstFit_67 : decode cX8_firstFit 67 = .ok (.if_icmp .ge 9, 3) := by decide +kernel
theorem dX8_firstFit_70 : decode cX8_firstFit 70 = .ok (.iinc 2 1, 3) := by decide +kernel
theorem dX8_firstFit_73 : decode cX8_firstFit 73 = .ok (.goto (-18), 3) := by decide +kernel
theorem dX8_firstFit_76 : decode cX8_firstFit 76 = .ok (.aload_n 0, 1) := by decide +kernel
theorem dX8_firstFit_77 : decode cX8_firstFit 77 = .ok (.getfield 52, 3) := by decide +kernel
theorem dX8_firstFit_80 : decode cX8_firstFit 80 = .ok (.iload_n 2, 1) := by decide +kernel
theorem dX8_firstFit_81 : decode cX8_firstFit 81 = .ok (.dup2, 1) := by decide +kernel
theorem dX8_firstFit_82 : decode cX8_firstFit 82 = .ok (.iaload, 1) := by decide +kernel
theorem dX8_firstFit_83 : decode cX8_firstFit 83 = .ok (.aload_n 0, 1) := by decide +kernel
theorem dX8_firstFit_84 : decode cX8_firstFit 84 = .ok (.getfield 46, 3) := by decide +kernel
theorem dX8_firstFit_87 : decode cX8_firstFit 87 = .ok (.iload_n 1, 1) := by decide +kernel
theorem dX8_firstFit_88 : decode cX8_firstFit 88 = .ok (.iaload, 1) := by decide +kernel
theorem dX8_firstFit_89 : decode cX8_firstFit 89 = .ok (.isub, 1) := by decide +kernel
theorem dX8_firstFit_90 : decode cX8_firstFit 90 = .ok (.iastore, 1) := by decide +kernel
theorem dX8_firstFit_91 : decode cX8_firstFit 91 = .ok (.aload_n 0, 1) := by decide +kernel
theorem dX8_firstFit_92 : decode cX8_firstFit 92 = .ok (.getfield 49, 3) := by decide +kernel
theorem dX8_firstFit_95 : decode cX8_firstFit 95 = .ok (.iload_n 1, 1) := by decide +kernel
theorem dX8_firstFit_96 : decode cX8_firstFit 96 = .ok (.iload_n 2, 1) := by decide +kernel
theorem dX8_firstFit_97 : decode cX8_firstFit 97 = .ok (.iastore, 1) := by decide +kernel
theorem dX8_firstFit_98 : decode cX8_firstFit 98 = .ok (.aload_n 0, 1) := by decide +kernel
theorem dX8_firstFit_99 : decode cX8_firstFit 99 = .ok (.iload_n 2, 1) := by decide +kernel
theorem dX8_firstFit_100 : decode cX8_firstFit 100 = .ok (.iconst 1, 1) := by decide +kernel
theorem dX8_firstFit_101 : decode cX8_firstFit 101 = .ok (.iadd, 1) := by decide +kernel
theorem dX8_firstFit_102 : decode cX8_firstFit 102 = .ok (.aload_n 0, 1) := by decide +kernel
theorem dX8_firstFit_103 : decode cX8_firstFit 103 = .ok (.getfield 224, 3) := by decide +kernel
theorem dX8_firstFit_106 : decode cX8_firstFit 106 = .ok (.if_icmp .le 9, 3) := by decide +kernel
theorem dX8_firstFit_109 : decode cX8_firstFit 109 = .ok (.iload_n 2, 1) := by decide +kernel
theorem dX8_firstFit_110 : decode cX8_firstFit 110 = .ok (.iconst 1, 1) := by decide +kernel
theorem dX8_firstFit_111 : decode cX8_firstFit 111 = .ok (.iadd, 1) := by decide +kernel
theorem dX8_firstFit_112 : decode cX8_firstFit 112 = .ok (.goto 7, 3) := by decide +kernel
theorem dX8_firstFit_115 : decode cX8_firstFit 115 = .ok (.aload_n 0, 1) := by decide +kernel
theorem dX8_firstFit_116 : decode cX8_firstFit 116 = .ok (.getfield 224, 3) := by decide +kernel
theorem dX8_firstFit_119 : decode cX8_firstFit 119 = .ok (.putfield 224, 3) := by decide +kernel
theorem dX8_firstFit_122 : decode cX8_firstFit 122 = .ok (.aload_n 0, 1) := by decide +kernel
theorem dX8_firstFit_123 : decode cX8_firstFit 123 = .ok (.invokevirtual 227, 3) := by decide +kernel
theorem dX8_firstFit_126 : decode cX8_firstFit 126 = .ok (.istore_n 1, 1) := by decide +kernel
theorem dX8_firstFit_127 : decode cX8_firstFit 127 = .ok (.goto (-80), 3) := by decide +kernel
theorem dX8_firstFit_130 : decode cX8_firstFit 130 = .ok (.return_, 1) := by decide +kernel
theorem dX8_fewestRolls_0 : decode cX8_fewestRolls 0 = .ok (.iconst 0, 1) := by decide +kernel
theorem dX8_fewestRolls_1 : decode cX8_fewestRolls 1 = .ok (.istore_n 1, 1) := by decide +kernel
theorem dX8_fewestRolls_2 : decode cX8_fewestRolls 2 = .ok (.iconst 0, 1) := by decide +kernel
theorem dX8_fewestRolls_3 : decode cX8_fewestRolls 3 = .ok (.istore_n 2, 1) := by decide +kernel
theorem dX8_fewestRolls_4 : decode cX8_fewestRolls 4 = .ok (.iload_n 2, 1) := by decide +kernel
theorem dX8_fewestRolls_5 : decode cX8_fewestRolls 5 = .ok (.aload_n 0, 1) := by decide +kernel
theorem dX8_fewestRolls_6 : decode cX8_fewestRolls 6 = .ok (.getfield 13, 3) := by decide +kernel
theorem dX8_fewestRolls_9 : decode cX8_fewestRolls 9 = .ok (.iconst 1, 1) := by decide +kernel
theorem dX8_fewestRolls_10 : decode cX8_fewestRolls 10 = .ok (.iaload, 1) := by decide +kernel
theorem dX8_fewestRolls_11 : decode cX8_fewestRolls 11 = .ok (.if_icmp .ge 28, 3) := by decide +kernel
theorem dX8_fewestRolls_14 : decode cX8_fewestRolls 14 = .ok (.iload_n 1, 1) := by decide +kernel
theorem dX8_fewestRolls_15 : decode cX8_fewestRolls 15 = .ok (.aload_n 0, 1) := by decide +kernel
theorem dX8_fewestRolls_16 : decode cX8_fewestRolls 16 = .ok (.getfield 46, 3) := by decide +kernel
theorem dX8_fewestRolls_19 : decode cX8_fewestRolls 19 = .ok (.iload_n 2, 1) := by decide +kernel
theorem dX8_fewestRolls_20 : decode cX8_fewestRolls 20 = .ok (.iaload, 1) := by decide +kernel
theorem dX8_fewestRolls_21 : decode cX8_fewestRolls 21 = .ok (.ifCond .lt 9, 3) := by decide +kernel
theorem dX8_fewestRolls_24 : decode cX8_fewestRolls 24 = .ok (.iconst 1, 1) := by decide +kernel
theorem dX8_fewestRolls_25 : decode cX8_fewestRolls 25 = .ok (.iload_n 2, 1) := by decide +kernel
theorem dX8_fewestRolls_26 : decode cX8_fewestRolls 26 = .ok (.ishl, 1) := by decide +kernel
theorem dX8_fewestRolls_27 : decode cX8_fewestRolls 27 = .ok (.goto 4, 3) := by decide +kernel
theorem dX8_fewestRolls_30 : decode cX8_fewestRolls 30 = .ok (.iconst 0, 1) := by decide +kernel
theorem dX8_fewestRolls_31 : decode cX8_fewestRolls 31 = .ok (.ior, 1) := by decide +kernel
theorem dX8_fewestRolls_32 : decode cX8_fewestRolls 32 = .ok (.istore_n 1, 1) := by decide +kernel
theorem dX8_fewestRolls_33 : decode cX8_fewestRolls 33 = .ok (.iinc 2 1, 3) := by decide +kernel
theorem dX8_fewestRolls_36 : decode cX8_fewestRolls 36 = .ok (.goto (-32), 3) := by decide +kernel
theorem dX8_fewestRolls_39 : decode cX8_fewestRolls 39 = .ok (.aload_n 0, 1) := by decide +kernel
theorem dX8_fewestRolls_40 : decode cX8_fewestRolls 40 = .ok (.getfield 55, 3) := by decide +kernel
theorem dX8_fewestRolls_43 : decode cX8_fewestRolls 43 = .ok (.iconst 0, 1) := by decide +kernel
theorem dX8_fewestRolls_44 : decode cX8_fewestRolls 44 = .ok (.iconst 0, 1) := by decide +kernel
theorem dX8_fewestRolls_45 : decode cX8_fewestRolls 45 = .ok (.iastore, 1) := by decide +kernel
theorem dX8_fewestRolls_46 : decode cX8_fewestRolls 46 = .ok (.aload_n 0, 1) := by decide +kernel
theorem dX8_fewestRolls_47 : decode cX8_fewestRolls 47 = .ok (.getfield 58, 3) := by decide +kernel
theorem dX8_fewestRolls_50 : decode cX8_fewestRolls 50 = .ok (.iconst 0, 1) := by decide +kernel
theorem dX8_fewestRolls_51 : decode cX8_fewestRolls 51 = .ok (.bipush 100, 2) := by decide +kernel
theorem dX8_fewestRolls_53 : decode cX8_fewestRolls 53 = .ok (.aload_n 0, 1) := by decide +kernel
theorem dX8_fewestRolls_54 : decode cX8_fewestRolls 54 = .ok (.getfield 13, 3) := by decide +kernel
theorem dX8_fewestRolls_57 : decode cX8_fewestRolls 57 = .ok (.iconst 2, 1) := by decide +kernel
theorem dX8_fewestRolls_58 : decode cX8_fewestRolls 58 = .ok (.iaload, 1) := by decide +kernel
theorem dX8_fewestRolls_59 : decode cX8_fewestRolls 59 = .ok (.imul, 1) := by decide +kernel
theorem dX8_fewestRolls_60 : decode cX8_fewestRolls 60 = .ok (.iastore, 1) := by decide +kernel
theorem dX8_fewestRolls_61 : decode cX8_fewestRolls 61 = .ok (.iconst 1, 1) := by decide +kernel
theorem dX8_fewestRolls_62 : decode cX8_fewestRolls 62 = .ok (.istore_n 2, 1) := by decide +kernel
theorem dX8_fewestRolls_63 : decode cX8_fewestRolls 63 = .ok (.iload_n 2, 1) := by decide +kernel
theorem dX8_fewestRolls_64 : decode cX8_fewestRolls 64 = .ok (.iload_n 1, 1) := by decide +kernel
theorem dX8_fewestRolls_65 : decode cX8_fewestRolls 65 = .ok (.if_icmp .gt 77, 3) := by decide +kernel
theorem dX8_fewestRolls_68 : decode cX8_fewestRolls 68 = .ok (.iload_n 2, 1) := by decide +kernel
theorem dX8_fewestRolls_69 : decode cX8_fewestRolls 69 = .ok (.iload_n 1, 1) := by decide +kernel
theorem dX8_fewestRolls_70 : decode cX8_fewestRolls 70 = .ok (.iconst (-1), 1) := by decide +kernel
theorem dX8_fewestRolls_71 : decode cX8_fewestRolls 71 = .ok (.ixor, 1) := by decide +kernel
theorem dX8_fewestRolls_72 : decode cX8_fewestRolls 72 = .ok (.iand, 1) := by decide +kernel
theorem dX8_fewestRolls_73 : decode cX8_fewestRolls 73 = .ok (.ifCond .ne 63, 3) := by decide +kernel
theorem dX8_fewestRolls_76 : decode cX8_fewestRolls 76 = .ok (.aload_n 0, 1) := by decide +kernel
theorem dX8_fewestRolls_77 : decode cX8_fewestRolls 77 = .ok (.getfield 55, 3) := by decide +kernel
theorem dX8_fewestRolls_80 : decode cX8_fewestRolls 80 = .ok (.iload_n 2, 1) := by decide +kernel
theorem dX8_fewestRolls_81 : decode cX8_fewestRolls 81 = .ok (.bipush 99, 2) := by decide +kernel
theorem dX8_fewestRolls_83 : decode cX8_fewestRolls 83 = .ok (.iastore, 1) := by decide +kernel
theorem dX8_fewestRolls_84 : decode cX8_fewestRolls 84 = .ok (.aload_n 0, 1) := by decide +kernel
theorem dX8_fewestRolls_85 : decode cX8_fewestRolls 85 = .ok (.getfield 58, 3) := by decide +kernel
theorem dX8_fewestRolls_88 : decode cX8_fewestRolls 88 = .ok (.iload_n 2, 1) := by decide +kernel
theorem dX8_fewestRolls_89 : decode cX8_fewestRolls 89 = .ok (.iconst 0, 1) := by decide +kernel
theorem dX8_fewestRolls_90 : decode cX8_fewestRolls 90 = .ok (.iastore, 1) := by decide +kernel
theorem dX8_fewestRolls_91 : decode cX8_fewestRolls 91 = .ok (.iconst 0, 1) := by decide +kernel
theorem dX8_fewestRolls_92 : decode cX8_fewestRolls 92 = .ok (.istore_n 3, 1) := by decide +kernel
theorem dX8_fewestRolls_93 : decode cX8_fewestRolls 93 = .ok (.iload_n 3, 1) := by decide +kernel
theorem dX8_fewestRolls_94 : decode cX8_fewestRolls 94 = .ok (.aload_n 0, 1) := by decide +kernel
theorem dX8_fewestRolls_95 : decode cX8_fewestRolls 95 = .ok (.getfield 13, 3) := by decide +kernel
theorem dX8_fewestRolls_98 : decode cX8_fewestRolls 98 = .ok (.iconst 1, 1) := by decide +kernel
theorem dX8_fewestRolls_99 : decode cX8_fewestRolls 99 = .ok (.iaload, 1) := by decide +kernel
theorem dX8_fewestRolls_100 : decode cX8_fewestRolls 100 = .ok (.if_icmp .ge 36, 3) := by decide +kernel
theorem dX8_fewestRolls_103 : decode cX8_fewestRolls 103 = .ok (.iload_n 2, 1) := by decide +kernel
theorem dX8_fewestRolls_104 : decode cX8_fewestRolls 104 = .ok (.iload_n 3, 1) := by decide +kernel
theorem dX8_fewestRolls_105 : decode cX8_fewestRolls 105 = .ok (.ishr, 1) := by decide +kernel
theorem dX8_fewestRolls_106 : decode cX8_fewestRolls 106 = .ok (.iconst 1, 1) := by decide +kernel
theorem dX8_fewestRolls_107 : decode cX8_fewestRolls 107 = .ok (.iand, 1) := by decide +kernel
theorem dX8_fewestRolls_108 : decode cX8_fewestRolls 108 = .ok (.iconst 1, 1) := by decide +kernel
theorem dX8_fewestRolls_109 : decode cX8_fewestRolls 109 = .ok (.if_icmp .ne 21, 3) := by decide +kernel
theorem dX8_fewestRolls_112 : decode cX8_fewestRolls 112 = .ok (.aload_n 0, 1) := by decide +kernel
theorem dX8_fewestRolls_113 : decode cX8_fewestRolls 113 = .ok (.iload_n 2, 1) := by decide +kernel
theorem dX8_fewestRolls_114 : decode cX8_fewestRolls 114 = .ok (.iload_n 2, 1) := by decide +kernel
theorem dX8_fewestRolls_115 : decode cX8_fewestRolls 115 = .ok (.iconst 1, 1) := by decide +kernel
theorem dX8_fewestRolls_116 : decode cX8_fewestRolls 116 = .ok (.iload_n 3, 1) := by decide +kernel
theorem dX8_fewestRolls_117 : decode cX8_fewestRolls 117 = .ok (.ishl, 1) := by decide +kernel
theorem dX8_fewestRolls_118 : decode cX8_fewestRolls 118 = .ok (.iconst (-1), 1) := by decide +kernel
theorem dX8_fewestRolls_119 : decode cX8_fewestRolls 119 = .ok (.ixor, 1) := by decide +kernel
theorem dX8_fewestRolls_120 : decode cX8_fewestRolls 120 = .ok (.iand, 1) := by decide +kernel
theorem dX8_fewestRolls_121 : decode cX8_fewestRolls 121 = .ok (.aload_n 0, 1) := by decide +kernel
theorem dX8_fewestRolls_122 : decode cX8_fewestRolls 122 = .ok (.getfield 46, 3) := by decide +kernel
theorem dX8_fewestRolls_125 : decode cX8_fewestRolls 125 = .ok (.iload_n 3, 1) := by decide +kernel
theorem dX8_fewestRolls_126 : decode cX8_fewestRolls 126 = .ok (.iaload, 1) := by decide +kernel
theorem dX8_fewestRolls_127 : decode cX8_fewestRolls 127 = .ok (.invokevirtual 230, 3) := by decide +kernel
theorem dX8_fewestRolls_130 : decode cX8_fewestRolls 130 = .ok (.iinc 3 1, 3) := by decide +kernel
theorem dX8_fewestRolls_133 : decode cX8_fewestRolls 133 = .ok (.goto (-40), 3) := by decide +kernel
theorem dX8_fewestRolls_136 : decode cX8_fewestRolls 136 = .ok (.iinc 2 1, 3) := by decide +kernel
theorem dX8_fewestRolls_139 : decode cX8_fewestRolls 139 = .ok (.goto (-76), 3) := by decide +kernel
theorem dX8_fewestRolls_142 : decode cX8_fewestRolls 142 = .ok (.aload_n 0, 1) := by decide +kernel
theorem dX8_fewestRolls_143 : decode cX8_fewestRolls 143 = .ok (.getfield 55, 3) := by decide +kernel
theorem dX8_fewestRolls_146 : decode cX8_fewestRolls 146 = .ok (.iload_n 1, 1) := by decide +kernel
theorem dX8_fewestRolls_147 : decode cX8_fewestRolls 147 = .ok (.iaload, 1) := by decide +kernel
theorem dX8_fewestRolls_148 : decode cX8_fewestRolls 148 = .ok (.ireturn, 1) := by decide +kernel
theorem dX8_joins_0 : decode cX8_joins 0 = .ok (.iload_n 2, 1) := by decide +kernel
theorem dX8_joins_1 : decode cX8_joins 1 = .ok (.ifCond .eq 27, 3) := by decide +kernel
theorem dX8_joins_4 : decode cX8_joins 4 = .ok (.aload_n 0, 1) := by decide +kernel
theorem dX8_joins_5 : decode cX8_joins 5 = .ok (.getfield 58, 3) := by decide +kernel
theorem dX8_joins_8 : decode cX8_joins 8 = .ok (.iload_n 2, 1) := by decide +kernel
theorem dX8_joins_9 : decode cX8_joins 9 = .ok (.iaload, 1) := by decide +kernel
theorem dX8_joins_10 : decode cX8_joins 10 = .ok (.iload_n 3, 1) := by decide +kernel
theorem dX8_joins_11 : decode cX8_joins 11 = .ok (.iadd, 1) := by decide +kernel
theorem dX8_joins_12 : decode cX8_joins 12 = .ok (.bipush 100, 2) := by decide +kernel
theorem dX8_joins_14 : decode cX8_joins 14 = .ok (.aload_n 0, 1) := by decide +kernel
theorem dX8_joins_15 : decode cX8_joins 15 = .ok (.getfield 13, 3) := by decide +kernel
theorem dX8_joins_18 : decode cX8_joins 18 = .ok (.iconst 2, 1) := by decide +kernel
theorem dX8_joins_19 : decode cX8_joins 19 = .ok (.iaload, 1) := by decide +kernel
theorem dX8_joins_20 : decode cX8_joins 20 = .ok (.imul, 1) := by decide +kernel
theorem dX8_joins_21 : decode cX8_joins 21 = .ok (.if_icmp .gt 7, 3) := by decide +kernel
theorem dX8_joins_24 : decode cX8_joins 24 = .ok (.iconst 1, 1) := by decide +kernel
theorem dX8_joins_25 : decode cX8_joins 25 = .ok (.goto 4, 3) := by decide +kernel
theorem dX8_joins_28 : decode cX8_joins 28 = .ok (.iconst 0, 1) := by decide +kernel
theorem dX8_joins_29 : decode cX8_joins 29 = .ok (.istore 4, 2) := by decide +kernel
theorem dX8_joins_31 : decode cX8_joins 31 = .ok (.iload 4, 2) := by decide +kernel
theorem dX8_joins_33 : decode cX8_joins 33 = .ok (.ifCond .eq 12, 3) := by decide +kernel
theorem dX8_joins_36 : decode cX8_joins 36 = .ok (.aload_n 0, 1) := by decide +kernel
theorem dX8_joins_37 : decode cX8_joins 37 = .ok (.getfield 55, 3) := by decide +kernel
theorem dX8_joins_40 : decode cX8_joins 40 = .ok (.iload_n 2, 1) := by decide +kernel
theorem dX8_joins_41 : decode cX8_joins 41 = .ok (.iaload, 1) := by decide +kernel
theorem dX8_joins_42 : decode cX8_joins 42 = .ok (.goto 11, 3) := by decide +kernel
theorem dX8_joins_45 : decode cX8_joins 45 = .ok (.aload_n 0, 1) := by decide +kernel
theorem dX8_joins_46 : decode cX8_joins 46 = .ok (.getfield 55, 3) := by decide +kernel
theorem dX8_joins_49 : decode cX8_joins 49 = .ok (.iload_n 2, 1) := by decide +kernel
theorem dX8_joins_50 : decode cX8_joins 50 = .ok (.iaload, 1) := by decide +kernel
theorem dX8_joins_51 : decode cX8_joins 51 = .ok (.iconst 1, 1) := by decide +kernel
theorem dX8_joins_52 : decode cX8_joins 52 = .ok (.iadd, 1) := by decide +kernel
theorem dX8_joins_53 : decode cX8_joins 53 = .ok (.istore 5, 2) := by decide +kernel
theorem dX8_joins_55 : decode cX8_joins 55 = .ok (.iload 4, 2) := by decide +kernel
theorem dX8_joins_57 : decode cX8_joins 57 = .ok (.ifCond .eq 14, 3) := by decide +kernel
theorem dX8_joins_60 : decode cX8_joins 60 = .ok (.aload_n 0, 1) := by decide +kernel
theorem dX8_joins_61 : decode cX8_joins 61 = .ok (.getfield 58, 3) := by decide +kernel
theorem dX8_joins_64 : decode cX8_joins 64 = .ok (.iload_n 2, 1) := by decide +kernel
theorem dX8_joins_65 : decode cX8_joins 65 = .ok (.iaload, 1) := by decide +kernel
theorem dX8_joins_66 : decode cX8_joins 66 = .ok (.iload_n 3, 1) := by decide +kernel
theorem dX8_joins_67 : decode cX8_joins 67 = .ok (.iadd, 1) := by decide +kernel
theorem dX8_joins_68 : decode cX8_joins 68 = .ok (.goto 4, 3) := by decide +kernel
theorem dX8_joins_71 : decode cX8_joins 71 = .ok (.iload_n 3, 1) := by decide +kernel
theorem dX8_joins_72 : decode cX8_joins 72 = .ok (.istore 6, 2) := by decide +kernel
theorem dX8_joins_74 : decode cX8_joins 74 = .ok (.iload 5, 2) := by decide +kernel
theorem dX8_joins_76 : decode cX8_joins 76 = .ok (.aload_n 0, 1) := by decide +kernel
theorem dX8_joins_77 : decode cX8_joins 77 = .ok (.getfield 55, 3) := by decide +kernel
theorem dX8_joins_80 : decode cX8_joins 80 = .ok (.iload_n 1, 1) := by decide +kernel
theorem dX8_joins_81 : decode cX8_joins 81 = .ok (.iaload, 1) := by decide +kernel
theorem dX8_joins_82 : decode cX8_joins 82 = .ok (.if_icmp .lt 25, 3) := by decide +kernel
theorem dX8_joins_85 : decode cX8_joins 85 = .ok (.iload 5, 2) := by decide +kernel
theorem dX8_joins_87 : decode cX8_joins 87 = .ok (.aload_n 0, 1) := by decide +kernel
theorem dX8_joins_88 : decode cX8_joins 88 = .ok (.getfield 55, 3) := by decide +kernel
theorem dX8_joins_91 : decode cX8_joins 91 = .ok (.iload_n 1, 1) := by decide +kernel
theorem dX8_joins_92 : decode cX8_joins 92 = .ok (.iaload, 1) := by decide +kernel
theorem dX8_joins_93 : decode cX8_joins 93 = .ok (.if_icmp .ne 30, 3) := by decide +kernel
theorem dX8_joins_96 : decode cX8_joins 96 = .ok (.iload 6, 2) := by decide +kernel
theorem dX8_joins_98 : decode cX8_joins 98 = .ok (.aload_n 0, 1) := by decide +kernel
theorem dX8_joins_99 : decode cX8_joins 99 = .ok (.getfield 58, 3) := by decide +kernel
theorem dX8_joins_102 : decode cX8_joins 102 = .ok (.iload_n 1, 1) := by decide +kernel
theorem dX8_joins_103 : decode cX8_joins 103 = .ok (.iaload, 1) := by decide +kernel
theorem dX8_joins_104 : decode cX8_joins 104 = .ok (.if_icmp .ge 19, 3) := by decide +kernel
theorem dX8_joins_107 : decode cX8_joins 107 = .ok (.aload_n 0, 1) := by decide +kernel
theorem dX8_joins_108 : decode cX8_joins 108 = .ok (.getfield 55, 3) := by decide +kernel
theorem dX8_joins_111 : decode cX8_joins 111 = .ok (.iload_n 1, 1) := by decide +kernel
theorem dX8_joins_112 : decode cX8_joins 112 = .ok (.iload 5, 2) := by decide +kernel
theorem dX8_joins_114 : decode cX8_joins 114 = .ok (.iastore, 1) := by decide +kernel
theorem dX8_joins_115 : decode cX8_joins 115 = .ok (.aload_n 0, 1) := by decide +kernel
theorem dX8_joins_116 : decode cX8_joins 116 = .ok (.getfield 58, 3) := by decide +kernel
theorem dX8_joins_119 : decode cX8_joins 119 = .ok (.iload_n 1, 1) := by decide +kernel
theorem dX8_joins_120 : decode cX8_joins 120 = .ok (.iload 6, 2) := by decide +kernel
theorem dX8_joins_122 : decode cX8_joins 122 = .ok (.iastore, 1) := by decide +kernel
theorem dX8_joins_123 : decode cX8_joins 123 = .ok (.return_, 1) := by decide +kernel
theorem dX8_rolls_0 : decode cX8_rolls 0 = .ok (.aload_n 0, 1) := by decide +kernel
theorem dX8_rolls_1 : decode cX8_rolls 1 = .ok (.iconst 0, 1) := by decide +kernel
theorem dX8_rolls_2 : decode cX8_rolls 2 = .ok (.putfield 69, 3) := by decide +kernel
theorem dX8_rolls_5 : decode cX8_rolls 5 = .ok (.iload_n 1, 1) := by decide +kernel
theorem dX8_rolls_6 : decode cX8_rolls 6 = .ok (.iconst 0, 1) := by decide +kernel
theorem dX8_rolls_7 : decode cX8_rolls 7 = .ok (.iconst 2, 1) := by decide +kernel
theorem dX8_rolls_8 : decode cX8_rolls 8 = .ok (.invokestatic 73, 3) := by decide +kernel
theorem dX8_rolls_11 : decode cX8_rolls 11 = .ok (.ifCond .ne 5, 3) := by decide +kernel
theorem dX8_rolls_14 : decode cX8_rolls 14 = .ok (.iconst (-1), 1) := by decide +kernel
theorem dX8_rolls_15 : decode cX8_rolls 15 = .ok (.ireturn, 1) := by decide +kernel
theorem dX8_rolls_16 : decode cX8_rolls 16 = .ok (.aload_n 0, 1) := by decide +kernel
theorem dX8_rolls_17 : decode cX8_rolls 17 = .ok (.invokevirtual 202, 3) := by decide +kernel
theorem dX8_rolls_20 : decode cX8_rolls 20 = .ok (.ifCond .ne 6, 3) := by decide +kernel
theorem dX8_rolls_23 : decode cX8_rolls 23 = .ok (.bipush (-2), 2) := by decide +kernel
theorem dX8_rolls_25 : decode cX8_rolls 25 = .ok (.ireturn, 1) := by decide +kernel
theorem dX8_rolls_26 : decode cX8_rolls 26 = .ok (.aload_n 0, 1) := by decide +kernel
theorem dX8_rolls_27 : decode cX8_rolls 27 = .ok (.invokevirtual 234, 3) := by decide +kernel
theorem dX8_rolls_30 : decode cX8_rolls 30 = .ok (.ifCond .ne 6, 3) := by decide +kernel
theorem dX8_rolls_33 : decode cX8_rolls 33 = .ok (.bipush (-4), 2) := by decide +kernel
theorem dX8_rolls_35 : decode cX8_rolls 35 = .ok (.ireturn, 1) := by decide +kernel
theorem dX8_rolls_36 : decode cX8_rolls 36 = .ok (.iload_n 1, 1) := by decide +kernel
theorem dX8_rolls_37 : decode cX8_rolls 37 = .ok (.iconst 1, 1) := by decide +kernel
theorem dX8_rolls_38 : decode cX8_rolls 38 = .ok (.if_icmp .ne 8, 3) := by decide +kernel
theorem dX8_rolls_41 : decode cX8_rolls 41 = .ok (.aload_n 0, 1) := by decide +kernel
theorem dX8_rolls_42 : decode cX8_rolls 42 = .ok (.invokevirtual 237, 3) := by decide +kernel
theorem dX8_rolls_45 : decode cX8_rolls 45 = .ok (.ireturn, 1) := by decide +kernel
theorem dX8_rolls_46 : decode cX8_rolls 46 = .ok (.aload_n 0, 1) := by decide +kernel
theorem dX8_rolls_47 : decode cX8_rolls 47 = .ok (.invokevirtual 240, 3) := by decide +kernel
theorem dX8_rolls_50 : decode cX8_rolls 50 = .ok (.iconst 0, 1) := by decide +kernel
theorem dX8_rolls_51 : decode cX8_rolls 51 = .ok (.istore_n 2, 1) := by decide +kernel
theorem dX8_rolls_52 : decode cX8_rolls 52 = .ok (.iconst 0, 1) := by decide +kernel
theorem dX8_rolls_53 : decode cX8_rolls 53 = .ok (.istore_n 3, 1) := by decide +kernel
theorem dX8_rolls_54 : decode cX8_rolls 54 = .ok (.iload_n 3, 1) := by decide +kernel
theorem dX8_rolls_55 : decode cX8_rolls 55 = .ok (.aload_n 0, 1) := by decide +kernel
theorem dX8_rolls_56 : decode cX8_rolls 56 = .ok (.getfield 224, 3) := by decide +kernel
theorem dX8_rolls_59 : decode cX8_rolls 59 = .ok (.if_icmp .ge 18, 3) := by decide +kernel
theorem dX8_rolls_62 : decode cX8_rolls 62 = .ok (.iload_n 2, 1) := by decide +kernel
theorem dX8_rolls_63 : decode cX8_rolls 63 = .ok (.aload_n 0, 1) := by decide +kernel
theorem dX8_rolls_64 : decode cX8_rolls 64 = .ok (.getfield 52, 3) := by decide +kernel
theorem dX8_rolls_67 : decode cX8_rolls 67 = .ok (.iload_n 3, 1) := by decide +kernel
theorem dX8_rolls_68 : decode cX8_rolls 68 = .ok (.iaload, 1) := by decide +kernel
theorem dX8_rolls_69 : decode cX8_rolls 69 = .ok (.iadd, 1) := by decide +kernel
theorem dX8_rolls_70 : decode cX8_rolls 70 = .ok (.istore_n 2, 1) := by decide +kernel
theorem dX8_rolls_71 : decode cX8_rolls 71 = .ok (.iinc 3 1, 3) := by decide +kernel
theorem dX8_rolls_74 : decode cX8_rolls 74 = .ok (.goto (-20), 3) := by decide +kernel
theorem dX8_rolls_77 : decode cX8_rolls 77 = .ok (.iload_n 1, 1) := by decide +kernel
theorem dX8_rolls_78 : decode cX8_rolls 78 = .ok (.ifCond .ne 10, 3) := by decide +kernel
theorem dX8_rolls_81 : decode cX8_rolls 81 = .ok (.aload_n 0, 1) := by decide +kernel
theorem dX8_rolls_82 : decode cX8_rolls 82 = .ok (.getfield 224, 3) := by decide +kernel
theorem dX8_rolls_85 : decode cX8_rolls 85 = .ok (.goto 4, 3) := by decide +kernel
theorem dX8_rolls_88 : decode cX8_rolls 88 = .ok (.iload_n 2, 1) := by decide +kernel
theorem dX8_rolls_89 : decode cX8_rolls 89 = .ok (.ireturn, 1) := by decide +kernel
theorem dX8_rollOf_0 : decode cX8_rollOf 0 = .ok (.aload_n 0, 1) := by decide +kernel
theorem dX8_rollOf_1 : decode cX8_rollOf 1 = .ok (.iconst 0, 1) := by decide +kernel
theorem dX8_rollOf_2 : decode cX8_rollOf 2 = .ok (.putfield 69, 3) := by decide +kernel
theorem dX8_rollOf_5 : decode cX8_rollOf 5 = .ok (.aload_n 0, 1) := by decide +kernel
theorem dX8_rollOf_6 : decode cX8_rollOf 6 = .ok (.iload_n 1, 1) := by decide +kernel
theorem dX8_rollOf_7 : decode cX8_rollOf 7 = .ok (.invokevirtual 190, 3) := by decide +kernel
theorem dX8_rollOf_10 : decode cX8_rollOf 10 = .ok (.ifCond .ne 5, 3) := by decide +kernel
theorem dX8_rollOf_13 : decode cX8_rollOf 13 = .ok (.iconst (-1), 1) := by decide +kernel
theorem dX8_rollOf_14 : decode cX8_rollOf 14 = .ok (.ireturn, 1) := by decide +kernel
theorem dX8_rollOf_15 : decode cX8_rollOf 15 = .ok (.aload_n 0, 1) := by decide +kernel
theorem dX8_rollOf_16 : decode cX8_rollOf 16 = .ok (.invokevirtual 202, 3) := by decide +kernel
theorem dX8_rollOf_19 : decode cX8_rollOf 19 = .ok (.ifCond .ne 6, 3) := by decide +kernel
theorem dX8_rollOf_22 : decode cX8_rollOf 22 = .ok (.bipush (-2), 2) := by decide +kernel
theorem dX8_rollOf_24 : decode cX8_rollOf 24 = .ok (.ireturn, 1) := by decide +kernel
theorem dX8_rollOf_25 : decode cX8_rollOf 25 = .ok (.aload_n 0, 1) := by decide +kernel
theorem dX8_rollOf_26 : decode cX8_rollOf 26 = .ok (.iload_n 1, 1) := by decide +kernel
theorem dX8_rollOf_27 : decode cX8_rollOf 27 = .ok (.invokevirtual 137, 3) := by decide +kernel
theorem dX8_rollOf_30 : decode cX8_rollOf 30 = .ok (.ifCond .eq 10, 3) := by decide +kernel
theorem dX8_rollOf_33 : decode cX8_rollOf 33 = .ok (.aload_n 0, 1) := by decide +kernel
theorem dX8_rollOf_34 : decode cX8_rollOf 34 = .ok (.invokevirtual 234, 3) := by decide +kernel
theorem dX8_rollOf_37 : decode cX8_rollOf 37 = .ok (.ifCond .ne 6, 3) := by decide +kernel
theorem dX8_rollOf_40 : decode cX8_rollOf 40 = .ok (.bipush (-4), 2) := by decide +kernel
theorem dX8_rollOf_42 : decode cX8_rollOf 42 = .ok (.ireturn, 1) := by decide +kernel
theorem dX8_rollOf_43 : decode cX8_rollOf 43 = .ok (.aload_n 0, 1) := by decide +kernel
theorem dX8_rollOf_44 : decode cX8_rollOf 44 = .ok (.invokevirtual 240, 3) := by decide +kernel
theorem dX8_rollOf_47 : decode cX8_rollOf 47 = .ok (.aload_n 0, 1) := by decide +kernel
theorem dX8_rollOf_48 : decode cX8_rollOf 48 = .ok (.getfield 49, 3) := by decide +kernel
theorem dX8_rollOf_51 : decode cX8_rollOf 51 = .ok (.iload_n 1, 1) := by decide +kernel
theorem dX8_rollOf_52 : decode cX8_rollOf 52 = .ok (.iaload, 1) := by decide +kernel
theorem dX8_rollOf_53 : decode cX8_rollOf 53 = .ok (.ireturn, 1) := by decide +kernel
theorem dX8_count_0 : decode cX8_count 0 = .ok (.aload_n 0, 1) := by decide +kernel
theorem dX8_count_1 : decode cX8_count 1 = .ok (.iconst 0, 1) := by decide +kernel
theorem dX8_count_2 : decode cX8_count 2 = .ok (.putfield 69, 3) := by decide +kernel
theorem dX8_count_5 : decode cX8_count 5 = .ok (.iload_n 1, 1) := by decide +kernel
theorem dX8_count_6 : decode cX8_count 6 = .ok (.iconst 0, 1) := by decide +kernel
theorem dX8_count_7 : decode cX8_count 7 = .ok (.bipush 8, 2) := by decide +kernel
theorem dX8_count_9 : decode cX8_count 9 = .ok (.invokestatic 73, 3) := by decide +kernel
theorem dX8_count_12 : decode cX8_count 12 = .ok (.ifCond .ne 5, 3) := by decide +kernel
theorem dX8_count_15 : decode cX8_count 15 = .ok (.iconst (-1), 1) := by decide +kernel
theorem dX8_count_16 : decode cX8_count 16 = .ok (.ireturn, 1) := by decide +kernel
theorem dX8_count_17 : decode cX8_count 17 = .ok (.aload_n 0, 1) := by decide +kernel
theorem dX8_count_18 : decode cX8_count 18 = .ok (.bipush (-4), 2) := by decide +kernel
theorem dX8_count_20 : decode cX8_count 20 = .ok (.invokevirtual 150, 3) := by decide +kernel
theorem dX8_count_23 : decode cX8_count 23 = .ok (.pop, 1) := by decide +kernel
theorem dX8_count_24 : decode cX8_count 24 = .ok (.iconst 0, 1) := by decide +kernel
theorem dX8_count_25 : decode cX8_count 25 = .ok (.istore_n 2, 1) := by decide +kernel
theorem dX8_count_26 : decode cX8_count 26 = .ok (.iconst 0, 1) := by decide +kernel
theorem dX8_count_27 : decode cX8_count 27 = .ok (.istore_n 3, 1) := by decide +kernel
theorem dX8_count_28 : decode cX8_count 28 = .ok (.iconst 0, 1) := by decide +kernel
theorem dX8_count_29 : decode cX8_count 29 = .ok (.istore 4, 2) := by decide +kernel
theorem dX8_count_31 : decode cX8_count 31 = .ok (.iload 4, 2) := by decide +kernel
theorem dX8_count_33 : decode cX8_count 33 = .ok (.aload_n 0, 1) := by decide +kernel
theorem dX8_count_34 : decode cX8_count 34 = .ok (.getfield 13, 3) := by decide +kernel
theorem dX8_count_37 : decode cX8_count 37 = .ok (.iconst 0, 1) := by decide +kernel
theorem dX8_count_38 : decode cX8_count 38 = .ok (.iaload, 1) := by decide +kernel
theorem dX8_count_39 : decode cX8_count 39 = .ok (.if_icmp .ge 53, 3) := by decide +kernel
theorem dX8_count_42 : decode cX8_count 42 = .ok (.iload_n 2, 1) := by decide +kernel
theorem dX8_count_43 : decode cX8_count 43 = .ok (.aload_n 0, 1) := by decide +kernel
theorem dX8_count_44 : decode cX8_count 44 = .ok (.iload 4, 2) := by decide +kernel
theorem dX8_count_46 : decode cX8_count 46 = .ok (.invokevirtual 134, 3) := by decide +kernel
theorem dX8_count_49 : decode cX8_count 49 = .ok (.ifCond .eq 7, 3) := by decide +kernel
theorem dX8_count_52 : decode cX8_count 52 = .ok (.iconst 1, 1) := by decide +kernel
theorem dX8_count_53 : decode cX8_count 53 = .ok (.goto 4, 3) := by decide +kernel
theorem dX8_count_56 : decode cX8_count 56 = .ok (.iconst 0, 1) := by decide +kernel
theorem dX8_count_57 : decode cX8_count 57 = .ok (.iadd, 1) := by decide +kernel
theorem dX8_count_58 : decode cX8_count 58 = .ok (.istore_n 2, 1) := by decide +kernel
theorem dX8_count_59 : decode cX8_count 59 = .ok (.iload_n 3, 1) := by decide +kernel
theorem dX8_count_60 : decode cX8_count 60 = .ok (.aload_n 0, 1) := by decide +kernel
theorem dX8_count_61 : decode cX8_count 61 = .ok (.iload 4, 2) := by decide +kernel
theorem dX8_count_63 : decode cX8_count 63 = .ok (.invokevirtual 134, 3) := by decide +kernel
theorem dX8_count_66 : decode cX8_count 66 = .ok (.ifCond .eq 17, 3) := by decide +kernel
theorem dX8_count_69 : decode cX8_count 69 = .ok (.aload_n 0, 1) := by decide +kernel
theorem dX8_count_70 : decode cX8_count 70 = .ok (.getfield 29, 3) := by decide +kernel
theorem dX8_count_73 : decode cX8_count 73 = .ok (.iload 4, 2) := by decide +kernel
theorem dX8_count_75 : decode cX8_count 75 = .ok (.baload, 1) := by decide +kernel
theorem dX8_count_76 : decode cX8_count 76 = .ok (.ifCond .eq 7, 3) := by decide +kernel
theorem dX8_count_79 : decode cX8_count 79 = .ok (.iconst 1, 1) := by decide +kernel
theorem dX8_count_80 : decode cX8_count 80 = .ok (.goto 4, 3) := by decide +kernel
theorem dX8_count_83 : decode cX8_count 83 = .ok (.iconst 0, 1) := by decide +kernel
theorem dX8_count_84 : decode cX8_count 84 = .ok (.iadd, 1) := by decide +kernel
theorem dX8_count_85 : decode cX8_count 85 = .ok (.istore_n 3, 1) := by decide +kernel
theorem dX8_count_86 : decode cX8_count 86 = .ok (.iinc 4 1, 3) := by decide +kernel
theorem dX8_count_89 : decode cX8_count 89 = .ok (.goto (-58), 3) := by decide +kernel
theorem dX8_count_92 : decode cX8_count 92 = .ok (.iload_n 1, 1) := by decide +kernel
theorem dX8_count_93 : decode cX8_count 93 = .ok (.tableswitch 87 0 7 #[47, 54, 56, 63, 68, 70, 75, 80], 47) := by decide +kernel
theorem dX8_count_140 : decode cX8_count 140 = .ok (.aload_n 0, 1) := by decide +kernel
theorem dX8_count_141 : decode cX8_count 141 = .ok (.getfield 13, 3) := by decide +kernel
theorem dX8_count_144 : decode cX8_count 144 = .ok (.iconst 0, 1) := by decide +kernel
theorem dX8_count_145 : decode cX8_count 145 = .ok (.iaload, 1) := by decide +kernel
theorem dX8_count_146 : decode cX8_count 146 = .ok (.ireturn, 1) := by decide +kernel
theorem dX8_count_147 : decode cX8_count 147 = .ok (.iload_n 2, 1) := by decide +kernel
theorem dX8_count_148 : decode cX8_count 148 = .ok (.ireturn, 1) := by decide +kernel
theorem dX8_count_149 : decode cX8_count 149 = .ok (.aload_n 0, 1) := by decide +kernel
theorem dX8_count_150 : decode cX8_count 150 = .ok (.getfield 13, 3) := by decide +kernel
theorem dX8_count_153 : decode cX8_count 153 = .ok (.iconst 1, 1) := by decide +kernel
theorem dX8_count_154 : decode cX8_count 154 = .ok (.iaload, 1) := by decide +kernel
theorem dX8_count_155 : decode cX8_count 155 = .ok (.ireturn, 1) := by decide +kernel
theorem dX8_count_156 : decode cX8_count 156 = .ok (.aload_n 0, 1) := by decide +kernel
theorem dX8_count_157 : decode cX8_count 157 = .ok (.invokevirtual 199, 3) := by decide +kernel
theorem dX8_count_160 : decode cX8_count 160 = .ok (.ireturn, 1) := by decide +kernel
theorem dX8_count_161 : decode cX8_count 161 = .ok (.iload_n 3, 1) := by decide +kernel
theorem dX8_count_162 : decode cX8_count 162 = .ok (.ireturn, 1) := by decide +kernel
theorem dX8_count_163 : decode cX8_count 163 = .ok (.aload_n 0, 1) := by decide +kernel
theorem dX8_count_164 : decode cX8_count 164 = .ok (.getfield 128, 3) := by decide +kernel
theorem dX8_count_167 : decode cX8_count 167 = .ok (.ireturn, 1) := by decide +kernel
theorem dX8_count_168 : decode cX8_count 168 = .ok (.aload_n 0, 1) := by decide +kernel
theorem dX8_count_169 : decode cX8_count 169 = .ok (.getfield 77, 3) := by decide +kernel
theorem dX8_count_172 : decode cX8_count 172 = .ok (.ireturn, 1) := by decide +kernel
theorem dX8_count_173 : decode cX8_count 173 = .ok (.aload_n 0, 1) := by decide +kernel
theorem dX8_count_174 : decode cX8_count 174 = .ok (.getfield 13, 3) := by decide +kernel
theorem dX8_count_177 : decode cX8_count 177 = .ok (.iconst 2, 1) := by decide +kernel
theorem dX8_count_178 : decode cX8_count 178 = .ok (.iaload, 1) := by decide +kernel
theorem dX8_count_179 : decode cX8_count 179 = .ok (.ireturn, 1) := by decide +kernel
theorem dX8_count_180 : decode cX8_count 180 = .ok (.aload_n 0, 1) := by decide +kernel
theorem dX8_count_181 : decode cX8_count 181 = .ok (.getfield 13, 3) := by decide +kernel
theorem dX8_count_184 : decode cX8_count 184 = .ok (.iconst 3, 1) := by decide +kernel
theorem dX8_count_185 : decode cX8_count 185 = .ok (.iaload, 1) := by decide +kernel
theorem dX8_count_186 : decode cX8_count 186 = .ok (.ireturn, 1) := by decide +kernel
