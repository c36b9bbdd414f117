theorem d_R_step_0 : decode b_R_step 0 = .ok (.aload_n 0, 1) := by decide +kernel
theorem d_R_step_1 : decode b_R_step 1 = .ok (.getfield 104, 3) := by decide +kernel
theorem d_R_step_4 : decode b_R_step 4 = .ok (.aload_n 0, 1) := by decide +kernel
theorem d_R_step_5 : decode b_R_step 5 = .ok (.getfield 101, 3) := by decide +kernel
theorem d_R_step_8 : decode b_R_step 8 = .ok (.iand, 1) := by decide +kernel
theorem d_R_step_9 : decode b_R_step 9 = .ok (.bipush 31, 2) := by decide +kernel
theorem d_R_step_11 : decode b_R_step 11 = .ok (.iand, 1) := by decide +kernel
theorem d_R_step_12 : decode b_R_step 12 = .ok (.istore_n 1, 1) := by decide +kernel
theorem d_R_step_13 : decode b_R_step 13 = .ok (.aload_n 0, 1) := by decide +kernel
theorem d_R_step_14 : decode b_R_step 14 = .ok (.iconst 0, 1) := by decide +kernel
theorem d_R_step_15 : decode b_R_step 15 = .ok (.putfield 209, 3) := by decide +kernel
theorem d_R_step_18 : decode b_R_step 18 = .ok (.iload_n 1, 1) := by decide +kernel
theorem d_R_step_19 : decode b_R_step 19 = .ok (.ifCond .eq 101, 3) := by decide +kernel
theorem d_R_step_22 : decode b_R_step 22 = .ok (.aload_n 0, 1) := by decide +kernel
theorem d_R_step_23 : decode b_R_step 23 = .ok (.iconst 0, 1) := by decide +kernel
theorem d_R_step_24 : decode b_R_step 24 = .ok (.putfield 77, 3) := by decide +kernel
theorem d_R_step_27 : decode b_R_step 27 = .ok (.aload_n 0, 1) := by decide +kernel
theorem d_R_step_28 : decode b_R_step 28 = .ok (.getfield 74, 3) := by decide +kernel
theorem d_R_step_31 : decode b_R_step 31 = .ok (.ifCond .eq 89, 3) := by decide +kernel
theorem d_R_step_34 : decode b_R_step 34 = .ok (.iconst 0, 1) := by decide +kernel
theorem d_R_step_35 : decode b_R_step 35 = .ok (.istore_n 2, 1) := by decide +kernel
theorem d_R_step_36 : decode b_R_step 36 = .ok (.iload_n 1, 1) := by decide +kernel
theorem d_R_step_37 : decode b_R_step 37 = .ok (.iload_n 2, 1) := by decide +kernel
theorem d_R_step_38 : decode b_R_step 38 = .ok (.ishr, 1) := by decide +kernel
theorem d_R_step_39 : decode b_R_step 39 = .ok (.iconst 1, 1) := by decide +kernel
theorem d_R_step_40 : decode b_R_step 40 = .ok (.iand, 1) := by decide +kernel
theorem d_R_step_41 : decode b_R_step 41 = .ok (.ifCond .ne 9, 3) := by decide +kernel
theorem d_R_step_44 : decode b_R_step 44 = .ok (.iinc 2 1, 3) := by decide +kernel
theorem d_R_step_47 : decode b_R_step 47 = .ok (.goto (-11), 3) := by decide +kernel
theorem d_R_step_50 : decode b_R_step 50 = .ok (.aload_n 0, 1) := by decide +kernel
theorem d_R_step_51 : decode b_R_step 51 = .ok (.iconst 0, 1) := by decide +kernel
theorem d_R_step_52 : decode b_R_step 52 = .ok (.putfield 74, 3) := by decide +kernel
theorem d_R_step_55 : decode b_R_step 55 = .ok (.aload_n 0, 1) := by decide +kernel
theorem d_R_step_56 : decode b_R_step 56 = .ok (.iconst 0, 1) := by decide +kernel
theorem d_R_step_57 : decode b_R_step 57 = .ok (.putfield 83, 3) := by decide +kernel
theorem d_R_step_60 : decode b_R_step 60 = .ok (.aload_n 0, 1) := by decide +kernel
theorem d_R_step_61 : decode b_R_step 61 = .ok (.dup, 1) := by decide +kernel
theorem d_R_step_62 : decode b_R_step 62 = .ok (.getfield 101, 3) := by decide +kernel
theorem d_R_step_65 : decode b_R_step 65 = .ok (.iconst 1, 1) := by decide +kernel
theorem d_R_step_66 : decode b_R_step 66 = .ok (.iload_n 2, 1) := by decide +kernel
theorem d_R_step_67 : decode b_R_step 67 = .ok (.ishl, 1) := by decide +kernel
theorem d_R_step_68 : decode b_R_step 68 = .ok (.iconst (-1), 1) := by decide +kernel
theorem d_R_step_69 : decode b_R_step 69 = .ok (.ixor, 1) := by decide +kernel
theorem d_R_step_70 : decode b_R_step 70 = .ok (.iand, 1) := by decide +kernel
theorem d_R_step_71 : decode b_R_step 71 = .ok (.putfield 101, 3) := by decide +kernel
theorem d_R_step_74 : decode b_R_step 74 = .ok (.aload_n 0, 1) := by decide +kernel
theorem d_R_step_75 : decode b_R_step 75 = .ok (.aload_n 0, 1) := by decide +kernel
theorem d_R_step_76 : decode b_R_step 76 = .ok (.getfield 71, 3) := by decide +kernel
theorem d_R_step_79 : decode b_R_step 79 = .ok (.invokevirtual 235, 3) := by decide +kernel
theorem d_R_step_82 : decode b_R_step 82 = .ok (.aload_n 0, 1) := by decide +kernel
theorem d_R_step_83 : decode b_R_step 83 = .ok (.bipush 64, 2) := by decide +kernel
theorem d_R_step_85 : decode b_R_step 85 = .ok (.bipush 8, 2) := by decide +kernel
theorem d_R_step_87 : decode b_R_step 87 = .ok (.iload_n 2, 1) := by decide +kernel
theorem d_R_step_88 : decode b_R_step 88 = .ok (.imul, 1) := by decide +kernel
theorem d_R_step_89 : decode b_R_step 89 = .ok (.iadd, 1) := by decide +kernel
theorem d_R_step_90 : decode b_R_step 90 = .ok (.putfield 71, 3) := by decide +kernel
theorem d_R_step_93 : decode b_R_step 93 = .ok (.aload_n 0, 1) := by decide +kernel
theorem d_R_step_94 : decode b_R_step 94 = .ok (.iconst 5, 1) := by decide +kernel
theorem d_R_step_95 : decode b_R_step 95 = .ok (.putfield 209, 3) := by decide +kernel
theorem d_R_step_98 : decode b_R_step 98 = .ok (.aload_n 0, 1) := by decide +kernel
theorem d_R_step_99 : decode b_R_step 99 = .ok (.dup, 1) := by decide +kernel
theorem d_R_step_100 : decode b_R_step 100 = .ok (.getfield 155, 3) := by decide +kernel
theorem d_R_step_103 : decode b_R_step 103 = .ok (.iconst 1, 1) := by decide +kernel
theorem d_R_step_104 : decode b_R_step 104 = .ok (.iadd, 1) := by decide +kernel
theorem d_R_step_105 : decode b_R_step 105 = .ok (.putfield 155, 3) := by decide +kernel
theorem d_R_step_108 : decode b_R_step 108 = .ok (.aload_n 0, 1) := by decide +kernel
theorem d_R_step_109 : decode b_R_step 109 = .ok (.dup, 1) := by decide +kernel
theorem d_R_step_110 : decode b_R_step 110 = .ok (.getfield 152, 3) := by decide +kernel
theorem d_R_step_113 : decode b_R_step 113 = .ok (.iconst 1, 1) := by decide +kernel
theorem d_R_step_114 : decode b_R_step 114 = .ok (.iadd, 1) := by decide +kernel
theorem d_R_step_115 : decode b_R_step 115 = .ok (.putfield 152, 3) := by decide +kernel
theorem d_R_step_118 : decode b_R_step 118 = .ok (.iconst 1, 1) := by decide +kernel
theorem d_R_step_119 : decode b_R_step 119 = .ok (.ireturn, 1) := by decide +kernel
theorem d_R_step_120 : decode b_R_step 120 = .ok (.aload_n 0, 1) := by decide +kernel
theorem d_R_step_121 : decode b_R_step 121 = .ok (.getfield 77, 3) := by decide +kernel
theorem d_R_step_124 : decode b_R_step 124 = .ok (.ifCond .eq 20, 3) := by decide +kernel
theorem d_R_step_127 : decode b_R_step 127 = .ok (.aload_n 0, 1) := by decide +kernel
theorem d_R_step_128 : decode b_R_step 128 = .ok (.dup, 1) := by decide +kernel
theorem d_R_step_129 : decode b_R_step 129 = .ok (.getfield 152, 3) := by decide +kernel
theorem d_R_step_132 : decode b_R_step 132 = .ok (.iconst 1, 1) := by decide +kernel
theorem d_R_step_133 : decode b_R_step 133 = .ok (.iadd, 1) := by decide +kernel
theorem d_R_step_134 : decode b_R_step 134 = .ok (.putfield 152, 3) := by decide +kernel
theorem d_R_step_137 : decode b_R_step 137 = .ok (.aload_n 0, 1) := by decide +kernel
theorem d_R_step_138 : decode b_R_step 138 = .ok (.iconst 1, 1) := by decide +kernel
theorem d_R_step_139 : decode b_R_step 139 = .ok (.putfield 209, 3) := by decide +kernel
theorem d_R_step_142 : decode b_R_step 142 = .ok (.iconst 1, 1) := by decide +kernel
theorem d_R_step_143 : decode b_R_step 143 = .ok (.ireturn, 1) := by decide +kernel
theorem d_R_step_144 : decode b_R_step 144 = .ok (.aload_n 0, 1) := by decide +kernel
theorem d_R_step_145 : decode b_R_step 145 = .ok (.getfield 83, 3) := by decide +kernel
theorem d_R_step_148 : decode b_R_step 148 = .ok (.istore_n 2, 1) := by decide +kernel
theorem d_R_step_149 : decode b_R_step 149 = .ok (.aload_n 0, 1) := by decide +kernel
theorem d_R_step_150 : decode b_R_step 150 = .ok (.iconst 0, 1) := by decide +kernel
theorem d_R_step_151 : decode b_R_step 151 = .ok (.putfield 83, 3) := by decide +kernel
theorem d_R_step_154 : decode b_R_step 154 = .ok (.aload_n 0, 1) := by decide +kernel
theorem d_R_step_155 : decode b_R_step 155 = .ok (.invokevirtual 218, 3) := by decide +kernel
theorem d_R_step_158 : decode b_R_step 158 = .ok (.istore_n 3, 1) := by decide +kernel
theorem d_R_step_159 : decode b_R_step 159 = .ok (.iload_n 3, 1) := by decide +kernel
theorem d_R_step_160 : decode b_R_step 160 = .ok (.bipush 6, 2) := by decide +kernel
theorem d_R_step_162 : decode b_R_step 162 = .ok (.ishr, 1) := by decide +kernel
theorem d_R_step_163 : decode b_R_step 163 = .ok (.istore 4, 2) := by decide +kernel
theorem d_R_step_165 : decode b_R_step 165 = .ok (.iload_n 3, 1) := by decide +kernel
theorem d_R_step_166 : decode b_R_step 166 = .ok (.iconst 3, 1) := by decide +kernel
theorem d_R_step_167 : decode b_R_step 167 = .ok (.ishr, 1) := by decide +kernel
theorem d_R_step_168 : decode b_R_step 168 = .ok (.bipush 7, 2) := by decide +kernel
theorem d_R_step_170 : decode b_R_step 170 = .ok (.iand, 1) := by decide +kernel
theorem d_R_step_171 : decode b_R_step 171 = .ok (.istore 5, 2) := by decide +kernel
theorem d_R_step_173 : decode b_R_step 173 = .ok (.iload_n 3, 1) := by decide +kernel
theorem d_R_step_174 : decode b_R_step 174 = .ok (.bipush 7, 2) := by decide +kernel
theorem d_R_step_176 : decode b_R_step 176 = .ok (.iand, 1) := by decide +kernel
theorem d_R_step_177 : decode b_R_step 177 = .ok (.istore 6, 2) := by decide +kernel
theorem d_R_step_179 : decode b_R_step 179 = .ok (.iload 4, 2) := by decide +kernel
theorem d_R_step_181 : decode b_R_step 181 = .ok (.ifCond .ne 14, 3) := by decide +kernel
theorem d_R_step_184 : decode b_R_step 184 = .ok (.aload_n 0, 1) := by decide +kernel
theorem d_R_step_185 : decode b_R_step 185 = .ok (.iload 5, 2) := by decide +kernel
theorem d_R_step_187 : decode b_R_step 187 = .ok (.iload 6, 2) := by decide +kernel
theorem d_R_step_189 : decode b_R_step 189 = .ok (.invokevirtual 290, 3) := by decide +kernel
theorem d_R_step_192 : decode b_R_step 192 = .ok (.goto 67, 3) := by decide +kernel
theorem d_R_step_195 : decode b_R_step 195 = .ok (.iload_n 3, 1) := by decide +kernel
theorem d_R_step_196 : decode b_R_step 196 = .ok (.bipush 118, 2) := by decide +kernel
theorem d_R_step_198 : decode b_R_step 198 = .ok (.if_icmp .ne 11, 3) := by decide +kernel
theorem d_R_step_201 : decode b_R_step 201 = .ok (.aload_n 0, 1) := by decide +kernel
theorem d_R_step_202 : decode b_R_step 202 = .ok (.iconst 1, 1) := by decide +kernel
theorem d_R_step_203 : decode b_R_step 203 = .ok (.putfield 77, 3) := by decide +kernel
theorem d_R_step_206 : decode b_R_step 206 = .ok (.goto 53, 3) := by decide +kernel
theorem d_R_step_209 : decode b_R_step 209 = .ok (.iload 4, 2) := by decide +kernel
theorem d_R_step_211 : decode b_R_step 211 = .ok (.iconst 1, 1) := by decide +kernel
theorem d_R_step_212 : decode b_R_step 212 = .ok (.if_icmp .ne 18, 3) := by decide +kernel
theorem d_R_step_215 : decode b_R_step 215 = .ok (.aload_n 0, 1) := by decide +kernel
theorem d_R_step_216 : decode b_R_step 216 = .ok (.iload 5, 2) := by decide +kernel
theorem d_R_step_218 : decode b_R_step 218 = .ok (.aload_n 0, 1) := by decide +kernel
theorem d_R_step_219 : decode b_R_step 219 = .ok (.iload 6, 2) := by decide +kernel
theorem d_R_step_221 : decode b_R_step 221 = .ok (.invokevirtual 259, 3) := by decide +kernel
theorem d_R_step_224 : decode b_R_step 224 = .ok (.invokevirtual 262, 3) := by decide +kernel
theorem d_R_step_227 : decode b_R_step 227 = .ok (.goto 32, 3) := by decide +kernel
theorem d_R_step_230 : decode b_R_step 230 = .ok (.iload 4, 2) := by decide +kernel
theorem d_R_step_232 : decode b_R_step 232 = .ok (.iconst 2, 1) := by decide +kernel
theorem d_R_step_233 : decode b_R_step 233 = .ok (.if_icmp .ne 18, 3) := by decide +kernel
theorem d_R_step_236 : decode b_R_step 236 = .ok (.aload_n 0, 1) := by decide +kernel
theorem d_R_step_237 : decode b_R_step 237 = .ok (.iload 5, 2) := by decide +kernel
theorem d_R_step_239 : decode b_R_step 239 = .ok (.aload_n 0, 1) := by decide +kernel
theorem d_R_step_240 : decode b_R_step 240 = .ok (.iload 6, 2) := by decide +kernel
theorem d_R_step_242 : decode b_R_step 242 = .ok (.invokevirtual 259, 3) := by decide +kernel
theorem d_R_step_245 : decode b_R_step 245 = .ok (.invokevirtual 287, 3) := by decide +kernel
theorem d_R_step_248 : decode b_R_step 248 = .ok (.goto 11, 3) := by decide +kernel
theorem d_R_step_251 : decode b_R_step 251 = .ok (.aload_n 0, 1) := by decide +kernel
theorem d_R_step_252 : decode b_R_step 252 = .ok (.iload 5, 2) := by decide +kernel
theorem d_R_step_254 : decode b_R_step 254 = .ok (.iload 6, 2) := by decide +kernel
theorem d_R_step_256 : decode b_R_step 256 = .ok (.invokevirtual 293, 3) := by decide +kernel
theorem d_R_step_259 : decode b_R_step 259 = .ok (.aload_n 0, 1) := by decide +kernel
theorem d_R_step_260 : decode b_R_step 260 = .ok (.getfield 80, 3) := by decide +kernel
theorem d_R_step_263 : decode b_R_step 263 = .ok (.ifCond .eq 10, 3) := by decide +kernel
theorem d_R_step_266 : decode b_R_step 266 = .ok (.aload_n 0, 1) := by decide +kernel
theorem d_R_step_267 : decode b_R_step 267 = .ok (.iconst 0, 1) := by decide +kernel
theorem d_R_step_268 : decode b_R_step 268 = .ok (.putfield 209, 3) := by decide +kernel
theorem d_R_step_271 : decode b_R_step 271 = .ok (.iconst 0, 1) := by decide +kernel
theorem d_R_step_272 : decode b_R_step 272 = .ok (.ireturn, 1) := by decide +kernel
theorem d_R_step_273 : decode b_R_step 273 = .ok (.iload_n 2, 1) := by decide +kernel
theorem d_R_step_274 : decode b_R_step 274 = .ok (.ifCond .eq 15, 3) := by decide +kernel
theorem d_R_step_277 : decode b_R_step 277 = .ok (.iload_n 3, 1) := by decide +kernel
theorem d_R_step_278 : decode b_R_step 278 = .ok (.sipush 243, 3) := by decide +kernel
theorem d_R_step_281 : decode b_R_step 281 = .ok (.if_icmp .eq 8, 3) := by decide +kernel
theorem d_R_step_284 : decode b_R_step 284 = .ok (.aload_n 0, 1) := by decide +kernel
theorem d_R_step_285 : decode b_R_step 285 = .ok (.iconst 1, 1) := by decide +kernel
theorem d_R_step_286 : decode b_R_step 286 = .ok (.putfield 74, 3) := by decide +kernel
theorem d_R_step_289 : decode b_R_step 289 = .ok (.aload_n 0, 1) := by decide +kernel
theorem d_R_step_290 : decode b_R_step 290 = .ok (.dup, 1) := by decide +kernel
theorem d_R_step_291 : decode b_R_step 291 = .ok (.getfield 152, 3) := by decide +kernel
theorem d_R_step_294 : decode b_R_step 294 = .ok (.iconst 1, 1) := by decide +kernel
theorem d_R_step_295 : decode b_R_step 295 = .ok (.iadd, 1) := by decide +kernel
theorem d_R_step_296 : decode b_R_step 296 = .ok (.putfield 152, 3) := by decide +kernel
theorem d_R_step_299 : decode b_R_step 299 = .ok (.iconst 1, 1) := by decide +kernel
theorem d_R_step_300 : decode b_R_step 300 = .ok (.ireturn, 1) := by decide +kernel
theorem d_R_isSignal_0 : decode b_R_isSignal 0 = .ok (.aload_n 0, 1) := by decide +kernel
theorem d_R_isSignal_1 : decode b_R_isSignal 1 = .ok (.getfield 107, 3) := by decide +kernel
theorem d_R_isSignal_4 : decode b_R_isSignal 4 = .ok (.sipush 128, 3) := by decide +kernel
theorem d_R_isSignal_7 : decode b_R_isSignal 7 = .ok (.iand, 1) := by decide +kernel
theorem d_R_isSignal_8 : decode b_R_isSignal 8 = .ok (.ifCond .ne 5, 3) := by decide +kernel
theorem d_R_isSignal_11 : decode b_R_isSignal 11 = .ok (.iconst 0, 1) := by decide +kernel
theorem d_R_isSignal_12 : decode b_R_isSignal 12 = .ok (.ireturn, 1) := by decide +kernel
theorem d_R_isSignal_13 : decode b_R_isSignal 13 = .ok (.aload_n 0, 1) := by decide +kernel
theorem d_R_isSignal_14 : decode b_R_isSignal 14 = .ok (.invokevirtual 174, 3) := by decide +kernel
theorem d_R_isSignal_17 : decode b_R_isSignal 17 = .ok (.istore_n 1, 1) := by decide +kernel
theorem d_R_isSignal_18 : decode b_R_isSignal 18 = .ok (.aload_n 0, 1) := by decide +kernel
theorem d_R_isSignal_19 : decode b_R_isSignal 19 = .ok (.getfield 110, 3) := by decide +kernel
theorem d_R_isSignal_22 : decode b_R_isSignal 22 = .ok (.bipush 64, 2) := by decide +kernel
theorem d_R_isSignal_24 : decode b_R_isSignal 24 = .ok (.iand, 1) := by decide +kernel
theorem d_R_isSignal_25 : decode b_R_isSignal 25 = .ok (.ifCond .le 14, 3) := by decide +kernel
theorem d_R_isSignal_28 : decode b_R_isSignal 28 = .ok (.aload_n 0, 1) := by decide +kernel
theorem d_R_isSignal_29 : decode b_R_isSignal 29 = .ok (.getfield 119, 3) := by decide +kernel
theorem d_R_isSignal_32 : decode b_R_isSignal 32 = .ok (.aload_n 0, 1) := by decide +kernel
theorem d_R_isSignal_33 : decode b_R_isSignal 33 = .ok (.getfield 122, 3) := by decide +kernel
theorem d_R_isSignal_36 : decode b_R_isSignal 36 = .ok (.if_icmp .eq 47, 3) := by decide +kernel
theorem d_R_isSignal_39 : decode b_R_isSignal 39 = .ok (.aload_n 0, 1) := by decide +kernel
theorem d_R_isSignal_40 : decode b_R_isSignal 40 = .ok (.getfield 110, 3) := by decide +kernel
theorem d_R_isSignal_43 : decode b_R_isSignal 43 = .ok (.bipush 32, 2) := by decide +kernel
theorem d_R_isSignal_45 : decode b_R_isSignal 45 = .ok (.iand, 1) := by decide +kernel
theorem d_R_isSignal_46 : decode b_R_isSignal 46 = .ok (.ifCond .le 8, 3) := by decide +kernel
theorem d_R_isSignal_49 : decode b_R_isSignal 49 = .ok (.iload_n 1, 1) := by decide +kernel
theorem d_R_isSignal_50 : decode b_R_isSignal 50 = .ok (.iconst 2, 1) := by decide +kernel
theorem d_R_isSignal_51 : decode b_R_isSignal 51 = .ok (.if_icmp .eq 32, 3) := by decide +kernel
theorem d_R_isSignal_54 : decode b_R_isSignal 54 = .ok (.aload_n 0, 1) := by decide +kernel
theorem d_R_isSignal_55 : decode b_R_isSignal 55 = .ok (.getfield 110, 3) := by decide +kernel
theorem d_R_isSignal_58 : decode b_R_isSignal 58 = .ok (.bipush 16, 2) := by decide +kernel
theorem d_R_isSignal_60 : decode b_R_isSignal 60 = .ok (.iand, 1) := by decide +kernel
theorem d_R_isSignal_61 : decode b_R_isSignal 61 = .ok (.ifCond .le 8, 3) := by decide +kernel
theorem d_R_isSignal_64 : decode b_R_isSignal 64 = .ok (.iload_n 1, 1) := by decide +kernel
theorem d_R_isSignal_65 : decode b_R_isSignal 65 = .ok (.iconst 1, 1) := by decide +kernel
theorem d_R_isSignal_66 : decode b_R_isSignal 66 = .ok (.if_icmp .eq 17, 3) := by decide +kernel
theorem d_R_isSignal_69 : decode b_R_isSignal 69 = .ok (.aload_n 0, 1) := by decide +kernel
theorem d_R_isSignal_70 : decode b_R_isSignal 70 = .ok (.getfield 110, 3) := by decide +kernel
theorem d_R_isSignal_73 : decode b_R_isSignal 73 = .ok (.bipush 8, 2) := by decide +kernel
theorem d_R_isSignal_75 : decode b_R_isSignal 75 = .ok (.iand, 1) := by decide +kernel
theorem d_R_isSignal_76 : decode b_R_isSignal 76 = .ok (.ifCond .le 11, 3) := by decide +kernel
theorem d_R_isSignal_79 : decode b_R_isSignal 79 = .ok (.iload_n 1, 1) := by decide +kernel
theorem d_R_isSignal_80 : decode b_R_isSignal 80 = .ok (.ifCond .ne 7, 3) := by decide +kernel
theorem d_R_isSignal_83 : decode b_R_isSignal 83 = .ok (.iconst 1, 1) := by decide +kernel
theorem d_R_isSignal_84 : decode b_R_isSignal 84 = .ok (.goto 4, 3) := by decide +kernel
theorem d_R_isSignal_87 : decode b_R_isSignal 87 = .ok (.iconst 0, 1) := by decide +kernel
theorem d_R_isSignal_88 : decode b_R_isSignal 88 = .ok (.ireturn, 1) := by decide +kernel
theorem d_R_cycle_0 : decode b_R_cycle 0 = .ok (.aload_n 0, 1) := by decide +kernel
theorem d_R_cycle_1 : decode b_R_cycle 1 = .ok (.aload_n 0, 1) := by decide +kernel
theorem d_R_cycle_2 : decode b_R_cycle 2 = .ok (.getfield 89, 3) := by decide +kernel
theorem d_R_cycle_5 : decode b_R_cycle 5 = .ok (.iconst 1, 1) := by decide +kernel
theorem d_R_cycle_6 : decode b_R_cycle 6 = .ok (.iadd, 1) := by decide +kernel
theorem d_R_cycle_7 : decode b_R_cycle 7 = .ok (.ldc 194, 2) := by decide +kernel
theorem d_R_cycle_9 : decode b_R_cycle 9 = .ok (.iand, 1) := by decide +kernel
theorem d_R_cycle_10 : decode b_R_cycle 10 = .ok (.putfield 89, 3) := by decide +kernel
theorem d_R_cycle_13 : decode b_R_cycle 13 = .ok (.aload_n 0, 1) := by decide +kernel
theorem d_R_cycle_14 : decode b_R_cycle 14 = .ok (.getfield 98, 3) := by decide +kernel
theorem d_R_cycle_17 : decode b_R_cycle 17 = .ok (.iconst 3, 1) := by decide +kernel
theorem d_R_cycle_18 : decode b_R_cycle 18 = .ok (.iand, 1) := by decide +kernel
theorem d_R_cycle_19 : decode b_R_cycle 19 = .ok (.ifCond .ne 9, 3) := by decide +kernel
theorem d_R_cycle_22 : decode b_R_cycle 22 = .ok (.sipush 256, 3) := by decide +kernel
theorem d_R_cycle_25 : decode b_R_cycle 25 = .ok (.goto 34, 3) := by decide +kernel
theorem d_R_cycle_28 : decode b_R_cycle 28 = .ok (.aload_n 0, 1) := by decide +kernel
theorem d_R_cycle_29 : decode b_R_cycle 29 = .ok (.getfield 98, 3) := by decide +kernel
theorem d_R_cycle_32 : decode b_R_cycle 32 = .ok (.iconst 3, 1) := by decide +kernel
theorem d_R_cycle_33 : decode b_R_cycle 33 = .ok (.iand, 1) := by decide +kernel
theorem d_R_cycle_34 : decode b_R_cycle 34 = .ok (.iconst 1, 1) := by decide +kernel
theorem d_R_cycle_35 : decode b_R_cycle 35 = .ok (.if_icmp .ne 7, 3) := by decide +kernel
theorem d_R_cycle_38 : decode b_R_cycle 38 = .ok (.iconst 4, 1) := by decide +kernel
theorem d_R_cycle_39 : decode b_R_cycle 39 = .ok (.goto 20, 3) := by decide +kernel
theorem d_R_cycle_42 : decode b_R_cycle 42 = .ok (.aload_n 0, 1) := by decide +kernel
theorem d_R_cycle_43 : decode b_R_cycle 43 = .ok (.getfield 98, 3) := by decide +kernel
theorem d_R_cycle_46 : decode b_R_cycle 46 = .ok (.iconst 3, 1) := by decide +kernel
theorem d_R_cycle_47 : decode b_R_cycle 47 = .ok (.iand, 1) := by decide +kernel
theorem d_R_cycle_48 : decode b_R_cycle 48 = .ok (.iconst 2, 1) := by decide +kernel
theorem d_R_cycle_49 : decode b_R_cycle 49 = .ok (.if_icmp .ne 8, 3) := by decide +kernel
theorem d_R_cycle_52 : decode b_R_cycle 52 = .ok (.bipush 16, 2) := by decide +kernel
theorem d_R_cycle_54 : decode b_R_cycle 54 = .ok (.goto 5, 3) := by decide +kernel
theorem d_R_cycle_57 : decode b_R_cycle 57 = .ok (.bipush 64, 2) := by decide +kernel
theorem d_R_cycle_59 : decode b_R_cycle 59 = .ok (.istore_n 1, 1) := by decide +kernel
theorem d_R_cycle_60 : decode b_R_cycle 60 = .ok (.aload_n 0, 1) := by decide +kernel
theorem d_R_cycle_61 : decode b_R_cycle 61 = .ok (.getfield 98, 3) := by decide +kernel
theorem d_R_cycle_64 : decode b_R_cycle 64 = .ok (.iconst 4, 1) := by decide +kernel
theorem d_R_cycle_65 : decode b_R_cycle 65 = .ok (.iand, 1) := by decide +kernel
theorem d_R_cycle_66 : decode b_R_cycle 66 = .ok (.ifCond .le 53, 3) := by decide +kernel
theorem d_R_cycle_69 : decode b_R_cycle 69 = .ok (.aload_n 0, 1) := by decide +kernel
theorem d_R_cycle_70 : decode b_R_cycle 70 = .ok (.getfield 89, 3) := by decide +kernel
theorem d_R_cycle_73 : decode b_R_cycle 73 = .ok (.iload_n 1, 1) := by decide +kernel
theorem d_R_cycle_74 : decode b_R_cycle 74 = .ok (.irem, 1) := by decide +kernel
theorem d_R_cycle_75 : decode b_R_cycle 75 = .ok (.ifCond .ne 44, 3) := by decide +kernel
theorem d_R_cycle_78 : decode b_R_cycle 78 = .ok (.aload_n 0, 1) := by decide +kernel
theorem d_R_cycle_79 : decode b_R_cycle 79 = .ok (.getfield 92, 3) := by decide +kernel
theorem d_R_cycle_82 : decode b_R_cycle 82 = .ok (.sipush 255, 3) := by decide +kernel
theorem d_R_cycle_85 : decode b_R_cycle 85 = .ok (.if_icmp .ne 24, 3) := by decide +kernel
theorem d_R_cycle_88 : decode b_R_cycle 88 = .ok (.aload_n 0, 1) := by decide +kernel
theorem d_R_cycle_89 : decode b_R_cycle 89 = .ok (.aload_n 0, 1) := by decide +kernel
theorem d_R_cycle_90 : decode b_R_cycle 90 = .ok (.getfield 95, 3) := by decide +kernel
theorem d_R_cycle_93 : decode b_R_cycle 93 = .ok (.putfield 92, 3) := by decide +kernel
theorem d_R_cycle_96 : decode b_R_cycle 96 = .ok (.aload_n 0, 1) := by decide +kernel
theorem d_R_cycle_97 : decode b_R_cycle 97 = .ok (.dup, 1) := by decide +kernel
theorem d_R_cycle_98 : decode b_R_cycle 98 = .ok (.getfield 101, 3) := by decide +kernel
theorem d_R_cycle_101 : decode b_R_cycle 101 = .ok (.iconst 4, 1) := by decide +kernel
theorem d_R_cycle_102 : decode b_R_cycle 102 = .ok (.ior, 1) := by decide +kernel
theorem d_R_cycle_103 : decode b_R_cycle 103 = .ok (.putfield 101, 3) := by decide +kernel
theorem d_R_cycle_106 : decode b_R_cycle 106 = .ok (.goto 13, 3) := by decide +kernel
theorem d_R_cycle_109 : decode b_R_cycle 109 = .ok (.aload_n 0, 1) := by decide +kernel
theorem d_R_cycle_110 : decode b_R_cycle 110 = .ok (.dup, 1) := by decide +kernel
theorem d_R_cycle_111 : decode b_R_cycle 111 = .ok (.getfield 92, 3) := by decide +kernel
theorem d_R_cycle_114 : decode b_R_cycle 114 = .ok (.iconst 1, 1) := by decide +kernel
theorem d_R_cycle_115 : decode b_R_cycle 115 = .ok (.iadd, 1) := by decide +kernel
theorem d_R_cycle_116 : decode b_R_cycle 116 = .ok (.putfield 92, 3) := by decide +kernel
theorem d_R_cycle_119 : decode b_R_cycle 119 = .ok (.aload_n 0, 1) := by decide +kernel
theorem d_R_cycle_120 : decode b_R_cycle 120 = .ok (.getfield 107, 3) := by decide +kernel
theorem d_R_cycle_123 : decode b_R_cycle 123 = .ok (.sipush 128, 3) := by decide +kernel
theorem d_R_cycle_126 : decode b_R_cycle 126 = .ok (.iand, 1) := by decide +kernel
theorem d_R_cycle_127 : decode b_R_cycle 127 = .ok (.ifCond .le 84, 3) := by decide +kernel
theorem d_R_cycle_130 : decode b_R_cycle 130 = .ok (.aload_n 0, 1) := by decide +kernel
theorem d_R_cycle_131 : decode b_R_cycle 131 = .ok (.dup, 1) := by decide +kernel
theorem d_R_cycle_132 : decode b_R_cycle 132 = .ok (.getfield 143, 3) := by decide +kernel
theorem d_R_cycle_135 : decode b_R_cycle 135 = .ok (.iconst 1, 1) := by decide +kernel
theorem d_R_cycle_136 : decode b_R_cycle 136 = .ok (.iadd, 1) := by decide +kernel
theorem d_R_cycle_137 : decode b_R_cycle 137 = .ok (.putfield 143, 3) := by decide +kernel
theorem d_R_cycle_140 : decode b_R_cycle 140 = .ok (.aload_n 0, 1) := by decide +kernel
theorem d_R_cycle_141 : decode b_R_cycle 141 = .ok (.getfield 143, 3) := by decide +kernel
theorem d_R_cycle_144 : decode b_R_cycle 144 = .ok (.bipush 114, 2) := by decide +kernel
theorem d_R_cycle_146 : decode b_R_cycle 146 = .ok (.if_icmp .ne 75, 3) := by decide +kernel
theorem d_R_cycle_149 : decode b_R_cycle 149 = .ok (.aload_n 0, 1) := by decide +kernel
theorem d_R_cycle_150 : decode b_R_cycle 150 = .ok (.iconst 0, 1) := by decide +kernel
theorem d_R_cycle_151 : decode b_R_cycle 151 = .ok (.putfield 143, 3) := by decide +kernel
theorem d_R_cycle_154 : decode b_R_cycle 154 = .ok (.aload_n 0, 1) := by decide +kernel
theorem d_R_cycle_155 : decode b_R_cycle 155 = .ok (.aload_n 0, 1) := by decide +kernel
theorem d_R_cycle_156 : decode b_R_cycle 156 = .ok (.getfield 119, 3) := by decide +kernel
theorem d_R_cycle_159 : decode b_R_cycle 159 = .ok (.sipush 153, 3) := by decide +kernel
theorem d_R_cycle_162 : decode b_R_cycle 162 = .ok (.if_icmp .ne 7, 3) := by decide +kernel
theorem d_R_cycle_165 : decode b_R_cycle 165 = .ok (.iconst 0, 1) := by decide +kernel
theorem d_R_cycle_166 : decode b_R_cycle 166 = .ok (.goto 9, 3) := by decide +kernel
theorem d_R_cycle_169 : decode b_R_cycle 169 = .ok (.aload_n 0, 1) := by decide +kernel
theorem d_R_cycle_170 : decode b_R_cycle 170 = .ok (.getfield 119, 3) := by decide +kernel
theorem d_R_cycle_173 : decode b_R_cycle 173 = .ok (.iconst 1, 1) := by decide +kernel
theorem d_R_cycle_174 : decode b_R_cycle 174 = .ok (.iadd, 1) := by decide +kernel
theorem d_R_cycle_175 : decode b_R_cycle 175 = .ok (.putfield 119, 3) := by decide +kernel
theorem d_R_cycle_178 : decode b_R_cycle 178 = .ok (.aload_n 0, 1) := by decide +kernel
theorem d_R_cycle_179 : decode b_R_cycle 179 = .ok (.getfield 119, 3) := by decide +kernel
theorem d_R_cycle_182 : decode b_R_cycle 182 = .ok (.sipush 144, 3) := by decide +kernel
theorem d_R_cycle_185 : decode b_R_cycle 185 = .ok (.if_icmp .ne 36, 3) := by decide +kernel
theorem d_R_cycle_188 : decode b_R_cycle 188 = .ok (.aload_n 0, 1) := by decide +kernel
theorem d_R_cycle_189 : decode b_R_cycle 189 = .ok (.dup, 1) := by decide +kernel
theorem d_R_cycle_190 : decode b_R_cycle 190 = .ok (.getfield 101, 3) := by decide +kernel
theorem d_R_cycle_193 : decode b_R_cycle 193 = .ok (.iconst 1, 1) := by decide +kernel
theorem d_R_cycle_194 : decode b_R_cycle 194 = .ok (.ior, 1) := by decide +kernel
theorem d_R_cycle_195 : decode b_R_cycle 195 = .ok (.putfield 101, 3) := by decide +kernel
theorem d_R_cycle_198 : decode b_R_cycle 198 = .ok (.aload_n 0, 1) := by decide +kernel
theorem d_R_cycle_199 : decode b_R_cycle 199 = .ok (.dup, 1) := by decide +kernel
theorem d_R_cycle_200 : decode b_R_cycle 200 = .ok (.getfield 158, 3) := by decide +kernel
theorem d_R_cycle_203 : decode b_R_cycle 203 = .ok (.iconst 1, 1) := by decide +kernel
theorem d_R_cycle_204 : decode b_R_cycle 204 = .ok (.iadd, 1) := by decide +kernel
theorem d_R_cycle_205 : decode b_R_cycle 205 = .ok (.putfield 158, 3) := by decide +kernel
theorem d_R_cycle_208 : decode b_R_cycle 208 = .ok (.goto 13, 3) := by decide +kernel
theorem d_R_cycle_211 : decode b_R_cycle 211 = .ok (.aload_n 0, 1) := by decide +kernel
theorem d_R_cycle_212 : decode b_R_cycle 212 = .ok (.iconst 0, 1) := by decide +kernel
theorem d_R_cycle_213 : decode b_R_cycle 213 = .ok (.putfield 143, 3) := by decide +kernel
theorem d_R_cycle_216 : decode b_R_cycle 216 = .ok (.aload_n 0, 1) := by decide +kernel
theorem d_R_cycle_217 : decode b_R_cycle 217 = .ok (.iconst 0, 1) := by decide +kernel
theorem d_R_cycle_218 : decode b_R_cycle 218 = .ok (.putfield 119, 3) := by decide +kernel
theorem d_R_cycle_221 : decode b_R_cycle 221 = .ok (.aload_n 0, 1) := by decide +kernel
theorem d_R_cycle_222 : decode b_R_cycle 222 = .ok (.invokevirtual 296, 3) := by decide +kernel
theorem d_R_cycle_225 : decode b_R_cycle 225 = .ok (.istore_n 2, 1) := by decide +kernel
theorem d_R_cycle_226 : decode b_R_cycle 226 = .ok (.iload_n 2, 1) := by decide +kernel
theorem d_R_cycle_227 : decode b_R_cycle 227 = .ok (.ifCond .eq 20, 3) := by decide +kernel
theorem d_R_cycle_230 : decode b_R_cycle 230 = .ok (.aload_n 0, 1) := by decide +kernel
theorem d_R_cycle_231 : decode b_R_cycle 231 = .ok (.getfield 146, 3) := by decide +kernel
theorem d_R_cycle_234 : decode b_R_cycle 234 = .ok (.ifCond .ne 13, 3) := by decide +kernel
theorem d_R_cycle_237 : decode b_R_cycle 237 = .ok (.aload_n 0, 1) := by decide +kernel
theorem d_R_cycle_238 : decode b_R_cycle 238 = .ok (.dup, 1) := by decide +kernel
theorem d_R_cycle_239 : decode b_R_cycle 239 = .ok (.getfield 101, 3) := by decide +kernel
theorem d_R_cycle_242 : decode b_R_cycle 242 = .ok (.iconst 2, 1) := by decide +kernel
theorem d_R_cycle_243 : decode b_R_cycle 243 = .ok (.ior, 1) := by decide +kernel
theorem d_R_cycle_244 : decode b_R_cycle 244 = .ok (.putfield 101, 3) := by decide +kernel
theorem d_R_cycle_247 : decode b_R_cycle 247 = .ok (.aload_n 0, 1) := by decide +kernel
theorem d_R_cycle_248 : decode b_R_cycle 248 = .ok (.iload_n 2, 1) := by decide +kernel
theorem d_R_cycle_249 : decode b_R_cycle 249 = .ok (.putfield 146, 3) := by decide +kernel
theorem d_R_cycle_252 : decode b_R_cycle 252 = .ok (.aload_n 0, 1) := by decide +kernel
theorem d_R_cycle_253 : decode b_R_cycle 253 = .ok (.dup, 1) := by decide +kernel
theorem d_R_cycle_254 : decode b_R_cycle 254 = .ok (.getfield 149, 3) := by decide +kernel
theorem d_R_cycle_257 : decode b_R_cycle 257 = .ok (.iconst 1, 1) := by decide +kernel
theorem d_R_cycle_258 : decode b_R_cycle 258 = .ok (.iadd, 1) := by decide +kernel
theorem d_R_cycle_259 : decode b_R_cycle 259 = .ok (.putfield 149, 3) := by decide +kernel
theorem d_R_cycle_262 : decode b_R_cycle 262 = .ok (.return_, 1) := by decide +kernel
theorem d_R_rom_0 : decode b_R_rom 0 = .ok (.aload_n 0, 1) := by decide +kernel
theorem d_R_rom_1 : decode b_R_rom 1 = .ok (.iconst 0, 1) := by decide +kernel
theorem d_R_rom_2 : decode b_R_rom 2 = .ok (.putfield 37, 3) := by decide +kernel
theorem d_R_rom_5 : decode b_R_rom 5 = .ok (.aload_n 0, 1) := by decide +kernel
theorem d_R_rom_6 : decode b_R_rom 6 = .ok (.iload_n 3, 1) := by decide +kernel
theorem d_R_rom_7 : decode b_R_rom 7 = .ok (.iconst 1, 1) := by decide +kernel
theorem d_R_rom_8 : decode b_R_rom 8 = .ok (.bipush 8, 2) := by decide +kernel
theorem d_R_rom_10 : decode b_R_rom 10 = .ok (.invokestatic 299, 3) := by decide +kernel
theorem d_R_rom_13 : decode b_R_rom 13 = .ok (.ifCond .eq 13, 3) := by decide +kernel
theorem d_R_rom_16 : decode b_R_rom 16 = .ok (.iload_n 1, 1) := by decide +kernel
theorem d_R_rom_17 : decode b_R_rom 17 = .ok (.iconst 0, 1) := by decide +kernel
theorem d_R_rom_18 : decode b_R_rom 18 = .ok (.bipush 7, 2) := by decide +kernel
theorem d_R_rom_20 : decode b_R_rom 20 = .ok (.invokestatic 299, 3) := by decide +kernel
theorem d_R_rom_23 : decode b_R_rom 23 = .ok (.ifCond .ne 7, 3) := by decide +kernel
theorem d_R_rom_26 : decode b_R_rom 26 = .ok (.iconst 1, 1) := by decide +kernel
theorem d_R_rom_27 : decode b_R_rom 27 = .ok (.goto 4, 3) := by decide +kernel
theorem d_R_rom_30 : decode b_R_rom 30 = .ok (.iconst 0, 1) := by decide +kernel
theorem d_R_rom_31 : decode b_R_rom 31 = .ok (.iconst 1, 1) := by decide +kernel
theorem d_R_rom_32 : decode b_R_rom 32 = .ok (.invokevirtual 303, 3) := by decide +kernel
theorem d_R_rom_35 : decode b_R_rom 35 = .ok (.ifCond .ne 29, 3) := by decide +kernel
theorem d_R_rom_38 : decode b_R_rom 38 = .ok (.aload_n 0, 1) := by decide +kernel
theorem d_R_rom_39 : decode b_R_rom 39 = .ok (.iload_n 2, 1) := by decide +kernel
theorem d_R_rom_40 : decode b_R_rom 40 = .ok (.iconst 0, 1) := by decide +kernel
theorem d_R_rom_41 : decode b_R_rom 41 = .ok (.sipush 1024, 3) := by decide +kernel
theorem d_R_rom_44 : decode b_R_rom 44 = .ok (.iload_n 3, 1) := by decide +kernel
theorem d_R_rom_45 : decode b_R_rom 45 = .ok (.isub, 1) := by decide +kernel
theorem d_R_rom_46 : decode b_R_rom 46 = .ok (.invokestatic 299, 3) := by decide +kernel
theorem d_R_rom_49 : decode b_R_rom 49 = .ok (.ifCond .ne 7, 3) := by decide +kernel
theorem d_R_rom_52 : decode b_R_rom 52 = .ok (.iconst 1, 1) := by decide +kernel
theorem d_R_rom_53 : decode b_R_rom 53 = .ok (.goto 4, 3) := by decide +kernel
theorem d_R_rom_56 : decode b_R_rom 56 = .ok (.iconst 0, 1) := by decide +kernel
theorem d_R_rom_57 : decode b_R_rom 57 = .ok (.iconst 2, 1) := by decide +kernel
theorem d_R_rom_58 : decode b_R_rom 58 = .ok (.invokevirtual 303, 3) := by decide +kernel
theorem d_R_rom_61 : decode b_R_rom 61 = .ok (.ifCond .eq 5, 3) := by decide +kernel
theorem d_R_rom_64 : decode b_R_rom 64 = .ok (.iconst 0, 1) := by decide +kernel
theorem d_R_rom_65 : decode b_R_rom 65 = .ok (.ireturn, 1) := by decide +kernel
theorem d_R_rom_66 : decode b_R_rom 66 = .ok (.iconst 0, 1) := by decide +kernel
theorem d_R_rom_67 : decode b_R_rom 67 = .ok (.istore 6, 2) := by decide +kernel
theorem d_R_rom_69 : decode b_R_rom 69 = .ok (.iload 6, 2) := by decide +kernel
theorem d_R_rom_71 : decode b_R_rom 71 = .ok (.iload_n 3, 1) := by decide +kernel
theorem d_R_rom_72 : decode b_R_rom 72 = .ok (.if_icmp .ge 37, 3) := by decide +kernel
theorem d_R_rom_75 : decode b_R_rom 75 = .ok (.aload_n 0, 1) := by decide +kernel
theorem d_R_rom_76 : decode b_R_rom 76 = .ok (.getfield 7, 3) := by decide +kernel
theorem d_R_rom_79 : decode b_R_rom 79 = .ok (.sipush 1024, 3) := by decide +kernel
theorem d_R_rom_82 : decode b_R_rom 82 = .ok (.iload_n 1, 1) := by decide +kernel
theorem d_R_rom_83 : decode b_R_rom 83 = .ok (.imul, 1) := by decide +kernel
theorem d_R_rom_84 : decode b_R_rom 84 = .ok (.iload_n 2, 1) := by decide +kernel
theorem d_R_rom_85 : decode b_R_rom 85 = .ok (.iadd, 1) := by decide +kernel
theorem d_R_rom_86 : decode b_R_rom 86 = .ok (.iload 6, 2) := by decide +kernel
theorem d_R_rom_88 : decode b_R_rom 88 = .ok (.iadd, 1) := by decide +kernel
theorem d_R_rom_89 : decode b_R_rom 89 = .ok (.lload 4, 2) := by decide +kernel
theorem d_R_rom_91 : decode b_R_rom 91 = .ok (.bipush 8, 2) := by decide +kernel
theorem d_R_rom_93 : decode b_R_rom 93 = .ok (.iload 6, 2) := by decide +kernel
theorem d_R_rom_95 : decode b_R_rom 95 = .ok (.imul, 1) := by decide +kernel
theorem d_R_rom_96 : decode b_R_rom 96 = .ok (.lushr, 1) := by decide +kernel
theorem d_R_rom_97 : decode b_R_rom 97 = .ok (.ldc2_w 307, 3) := by decide +kernel
theorem d_R_rom_100 : decode b_R_rom 100 = .ok (.land, 1) := by decide +kernel
theorem d_R_rom_101 : decode b_R_rom 101 = .ok (.l2i, 1) := by decide +kernel
theorem d_R_rom_102 : decode b_R_rom 102 = .ok (.iastore, 1) := by decide +kernel
theorem d_R_rom_103 : decode b_R_rom 103 = .ok (.iinc 6 1, 3) := by decide +kernel
theorem d_R_rom_106 : decode b_R_rom 106 = .ok (.goto (-37), 3) := by decide +kernel
theorem d_R_rom_109 : decode b_R_rom 109 = .ok (.iload_n 3, 1) := by decide +kernel
theorem d_R_rom_110 : decode b_R_rom 110 = .ok (.ireturn, 1) := by decide +kernel
theorem d_R_insert_0 : decode b_R_insert 0 = .ok (.aload_n 0, 1) := by decide +kernel
theorem d_R_insert_1 : decode b_R_insert 1 = .ok (.iconst 0, 1) := by decide +kernel
theorem d_R_insert_2 : decode b_R_insert 2 = .ok (.putfield 37, 3) := by decide +kernel
theorem d_R_insert_5 : decode b_R_insert 5 = .ok (.iconst 0, 1) := by decide +kernel
theorem d_R_insert_6 : decode b_R_insert 6 = .ok (.istore_n 2, 1) := by decide +kernel
theorem d_R_insert_7 : decode b_R_insert 7 = .ok (.sipush 308, 3) := by decide +kernel
theorem d_R_insert_10 : decode b_R_insert 10 = .ok (.istore_n 3, 1) := by decide +kernel
theorem d_R_insert_11 : decode b_R_insert 11 = .ok (.iload_n 3, 1) := by decide +kernel
theorem d_R_insert_12 : decode b_R_insert 12 = .ok (.sipush 333, 3) := by decide +kernel
theorem d_R_insert_15 : decode b_R_insert 15 = .ok (.if_icmp .ge 20, 3) := by decide +kernel
theorem d_R_insert_18 : decode b_R_insert 18 = .ok (.iload_n 2, 1) := by decide +kernel
theorem d_R_insert_19 : decode b_R_insert 19 = .ok (.aload_n 0, 1) := by decide +kernel
theorem d_R_insert_20 : decode b_R_insert 20 = .ok (.getfield 7, 3) := by decide +kernel
theorem d_R_insert_23 : decode b_R_insert 23 = .ok (.iload_n 3, 1) := by decide +kernel
theorem d_R_insert_24 : decode b_R_insert 24 = .ok (.iaload, 1) := by decide +kernel
theorem d_R_insert_25 : decode b_R_insert 25 = .ok (.isub, 1) := by decide +kernel
theorem d_R_insert_26 : decode b_R_insert 26 = .ok (.iconst 1, 1) := by decide +kernel
theorem d_R_insert_27 : decode b_R_insert 27 = .ok (.isub, 1) := by decide +kernel
theorem d_R_insert_28 : decode b_R_insert 28 = .ok (.istore_n 2, 1) := by decide +kernel
theorem d_R_insert_29 : decode b_R_insert 29 = .ok (.iinc 3 1, 3) := by decide +kernel
theorem d_R_insert_32 : decode b_R_insert 32 = .ok (.goto (-21), 3) := by decide +kernel
theorem d_R_insert_35 : decode b_R_insert 35 = .ok (.aload_n 0, 1) := by decide +kernel
theorem d_R_insert_36 : decode b_R_insert 36 = .ok (.iload_n 1, 1) := by decide +kernel
theorem d_R_insert_37 : decode b_R_insert 37 = .ok (.iconst 0, 1) := by decide +kernel
theorem d_R_insert_38 : decode b_R_insert 38 = .ok (.iconst 3, 1) := by decide +kernel
theorem d_R_insert_39 : decode b_R_insert 39 = .ok (.invokestatic 299, 3) := by decide +kernel
theorem d_R_insert_42 : decode b_R_insert 42 = .ok (.ifCond .ne 7, 3) := by decide +kernel
theorem d_R_insert_45 : decode b_R_insert 45 = .ok (.iconst 1, 1) := by decide +kernel
theorem d_R_insert_46 : decode b_R_insert 46 = .ok (.goto 4, 3) := by decide +kernel
theorem d_R_insert_49 : decode b_R_insert 49 = .ok (.iconst 0, 1) := by decide +kernel
theorem d_R_insert_50 : decode b_R_insert 50 = .ok (.iconst 1, 1) := by decide +kernel
theorem d_R_insert_51 : decode b_R_insert 51 = .ok (.invokevirtual 303, 3) := by decide +kernel
theorem d_R_insert_54 : decode b_R_insert 54 = .ok (.ifCond .ne 32, 3) := by decide +kernel
theorem d_R_insert_57 : decode b_R_insert 57 = .ok (.aload_n 0, 1) := by decide +kernel
theorem d_R_insert_58 : decode b_R_insert 58 = .ok (.iload_n 2, 1) := by decide +kernel
theorem d_R_insert_59 : decode b_R_insert 59 = .ok (.sipush 255, 3) := by decide +kernel
theorem d_R_insert_62 : decode b_R_insert 62 = .ok (.iand, 1) := by decide +kernel
theorem d_R_insert_63 : decode b_R_insert 63 = .ok (.aload_n 0, 1) := by decide +kernel
theorem d_R_insert_64 : decode b_R_insert 64 = .ok (.getfield 7, 3) := by decide +kernel
theorem d_R_insert_67 : decode b_R_insert 67 = .ok (.sipush 333, 3) := by decide +kernel
theorem d_R_insert_70 : decode b_R_insert 70 = .ok (.iaload, 1) := by decide +kernel
theorem d_R_insert_71 : decode b_R_insert 71 = .ok (.if_icmp .eq 7, 3) := by decide +kernel
theorem d_R_insert_74 : decode b_R_insert 74 = .ok (.iconst 1, 1) := by decide +kernel
theorem d_R_insert_75 : decode b_R_insert 75 = .ok (.goto 4, 3) := by decide +kernel
theorem d_R_insert_78 : decode b_R_insert 78 = .ok (.iconst 0, 1) := by decide +kernel
theorem d_R_insert_79 : decode b_R_insert 79 = .ok (.iconst 2, 1) := by decide +kernel
theorem d_R_insert_80 : decode b_R_insert 80 = .ok (.invokevirtual 303, 3) := by decide +kernel
theorem d_R_insert_83 : decode b_R_insert 83 = .ok (.ifCond .eq 5, 3) := by decide +kernel
theorem d_R_insert_86 : decode b_R_insert 86 = .ok (.iconst 0, 1) := by decide +kernel
theorem d_R_insert_87 : decode b_R_insert 87 = .ok (.ireturn, 1) := by decide +kernel
theorem d_R_insert_88 : decode b_R_insert 88 = .ok (.aload_n 0, 1) := by decide +kernel
theorem d_R_insert_89 : decode b_R_insert 89 = .ok (.iconst 1, 1) := by decide +kernel
theorem d_R_insert_90 : decode b_R_insert 90 = .ok (.putfield 161, 3) := by decide +kernel
theorem d_R_insert_93 : decode b_R_insert 93 = .ok (.aload_n 0, 1) := by decide +kernel
theorem d_R_insert_94 : decode b_R_insert 94 = .ok (.iload_n 1, 1) := by decide +kernel
theorem d_R_insert_95 : decode b_R_insert 95 = .ok (.putfield 164, 3) := by decide +kernel
theorem d_R_insert_98 : decode b_R_insert 98 = .ok (.aload_n 0, 1) := by decide +kernel
theorem d_R_insert_99 : decode b_R_insert 99 = .ok (.invokevirtual 34, 3) := by decide +kernel
theorem d_R_insert_102 : decode b_R_insert 102 = .ok (.iconst 1, 1) := by decide +kernel
theorem d_R_insert_103 : decode b_R_insert 103 = .ok (.ireturn, 1) := by decide +kernel
theorem d_R_run_0 : decode b_R_run 0 = .ok (.aload_n 0, 1) := by decide +kernel
theorem d_R_run_1 : decode b_R_run 1 = .ok (.iconst 0, 1) := by decide +kernel
theorem d_R_run_2 : decode b_R_run 2 = .ok (.putfield 37, 3) := by decide +kernel
theorem d_R_run_5 : decode b_R_run 5 = .ok (.aload_n 0, 1) := by decide +kernel
theorem d_R_run_6 : decode b_R_run 6 = .ok (.iload_n 1, 1) := by decide +kernel
theorem d_R_run_7 : decode b_R_run 7 = .ok (.iconst 1, 1) := by decide +kernel
theorem d_R_run_8 : decode b_R_run 8 = .ok (.bipush 100, 2) := by decide +kernel
theorem d_R_run_10 : decode b_R_run 10 = .ok (.invokestatic 299, 3) := by decide +kernel
theorem d_R_run_13 : decode b_R_run 13 = .ok (.ifCond .ne 7, 3) := by decide +kernel
theorem d_R_run_16 : decode b_R_run 16 = .ok (.iconst 1, 1) := by decide +kernel
theorem d_R_run_17 : decode b_R_run 17 = .ok (.goto 4, 3) := by decide +kernel
theorem d_R_run_20 : decode b_R_run 20 = .ok (.iconst 0, 1) := by decide +kernel
theorem d_R_run_21 : decode b_R_run 21 = .ok (.iconst 1, 1) := by decide +kernel
theorem d_R_run_22 : decode b_R_run 22 = .ok (.invokevirtual 303, 3) := by decide +kernel
theorem d_R_run_25 : decode b_R_run 25 = .ok (.ifCond .ne 35, 3) := by decide +kernel
theorem d_R_run_28 : decode b_R_run 28 = .ok (.aload_n 0, 1) := by decide +kernel
theorem d_R_run_29 : decode b_R_run 29 = .ok (.aload_n 0, 1) := by decide +kernel
theorem d_R_run_30 : decode b_R_run 30 = .ok (.getfield 161, 3) := by decide +kernel
theorem d_R_run_33 : decode b_R_run 33 = .ok (.ifCond .ne 7, 3) := by decide +kernel
theorem d_R_run_36 : decode b_R_run 36 = .ok (.iconst 1, 1) := by decide +kernel
theorem d_R_run_37 : decode b_R_run 37 = .ok (.goto 4, 3) := by decide +kernel
theorem d_R_run_40 : decode b_R_run 40 = .ok (.iconst 0, 1) := by decide +kernel
theorem d_R_run_41 : decode b_R_run 41 = .ok (.iconst 2, 1) := by decide +kernel
theorem d_R_run_42 : decode b_R_run 42 = .ok (.invokevirtual 303, 3) := by decide +kernel
theorem d_R_run_45 : decode b_R_run 45 = .ok (.ifCond .ne 15, 3) := by decide +kernel
theorem d_R_run_48 : decode b_R_run 48 = .ok (.aload_n 0, 1) := by decide +kernel
theorem d_R_run_49 : decode b_R_run 49 = .ok (.aload_n 0, 1) := by decide +kernel
theorem d_R_run_50 : decode b_R_run 50 = .ok (.getfield 80, 3) := by decide +kernel
theorem d_R_run_53 : decode b_R_run 53 = .ok (.iconst 3, 1) := by decide +kernel
theorem d_R_run_54 : decode b_R_run 54 = .ok (.invokevirtual 303, 3) := by decide +kernel
theorem d_R_run_57 : decode b_R_run 57 = .ok (.ifCond .eq 5, 3) := by decide +kernel
theorem d_R_run_60 : decode b_R_run 60 = .ok (.iconst 0, 1) := by decide +kernel
theorem d_R_run_61 : decode b_R_run 61 = .ok (.ireturn, 1) := by decide +kernel
theorem d_R_run_62 : decode b_R_run 62 = .ok (.iconst 0, 1) := by decide +kernel
theorem d_R_run_63 : decode b_R_run 63 = .ok (.istore_n 2, 1) := by decide +kernel
theorem d_R_run_64 : decode b_R_run 64 = .ok (.iconst 0, 1) := by decide +kernel
theorem d_R_run_65 : decode b_R_run 65 = .ok (.istore_n 3, 1) := by decide +kernel
theorem d_R_run_66 : decode b_R_run 66 = .ok (.iload_n 3, 1) := by decide +kernel
theorem d_R_run_67 : decode b_R_run 67 = .ok (.iload_n 1, 1) := by decide +kernel
theorem d_R_run_68 : decode b_R_run 68 = .ok (.if_icmp .ge 64, 3) := by decide +kernel
theorem d_R_run_71 : decode b_R_run 71 = .ok (.aload_n 0, 1) := by decide +kernel
theorem d_R_run_72 : decode b_R_run 72 = .ok (.invokevirtual 309, 3) := by decide +kernel
theorem d_R_run_75 : decode b_R_run 75 = .ok (.istore 4, 2) := by decide +kernel
theorem d_R_run_77 : decode b_R_run 77 = .ok (.aload_n 0, 1) := by decide +kernel
theorem d_R_run_78 : decode b_R_run 78 = .ok (.iload 4, 2) := by decide +kernel
theorem d_R_run_80 : decode b_R_run 80 = .ok (.ifCond .ne 7, 3) := by decide +kernel
theorem d_R_run_83 : decode b_R_run 83 = .ok (.iconst 1, 1) := by decide +kernel
theorem d_R_run_84 : decode b_R_run 84 = .ok (.goto 4, 3) := by decide +kernel
theorem d_R_run_87 : decode b_R_run 87 = .ok (.iconst 0, 1) := by decide +kernel
theorem d_R_run_88 : decode b_R_run 88 = .ok (.iconst 3, 1) := by decide +kernel
theorem d_R_run_89 : decode b_R_run 89 = .ok (.invokevirtual 303, 3) := by decide +kernel
theorem d_R_run_92 : decode b_R_run 92 = .ok (.ifCond .eq 5, 3) := by decide +kernel
theorem d_R_run_95 : decode b_R_run 95 = .ok (.iconst 0, 1) := by decide +kernel
theorem d_R_run_96 : decode b_R_run 96 = .ok (.ireturn, 1) := by decide +kernel
theorem d_R_run_97 : decode b_R_run 97 = .ok (.iconst 0, 1) := by decide +kernel
theorem d_R_run_98 : decode b_R_run 98 = .ok (.istore 5, 2) := by decide +kernel
theorem d_R_run_100 : decode b_R_run 100 = .ok (.iload 5, 2) := by decide +kernel
theorem d_R_run_102 : decode b_R_run 102 = .ok (.aload_n 0, 1) := by decide +kernel
theorem d_R_run_103 : decode b_R_run 103 = .ok (.getfield 209, 3) := by decide +kernel
theorem d_R_run_106 : decode b_R_run 106 = .ok (.if_icmp .ge 13, 3) := by decide +kernel
theorem d_R_run_109 : decode b_R_run 109 = .ok (.aload_n 0, 1) := by decide +kernel
theorem d_R_run_110 : decode b_R_run 110 = .ok (.invokevirtual 312, 3) := by decide +kernel
theorem d_R_run_113 : decode b_R_run 113 = .ok (.iinc 5 1, 3) := by decide +kernel
theorem d_R_run_116 : decode b_R_run 116 = .ok (.goto (-16), 3) := by decide +kernel
theorem d_R_run_119 : decode b_R_run 119 = .ok (.iload_n 2, 1) := by decide +kernel
theorem d_R_run_120 : decode b_R_run 120 = .ok (.aload_n 0, 1) := by decide +kernel
theorem d_R_run_121 : decode b_R_run 121 = .ok (.getfield 209, 3) := by decide +kernel
theorem d_R_run_124 : decode b_R_run 124 = .ok (.iadd, 1) := by decide +kernel
theorem d_R_run_125 : decode b_R_run 125 = .ok (.istore_n 2, 1) := by decide +kernel
theorem d_R_run_126 : decode b_R_run 126 = .ok (.iinc 3 1, 3) := by decide +kernel
theorem d_R_run_129 : decode b_R_run 129 = .ok (.goto (-63), 3) := by decide +kernel
theorem d_R_run_132 : decode b_R_run 132 = .ok (.iload_n 2, 1) := by decide +kernel
theorem d_R_run_133 : decode b_R_run 133 = .ok (.ireturn, 1) := by decide +kernel
theorem d_R_registerAt_0 : decode b_R_registerAt 0 = .ok (.iload_n 1, 1) := by decide +kernel
theorem d_R_registerAt_1 : decode b_R_registerAt 1 = .ok (.ifCond .ne 13, 3) := by decide +kernel
theorem d_R_registerAt_4 : decode b_R_registerAt 4 = .ok (.aload_n 0, 1) := by decide +kernel
theorem d_R_registerAt_5 : decode b_R_registerAt 5 = .ok (.getfield 31, 3) := by decide +kernel
theorem d_R_registerAt_8 : decode b_R_registerAt 8 = .ok (.bipush 7, 2) := by decide +kernel
theorem d_R_registerAt_10 : decode b_R_registerAt 10 = .ok (.iaload, 1) := by decide +kernel
theorem d_R_registerAt_11 : decode b_R_registerAt 11 = .ok (.goto 52, 3) := by decide +kernel
theorem d_R_registerAt_14 : decode b_R_registerAt 14 = .ok (.iload_n 1, 1) := by decide +kernel
theorem d_R_registerAt_15 : decode b_R_registerAt 15 = .ok (.iconst 1, 1) := by decide +kernel
theorem d_R_registerAt_16 : decode b_R_registerAt 16 = .ok (.if_icmp .ne 13, 3) := by decide +kernel
theorem d_R_registerAt_19 : decode b_R_registerAt 19 = .ok (.aload_n 0, 1) := by decide +kernel
theorem d_R_registerAt_20 : decode b_R_registerAt 20 = .ok (.getfield 31, 3) := by decide +kernel
theorem d_R_registerAt_23 : decode b_R_registerAt 23 = .ok (.bipush 6, 2) := by decide +kernel
theorem d_R_registerAt_25 : decode b_R_registerAt 25 = .ok (.iaload, 1) := by decide +kernel
theorem d_R_registerAt_26 : decode b_R_registerAt 26 = .ok (.goto 37, 3) := by decide +kernel
theorem d_R_registerAt_29 : decode b_R_registerAt 29 = .ok (.iload_n 1, 1) := by decide +kernel
theorem d_R_registerAt_30 : decode b_R_registerAt 30 = .ok (.bipush 8, 2) := by decide +kernel
theorem d_R_registerAt_32 : decode b_R_registerAt 32 = .ok (.if_icmp .ge 14, 3) := by decide +kernel
theorem d_R_registerAt_35 : decode b_R_registerAt 35 = .ok (.aload_n 0, 1) := by decide +kernel
theorem d_R_registerAt_36 : decode b_R_registerAt 36 = .ok (.getfield 31, 3) := by decide +kernel
theorem d_R_registerAt_39 : decode b_R_registerAt 39 = .ok (.iload_n 1, 1) := by decide +kernel
theorem d_R_registerAt_40 : decode b_R_registerAt 40 = .ok (.iconst 2, 1) := by decide +kernel
theorem d_R_registerAt_41 : decode b_R_registerAt 41 = .ok (.isub, 1) := by decide +kernel
theorem d_R_registerAt_42 : decode b_R_registerAt 42 = .ok (.iaload, 1) := by decide +kernel
theorem d_R_registerAt_43 : decode b_R_registerAt 43 = .ok (.goto 20, 3) := by decide +kernel
theorem d_R_registerAt_46 : decode b_R_registerAt 46 = .ok (.iload_n 1, 1) := by decide +kernel
theorem d_R_registerAt_47 : decode b_R_registerAt 47 = .ok (.bipush 8, 2) := by decide +kernel
theorem d_R_registerAt_49 : decode b_R_registerAt 49 = .ok (.if_icmp .ne 10, 3) := by decide +kernel
theorem d_R_registerAt_52 : decode b_R_registerAt 52 = .ok (.aload_n 0, 1) := by decide +kernel
theorem d_R_registerAt_53 : decode b_R_registerAt 53 = .ok (.getfield 68, 3) := by decide +kernel
theorem d_R_registerAt_56 : decode b_R_registerAt 56 = .ok (.goto 7, 3) := by decide +kernel
theorem d_R_registerAt_59 : decode b_R_registerAt 59 = .ok (.aload_n 0, 1) := by decide +kernel
theorem d_R_registerAt_60 : decode b_R_registerAt 60 = .ok (.getfield 71, 3) := by decide +kernel
theorem d_R_registerAt_63 : decode b_R_registerAt 63 = .ok (.ireturn, 1) := by decide +kernel
theorem d_R_set_0 : decode b_R_set 0 = .ok (.aload_n 0, 1) := by decide +kernel
theorem d_R_set_1 : decode b_R_set 1 = .ok (.iconst 0, 1) := by decide +kernel
theorem d_R_set_2 : decode b_R_set 2 = .ok (.putfield 37, 3) := by decide +kernel
theorem d_R_set_5 : decode b_R_set 5 = .ok (.aload_n 0, 1) := by decide +kernel
theorem d_R_set_6 : decode b_R_set 6 = .ok (.iload_n 1, 1) := by decide +kernel
theorem d_R_set_7 : decode b_R_set 7 = .ok (.iconst 0, 1) := by decide +kernel
theorem d_R_set_8 : decode b_R_set 8 = .ok (.bipush 9, 2) := by decide +kernel
theorem d_R_set_10 : decode b_R_set 10 = .ok (.invokestatic 299, 3) := by decide +kernel
theorem d_R_set_13 : decode b_R_set 13 = .ok (.ifCond .ne 7, 3) := by decide +kernel
theorem d_R_set_16 : decode b_R_set 16 = .ok (.iconst 1, 1) := by decide +kernel
theorem d_R_set_17 : decode b_R_set 17 = .ok (.goto 4, 3) := by decide +kernel
theorem d_R_set_20 : decode b_R_set 20 = .ok (.iconst 0, 1) := by decide +kernel
theorem d_R_set_21 : decode b_R_set 21 = .ok (.iconst 1, 1) := by decide +kernel
theorem d_R_set_22 : decode b_R_set 22 = .ok (.invokevirtual 303, 3) := by decide +kernel
theorem d_R_set_25 : decode b_R_set 25 = .ok (.ifCond .eq 5, 3) := by decide +kernel
theorem d_R_set_28 : decode b_R_set 28 = .ok (.iconst 0, 1) := by decide +kernel
theorem d_R_set_29 : decode b_R_set 29 = .ok (.ireturn, 1) := by decide +kernel
theorem d_R_set_30 : decode b_R_set 30 = .ok (.aload_n 0, 1) := by decide +kernel
theorem d_R_set_31 : decode b_R_set 31 = .ok (.iload_n 1, 1) := by decide +kernel
theorem d_R_set_32 : decode b_R_set 32 = .ok (.invokevirtual 315, 3) := by decide +kernel
theorem d_R_set_35 : decode b_R_set 35 = .ok (.istore_n 3, 1) := by decide +kernel
theorem d_R_set_36 : decode b_R_set 36 = .ok (.iload_n 1, 1) := by decide +kernel
theorem d_R_set_37 : decode b_R_set 37 = .ok (.ifCond .ne 18, 3) := by decide +kernel
theorem d_R_set_40 : decode b_R_set 40 = .ok (.aload_n 0, 1) := by decide +kernel
theorem d_R_set_41 : decode b_R_set 41 = .ok (.getfield 31, 3) := by decide +kernel
theorem d_R_set_44 : decode b_R_set 44 = .ok (.bipush 7, 2) := by decide +kernel
theorem d_R_set_46 : decode b_R_set 46 = .ok (.iload_n 2, 1) := by decide +kernel
theorem d_R_set_47 : decode b_R_set 47 = .ok (.sipush 255, 3) := by decide +kernel
theorem d_R_set_50 : decode b_R_set 50 = .ok (.iand, 1) := by decide +kernel
theorem d_R_set_51 : decode b_R_set 51 = .ok (.iastore, 1) := by decide +kernel
theorem d_R_set_52 : decode b_R_set 52 = .ok (.goto 70, 3) := by decide +kernel
theorem d_R_set_55 : decode b_R_set 55 = .ok (.iload_n 1, 1) := by decide +kernel
theorem d_R_set_56 : decode b_R_set 56 = .ok (.iconst 1, 1) := by decide +kernel
theorem d_R_set_57 : decode b_R_set 57 = .ok (.if_icmp .ne 18, 3) := by decide +kernel
theorem d_R_set_60 : decode b_R_set 60 = .ok (.aload_n 0, 1) := by decide +kernel
theorem d_R_set_61 : decode b_R_set 61 = .ok (.getfield 31, 3) := by decide +kernel
theorem d_R_set_64 : decode b_R_set 64 = .ok (.bipush 6, 2) := by decide +kernel
theorem d_R_set_66 : decode b_R_set 66 = .ok (.iload_n 2, 1) := by decide +kernel
theorem d_R_set_67 : decode b_R_set 67 = .ok (.sipush 240, 3) := by decide +kernel
theorem d_R_set_70 : decode b_R_set 70 = .ok (.iand, 1) := by decide +kernel
theorem d_R_set_71 : decode b_R_set 71 = .ok (.iastore, 1) := by decide +kernel
theorem d_R_set_72 : decode b_R_set 72 = .ok (.goto 50, 3) := by decide +kernel
theorem d_R_set_75 : decode b_R_set 75 = .ok (.iload_n 1, 1) := by decide +kernel
theorem d_R_set_76 : decode b_R_set 76 = .ok (.bipush 8, 2) := by decide +kernel
theorem d_R_set_78 : decode b_R_set 78 = .ok (.if_icmp .ge 19, 3) := by decide +kernel
theorem d_R_set_81 : decode b_R_set 81 = .ok (.aload_n 0, 1) := by decide +kernel
theorem d_R_set_82 : decode b_R_set 82 = .ok (.getfield 31, 3) := by decide +kernel
theorem d_R_set_85 : decode b_R_set 85 = .ok (.iload_n 1, 1) := by decide +kernel
theorem d_R_set_86 : decode b_R_set 86 = .ok (.iconst 2, 1) := by decide +kernel
theorem d_R_set_87 : decode b_R_set 87 = .ok (.isub, 1) := by decide +kernel
theorem d_R_set_88 : decode b_R_set 88 = .ok (.iload_n 2, 1) := by decide +kernel
theorem d_R_set_89 : decode b_R_set 89 = .ok (.sipush 255, 3) := by decide +kernel
theorem d_R_set_92 : decode b_R_set 92 = .ok (.iand, 1) := by decide +kernel
theorem d_R_set_93 : decode b_R_set 93 = .ok (.iastore, 1) := by decide +kernel
theorem d_R_set_94 : decode b_R_set 94 = .ok (.goto 28, 3) := by decide +kernel
theorem d_R_set_97 : decode b_R_set 97 = .ok (.iload_n 1, 1) := by decide +kernel
theorem d_R_set_98 : decode b_R_set 98 = .ok (.bipush 8, 2) := by decide +kernel
theorem d_R_set_100 : decode b_R_set 100 = .ok (.if_icmp .ne 14, 3) := by decide +kernel
theorem d_R_set_103 : decode b_R_set 103 = .ok (.aload_n 0, 1) := by decide +kernel
theorem d_R_set_104 : decode b_R_set 104 = .ok (.iload_n 2, 1) := by decide +kernel
theorem d_R_set_105 : decode b_R_set 105 = .ok (.ldc 194, 2) := by decide +kernel
theorem d_R_set_107 : decode b_R_set 107 = .ok (.iand, 1) := by decide +kernel
theorem d_R_set_108 : decode b_R_set 108 = .ok (.putfield 68, 3) := by decide +kernel
theorem d_R_set_111 : decode b_R_set 111 = .ok (.goto 11, 3) := by decide +kernel
theorem d_R_set_114 : decode b_R_set 114 = .ok (.aload_n 0, 1) := by decide +kernel
theorem d_R_set_115 : decode b_R_set 115 = .ok (.iload_n 2, 1) := by decide +kernel
theorem d_R_set_116 : decode b_R_set 116 = .ok (.ldc 194, 2) := by decide +kernel
theorem d_R_set_118 : decode b_R_set 118 = .ok (.iand, 1) := by decide +kernel
theorem d_R_set_119 : decode b_R_set 119 = .ok (.putfield 71, 3) := by decide +kernel
theorem d_R_set_122 : decode b_R_set 122 = .ok (.iload_n 3, 1) := by decide +kernel
theorem d_R_set_123 : decode b_R_set 123 = .ok (.ireturn, 1) := by decide +kernel
theorem d_R_register_0 : decode b_R_register 0 = .ok (.aload_n 0, 1) := by decide +kernel
theorem d_R_register_1 : decode b_R_register 1 = .ok (.iconst 0, 1) := by decide +kernel
theorem d_R_register_2 : decode b_R_register 2 = .ok (.putfield 37, 3) := by decide +kernel
theorem d_R_register_5 : decode b_R_register 5 = .ok (.aload_n 0, 1) := by decide +kernel
theorem d_R_register_6 : decode b_R_register 6 = .ok (.iload_n 1, 1) := by decide +kernel
theorem d_R_register_7 : decode b_R_register 7 = .ok (.iconst 0, 1) := by decide +kernel
theorem d_R_register_8 : decode b_R_register 8 = .ok (.bipush 9, 2) := by decide +kernel
theorem d_R_register_10 : decode b_R_register 10 = .ok (.invokestatic 299, 3) := by decide +kernel
theorem d_R_register_13 : decode b_R_register 13 = .ok (.ifCond .ne 7, 3) := by decide +kernel
theorem d_R_register_16 : decode b_R_register 16 = .ok (.iconst 1, 1) := by decide +kernel
theorem d_R_register_17 : decode b_R_register 17 = .ok (.goto 4, 3) := by decide +kernel
theorem d_R_register_20 : decode b_R_register 20 = .ok (.iconst 0, 1) := by decide +kernel
theorem d_R_register_21 : decode b_R_register 21 = .ok (.iconst 1, 1) := by decide +kernel
theorem d_R_register_22 : decode b_R_register 22 = .ok (.invokevirtual 303, 3) := by decide +kernel
theorem d_R_register_25 : decode b_R_register 25 = .ok (.ifCond .eq 7, 3) := by decide +kernel
theorem d_R_register_28 : decode b_R_register 28 = .ok (.iconst 0, 1) := by decide +kernel
theorem d_R_register_29 : decode b_R_register 29 = .ok (.goto 8, 3) := by decide +kernel
theorem d_R_register_32 : decode b_R_register 32 = .ok (.aload_n 0, 1) := by decide +kernel
theorem d_R_register_33 : decode b_R_register 33 = .ok (.iload_n 1, 1) := by decide +kernel
theorem d_R_register_34 : decode b_R_register 34 = .ok (.invokevirtual 315, 3) := by decide +kernel
theorem d_R_register_37 : decode b_R_register 37 = .ok (.ireturn, 1) := by decide +kernel
theorem d_R_read_0 : decode b_R_read 0 = .ok (.aload_n 0, 1) := by decide +kernel
theorem d_R_read_1 : decode b_R_read 1 = .ok (.iconst 0, 1) := by decide +kernel
theorem d_R_read_2 : decode b_R_read 2 = .ok (.putfield 37, 3) := by decide +kernel
theorem d_R_read_5 : decode b_R_read 5 = .ok (.aload_n 0, 1) := by decide +kernel
theorem d_R_read_6 : decode b_R_read 6 = .ok (.iload_n 1, 1) := by decide +kernel
theorem d_R_read_7 : decode b_R_read 7 = .ok (.iconst 0, 1) := by decide +kernel
theorem d_R_read_8 : decode b_R_read 8 = .ok (.ldc 194, 2) := by decide +kernel
theorem d_R_read_10 : decode b_R_read 10 = .ok (.invokestatic 299, 3) := by decide +kernel
theorem d_R_read_13 : decode b_R_read 13 = .ok (.ifCond .ne 7, 3) := by decide +kernel
theorem d_R_read_16 : decode b_R_read 16 = .ok (.iconst 1, 1) := by decide +kernel
theorem d_R_read_17 : decode b_R_read 17 = .ok (.goto 4, 3) := by decide +kernel
theorem d_R_read_20 : decode b_R_read 20 = .ok (.iconst 0, 1) := by decide +kernel
theorem d_R_read_21 : decode b_R_read 21 = .ok (.iconst 1, 1) := by decide +kernel
theorem d_R_read_22 : decode b_R_read 22 = .ok (.invokevirtual 303, 3) := by decide +kernel
theorem d_R_read_25 : decode b_R_read 25 = .ok (.ifCond .eq 7, 3) := by decide +kernel
theorem d_R_read_28 : decode b_R_read 28 = .ok (.iconst 0, 1) := by decide +kernel
theorem d_R_read_29 : decode b_R_read 29 = .ok (.goto 8, 3) := by decide +kernel
theorem d_R_read_32 : decode b_R_read 32 = .ok (.aload_n 0, 1) := by decide +kernel
theorem d_R_read_33 : decode b_R_read 33 = .ok (.iload_n 1, 1) := by decide +kernel
theorem d_R_read_34 : decode b_R_read 34 = .ok (.invokevirtual 199, 3) := by decide +kernel
theorem d_R_read_37 : decode b_R_read 37 = .ok (.ireturn, 1) := by decide +kernel
