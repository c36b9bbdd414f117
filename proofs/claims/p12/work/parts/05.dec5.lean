theorem d_R_port_0 : decode b_R_port 0 = .ok (.iload_n 1, 1) := by decide +kernel
theorem d_R_port_1 : decode b_R_port 1 = .ok (.lookupswitch 299 #[(65280, 163), (65284, 168), (65285, 180), (65286, 185), (65287, 190), (65295, 199), (65344, 208), (65345, 213), (65346, 244), (65347, 249), (65348, 254), (65349, 259), (65350, 264), (65351, 269), (65352, 274), (65353, 279), (65354, 284), (65355, 289), (65535, 294)], 163) := by decide +kernel
theorem d_R_port_164 : decode b_R_port 164 = .ok (.aload_n 0, 1) := by decide +kernel
theorem d_R_port_165 : decode b_R_port 165 = .ok (.invokevirtual 170, 3) := by decide +kernel
theorem d_R_port_168 : decode b_R_port 168 = .ok (.ireturn, 1) := by decide +kernel
theorem d_R_port_169 : decode b_R_port 169 = .ok (.aload_n 0, 1) := by decide +kernel
theorem d_R_port_170 : decode b_R_port 170 = .ok (.getfield 89, 3) := by decide +kernel
theorem d_R_port_173 : decode b_R_port 173 = .ok (.bipush 6, 2) := by decide +kernel
theorem d_R_port_175 : decode b_R_port 175 = .ok (.ishr, 1) := by decide +kernel
theorem d_R_port_176 : decode b_R_port 176 = .ok (.sipush 255, 3) := by decide +kernel
theorem d_R_port_179 : decode b_R_port 179 = .ok (.iand, 1) := by decide +kernel
theorem d_R_port_180 : decode b_R_port 180 = .ok (.ireturn, 1) := by decide +kernel
theorem d_R_port_181 : decode b_R_port 181 = .ok (.aload_n 0, 1) := by decide +kernel
theorem d_R_port_182 : decode b_R_port 182 = .ok (.getfield 92, 3) := by decide +kernel
theorem d_R_port_185 : decode b_R_port 185 = .ok (.ireturn, 1) := by decide +kernel
theorem d_R_port_186 : decode b_R_port 186 = .ok (.aload_n 0, 1) := by decide +kernel
theorem d_R_port_187 : decode b_R_port 187 = .ok (.getfield 95, 3) := by decide +kernel
theorem d_R_port_190 : decode b_R_port 190 = .ok (.ireturn, 1) := by decide +kernel
theorem d_R_port_191 : decode b_R_port 191 = .ok (.aload_n 0, 1) := by decide +kernel
theorem d_R_port_192 : decode b_R_port 192 = .ok (.getfield 98, 3) := by decide +kernel
theorem d_R_port_195 : decode b_R_port 195 = .ok (.sipush 248, 3) := by decide +kernel
theorem d_R_port_198 : decode b_R_port 198 = .ok (.ior, 1) := by decide +kernel
theorem d_R_port_199 : decode b_R_port 199 = .ok (.ireturn, 1) := by decide +kernel
theorem d_R_port_200 : decode b_R_port 200 = .ok (.aload_n 0, 1) := by decide +kernel
theorem d_R_port_201 : decode b_R_port 201 = .ok (.getfield 101, 3) := by decide +kernel
theorem d_R_port_204 : decode b_R_port 204 = .ok (.sipush 224, 3) := by decide +kernel
theorem d_R_port_207 : decode b_R_port 207 = .ok (.ior, 1) := by decide +kernel
theorem d_R_port_208 : decode b_R_port 208 = .ok (.ireturn, 1) := by decide +kernel
theorem d_R_port_209 : decode b_R_port 209 = .ok (.aload_n 0, 1) := by decide +kernel
theorem d_R_port_210 : decode b_R_port 210 = .ok (.getfield 107, 3) := by decide +kernel
theorem d_R_port_213 : decode b_R_port 213 = .ok (.ireturn, 1) := by decide +kernel
theorem d_R_port_214 : decode b_R_port 214 = .ok (.sipush 128, 3) := by decide +kernel
theorem d_R_port_217 : decode b_R_port 217 = .ok (.aload_n 0, 1) := by decide +kernel
theorem d_R_port_218 : decode b_R_port 218 = .ok (.getfield 110, 3) := by decide +kernel
theorem d_R_port_221 : decode b_R_port 221 = .ok (.ior, 1) := by decide +kernel
theorem d_R_port_222 : decode b_R_port 222 = .ok (.aload_n 0, 1) := by decide +kernel
theorem d_R_port_223 : decode b_R_port 223 = .ok (.getfield 119, 3) := by decide +kernel
theorem d_R_port_226 : decode b_R_port 226 = .ok (.aload_n 0, 1) := by decide +kernel
theorem d_R_port_227 : decode b_R_port 227 = .ok (.getfield 122, 3) := by decide +kernel
theorem d_R_port_230 : decode b_R_port 230 = .ok (.if_icmp .ne 7, 3) := by decide +kernel
theorem d_R_port_233 : decode b_R_port 233 = .ok (.iconst 4, 1) := by decide +kernel
theorem d_R_port_234 : decode b_R_port 234 = .ok (.goto 4, 3) := by decide +kernel
theorem d_R_port_237 : decode b_R_port 237 = .ok (.iconst 0, 1) := by decide +kernel
theorem d_R_port_238 : decode b_R_port 238 = .ok (.ior, 1) := by decide +kernel
theorem d_R_port_239 : decode b_R_port 239 = .ok (.aload_n 0, 1) := by decide +kernel
theorem d_R_port_240 : decode b_R_port 240 = .ok (.invokevirtual 174, 3) := by decide +kernel
theorem d_R_port_243 : decode b_R_port 243 = .ok (.ior, 1) := by decide +kernel
theorem d_R_port_244 : decode b_R_port 244 = .ok (.ireturn, 1) := by decide +kernel
theorem d_R_port_245 : decode b_R_port 245 = .ok (.aload_n 0, 1) := by decide +kernel
theorem d_R_port_246 : decode b_R_port 246 = .ok (.getfield 113, 3) := by decide +kernel
theorem d_R_port_249 : decode b_R_port 249 = .ok (.ireturn, 1) := by decide +kernel
theorem d_R_port_250 : decode b_R_port 250 = .ok (.aload_n 0, 1) := by decide +kernel
theorem d_R_port_251 : decode b_R_port 251 = .ok (.getfield 116, 3) := by decide +kernel
theorem d_R_port_254 : decode b_R_port 254 = .ok (.ireturn, 1) := by decide +kernel
theorem d_R_port_255 : decode b_R_port 255 = .ok (.aload_n 0, 1) := by decide +kernel
theorem d_R_port_256 : decode b_R_port 256 = .ok (.getfield 119, 3) := by decide +kernel
theorem d_R_port_259 : decode b_R_port 259 = .ok (.ireturn, 1) := by decide +kernel
theorem d_R_port_260 : decode b_R_port 260 = .ok (.aload_n 0, 1) := by decide +kernel
theorem d_R_port_261 : decode b_R_port 261 = .ok (.getfield 122, 3) := by decide +kernel
theorem d_R_port_264 : decode b_R_port 264 = .ok (.ireturn, 1) := by decide +kernel
theorem d_R_port_265 : decode b_R_port 265 = .ok (.aload_n 0, 1) := by decide +kernel
theorem d_R_port_266 : decode b_R_port 266 = .ok (.getfield 125, 3) := by decide +kernel
theorem d_R_port_269 : decode b_R_port 269 = .ok (.ireturn, 1) := by decide +kernel
theorem d_R_port_270 : decode b_R_port 270 = .ok (.aload_n 0, 1) := by decide +kernel
theorem d_R_port_271 : decode b_R_port 271 = .ok (.getfield 128, 3) := by decide +kernel
theorem d_R_port_274 : decode b_R_port 274 = .ok (.ireturn, 1) := by decide +kernel
theorem d_R_port_275 : decode b_R_port 275 = .ok (.aload_n 0, 1) := by decide +kernel
theorem d_R_port_276 : decode b_R_port 276 = .ok (.getfield 131, 3) := by decide +kernel
theorem d_R_port_279 : decode b_R_port 279 = .ok (.ireturn, 1) := by decide +kernel
theorem d_R_port_280 : decode b_R_port 280 = .ok (.aload_n 0, 1) := by decide +kernel
theorem d_R_port_281 : decode b_R_port 281 = .ok (.getfield 134, 3) := by decide +kernel
theorem d_R_port_284 : decode b_R_port 284 = .ok (.ireturn, 1) := by decide +kernel
theorem d_R_port_285 : decode b_R_port 285 = .ok (.aload_n 0, 1) := by decide +kernel
theorem d_R_port_286 : decode b_R_port 286 = .ok (.getfield 137, 3) := by decide +kernel
theorem d_R_port_289 : decode b_R_port 289 = .ok (.ireturn, 1) := by decide +kernel
theorem d_R_port_290 : decode b_R_port 290 = .ok (.aload_n 0, 1) := by decide +kernel
theorem d_R_port_291 : decode b_R_port 291 = .ok (.getfield 140, 3) := by decide +kernel
theorem d_R_port_294 : decode b_R_port 294 = .ok (.ireturn, 1) := by decide +kernel
theorem d_R_port_295 : decode b_R_port 295 = .ok (.aload_n 0, 1) := by decide +kernel
theorem d_R_port_296 : decode b_R_port 296 = .ok (.getfield 104, 3) := by decide +kernel
theorem d_R_port_299 : decode b_R_port 299 = .ok (.ireturn, 1) := by decide +kernel
theorem d_R_port_300 : decode b_R_port 300 = .ok (.sipush 255, 3) := by decide +kernel
theorem d_R_port_303 : decode b_R_port 303 = .ok (.ireturn, 1) := by decide +kernel
theorem d_R_get_0 : decode b_R_get 0 = .ok (.iload_n 1, 1) := by decide +kernel
theorem d_R_get_1 : decode b_R_get 1 = .ok (.sipush 16384, 3) := by decide +kernel
theorem d_R_get_4 : decode b_R_get 4 = .ok (.if_icmp .ge 14, 3) := by decide +kernel
theorem d_R_get_7 : decode b_R_get 7 = .ok (.aload_n 0, 1) := by decide +kernel
theorem d_R_get_8 : decode b_R_get 8 = .ok (.getfield 7, 3) := by decide +kernel
theorem d_R_get_11 : decode b_R_get 11 = .ok (.iload_n 1, 1) := by decide +kernel
theorem d_R_get_12 : decode b_R_get 12 = .ok (.sipush 1023, 3) := by decide +kernel
theorem d_R_get_15 : decode b_R_get 15 = .ok (.iand, 1) := by decide +kernel
theorem d_R_get_16 : decode b_R_get 16 = .ok (.iaload, 1) := by decide +kernel
theorem d_R_get_17 : decode b_R_get 17 = .ok (.ireturn, 1) := by decide +kernel
theorem d_R_get_18 : decode b_R_get 18 = .ok (.iload_n 1, 1) := by decide +kernel
theorem d_R_get_19 : decode b_R_get 19 = .ok (.ldc 177, 2) := by decide +kernel
theorem d_R_get_21 : decode b_R_get 21 = .ok (.if_icmp .ge 23, 3) := by decide +kernel
theorem d_R_get_24 : decode b_R_get 24 = .ok (.aload_n 0, 1) := by decide +kernel
theorem d_R_get_25 : decode b_R_get 25 = .ok (.getfield 7, 3) := by decide +kernel
theorem d_R_get_28 : decode b_R_get 28 = .ok (.sipush 1024, 3) := by decide +kernel
theorem d_R_get_31 : decode b_R_get 31 = .ok (.aload_n 0, 1) := by decide +kernel
theorem d_R_get_32 : decode b_R_get 32 = .ok (.invokevirtual 178, 3) := by decide +kernel
theorem d_R_get_35 : decode b_R_get 35 = .ok (.imul, 1) := by decide +kernel
theorem d_R_get_36 : decode b_R_get 36 = .ok (.iload_n 1, 1) := by decide +kernel
theorem d_R_get_37 : decode b_R_get 37 = .ok (.sipush 1023, 3) := by decide +kernel
theorem d_R_get_40 : decode b_R_get 40 = .ok (.iand, 1) := by decide +kernel
theorem d_R_get_41 : decode b_R_get 41 = .ok (.iadd, 1) := by decide +kernel
theorem d_R_get_42 : decode b_R_get 42 = .ok (.iaload, 1) := by decide +kernel
theorem d_R_get_43 : decode b_R_get 43 = .ok (.ireturn, 1) := by decide +kernel
theorem d_R_get_44 : decode b_R_get 44 = .ok (.iload_n 1, 1) := by decide +kernel
theorem d_R_get_45 : decode b_R_get 45 = .ok (.ldc 181, 2) := by decide +kernel
theorem d_R_get_47 : decode b_R_get 47 = .ok (.if_icmp .ge 13, 3) := by decide +kernel
theorem d_R_get_50 : decode b_R_get 50 = .ok (.aload_n 0, 1) := by decide +kernel
theorem d_R_get_51 : decode b_R_get 51 = .ok (.getfield 16, 3) := by decide +kernel
theorem d_R_get_54 : decode b_R_get 54 = .ok (.iload_n 1, 1) := by decide +kernel
theorem d_R_get_55 : decode b_R_get 55 = .ok (.ldc 177, 2) := by decide +kernel
theorem d_R_get_57 : decode b_R_get 57 = .ok (.isub, 1) := by decide +kernel
theorem d_R_get_58 : decode b_R_get 58 = .ok (.iaload, 1) := by decide +kernel
theorem d_R_get_59 : decode b_R_get 59 = .ok (.ireturn, 1) := by decide +kernel
theorem d_R_get_60 : decode b_R_get 60 = .ok (.iload_n 1, 1) := by decide +kernel
theorem d_R_get_61 : decode b_R_get 61 = .ok (.ldc 182, 2) := by decide +kernel
theorem d_R_get_63 : decode b_R_get 63 = .ok (.if_icmp .ge 52, 3) := by decide +kernel
theorem d_R_get_66 : decode b_R_get 66 = .ok (.aload_n 0, 1) := by decide +kernel
theorem d_R_get_67 : decode b_R_get 67 = .ok (.invokevirtual 183, 3) := by decide +kernel
theorem d_R_get_70 : decode b_R_get 70 = .ok (.ifCond .ne 9, 3) := by decide +kernel
theorem d_R_get_73 : decode b_R_get 73 = .ok (.sipush 255, 3) := by decide +kernel
theorem d_R_get_76 : decode b_R_get 76 = .ok (.goto 38, 3) := by decide +kernel
theorem d_R_get_79 : decode b_R_get 79 = .ok (.aload_n 0, 1) := by decide +kernel
theorem d_R_get_80 : decode b_R_get 80 = .ok (.getfield 13, 3) := by decide +kernel
theorem d_R_get_83 : decode b_R_get 83 = .ok (.sipush 256, 3) := by decide +kernel
theorem d_R_get_86 : decode b_R_get 86 = .ok (.aload_n 0, 1) := by decide +kernel
theorem d_R_get_87 : decode b_R_get 87 = .ok (.invokevirtual 187, 3) := by decide +kernel
theorem d_R_get_90 : decode b_R_get 90 = .ok (.imul, 1) := by decide +kernel
theorem d_R_get_91 : decode b_R_get 91 = .ok (.iload_n 1, 1) := by decide +kernel
theorem d_R_get_92 : decode b_R_get 92 = .ok (.sipush 255, 3) := by decide +kernel
theorem d_R_get_95 : decode b_R_get 95 = .ok (.iand, 1) := by decide +kernel
theorem d_R_get_96 : decode b_R_get 96 = .ok (.iadd, 1) := by decide +kernel
theorem d_R_get_97 : decode b_R_get 97 = .ok (.iaload, 1) := by decide +kernel
theorem d_R_get_98 : decode b_R_get 98 = .ok (.aload_n 0, 1) := by decide +kernel
theorem d_R_get_99 : decode b_R_get 99 = .ok (.getfield 164, 3) := by decide +kernel
theorem d_R_get_102 : decode b_R_get 102 = .ok (.iconst 2, 1) := by decide +kernel
theorem d_R_get_103 : decode b_R_get 103 = .ok (.if_icmp .ne 9, 3) := by decide +kernel
theorem d_R_get_106 : decode b_R_get 106 = .ok (.sipush 240, 3) := by decide +kernel
theorem d_R_get_109 : decode b_R_get 109 = .ok (.goto 4, 3) := by decide +kernel
theorem d_R_get_112 : decode b_R_get 112 = .ok (.iconst 0, 1) := by decide +kernel
theorem d_R_get_113 : decode b_R_get 113 = .ok (.ior, 1) := by decide +kernel
theorem d_R_get_114 : decode b_R_get 114 = .ok (.ireturn, 1) := by decide +kernel
theorem d_R_get_115 : decode b_R_get 115 = .ok (.iload_n 1, 1) := by decide +kernel
theorem d_R_get_116 : decode b_R_get 116 = .ok (.ldc 190, 2) := by decide +kernel
theorem d_R_get_118 : decode b_R_get 118 = .ok (.if_icmp .ge 14, 3) := by decide +kernel
theorem d_R_get_121 : decode b_R_get 121 = .ok (.aload_n 0, 1) := by decide +kernel
theorem d_R_get_122 : decode b_R_get 122 = .ok (.getfield 19, 3) := by decide +kernel
theorem d_R_get_125 : decode b_R_get 125 = .ok (.iload_n 1, 1) := by decide +kernel
theorem d_R_get_126 : decode b_R_get 126 = .ok (.sipush 1023, 3) := by decide +kernel
theorem d_R_get_129 : decode b_R_get 129 = .ok (.iand, 1) := by decide +kernel
theorem d_R_get_130 : decode b_R_get 130 = .ok (.iaload, 1) := by decide +kernel
theorem d_R_get_131 : decode b_R_get 131 = .ok (.ireturn, 1) := by decide +kernel
theorem d_R_get_132 : decode b_R_get 132 = .ok (.iload_n 1, 1) := by decide +kernel
theorem d_R_get_133 : decode b_R_get 133 = .ok (.ldc 191, 2) := by decide +kernel
theorem d_R_get_135 : decode b_R_get 135 = .ok (.if_icmp .ge 13, 3) := by decide +kernel
theorem d_R_get_138 : decode b_R_get 138 = .ok (.aload_n 0, 1) := by decide +kernel
theorem d_R_get_139 : decode b_R_get 139 = .ok (.getfield 22, 3) := by decide +kernel
theorem d_R_get_142 : decode b_R_get 142 = .ok (.iload_n 1, 1) := by decide +kernel
theorem d_R_get_143 : decode b_R_get 143 = .ok (.ldc 190, 2) := by decide +kernel
theorem d_R_get_145 : decode b_R_get 145 = .ok (.isub, 1) := by decide +kernel
theorem d_R_get_146 : decode b_R_get 146 = .ok (.iaload, 1) := by decide +kernel
theorem d_R_get_147 : decode b_R_get 147 = .ok (.ireturn, 1) := by decide +kernel
theorem d_R_get_148 : decode b_R_get 148 = .ok (.iload_n 1, 1) := by decide +kernel
theorem d_R_get_149 : decode b_R_get 149 = .ok (.ldc 192, 2) := by decide +kernel
theorem d_R_get_151 : decode b_R_get 151 = .ok (.if_icmp .ge 7, 3) := by decide +kernel
theorem d_R_get_154 : decode b_R_get 154 = .ok (.sipush 255, 3) := by decide +kernel
theorem d_R_get_157 : decode b_R_get 157 = .ok (.ireturn, 1) := by decide +kernel
theorem d_R_get_158 : decode b_R_get 158 = .ok (.iload_n 1, 1) := by decide +kernel
theorem d_R_get_159 : decode b_R_get 159 = .ok (.ldc 193, 2) := by decide +kernel
theorem d_R_get_161 : decode b_R_get 161 = .ok (.if_icmp .lt 9, 3) := by decide +kernel
theorem d_R_get_164 : decode b_R_get 164 = .ok (.iload_n 1, 1) := by decide +kernel
theorem d_R_get_165 : decode b_R_get 165 = .ok (.ldc 194, 2) := by decide +kernel
theorem d_R_get_167 : decode b_R_get 167 = .ok (.if_icmp .ne 11, 3) := by decide +kernel
theorem d_R_get_170 : decode b_R_get 170 = .ok (.aload_n 0, 1) := by decide +kernel
theorem d_R_get_171 : decode b_R_get 171 = .ok (.iload_n 1, 1) := by decide +kernel
theorem d_R_get_172 : decode b_R_get 172 = .ok (.invokevirtual 195, 3) := by decide +kernel
theorem d_R_get_175 : decode b_R_get 175 = .ok (.goto 12, 3) := by decide +kernel
theorem d_R_get_178 : decode b_R_get 178 = .ok (.aload_n 0, 1) := by decide +kernel
theorem d_R_get_179 : decode b_R_get 179 = .ok (.getfield 25, 3) := by decide +kernel
theorem d_R_get_182 : decode b_R_get 182 = .ok (.iload_n 1, 1) := by decide +kernel
theorem d_R_get_183 : decode b_R_get 183 = .ok (.ldc 193, 2) := by decide +kernel
theorem d_R_get_185 : decode b_R_get 185 = .ok (.isub, 1) := by decide +kernel
theorem d_R_get_186 : decode b_R_get 186 = .ok (.iaload, 1) := by decide +kernel
theorem d_R_get_187 : decode b_R_get 187 = .ok (.ireturn, 1) := by decide +kernel
theorem d_R_setPort_0 : decode b_R_setPort 0 = .ok (.iload_n 1, 1) := by decide +kernel
theorem d_R_setPort_1 : decode b_R_setPort 1 = .ok (.lookupswitch 364 #[(65280, 155), (65284, 166), (65285, 174), (65286, 182), (65287, 190), (65295, 201), (65344, 212), (65345, 238), (65346, 249), (65347, 257), (65349, 265), (65350, 273), (65351, 316), (65352, 324), (65353, 332), (65354, 340), (65355, 348), (65535, 356)], 155) := by decide +kernel
theorem d_R_setPort_156 : decode b_R_setPort 156 = .ok (.aload_n 0, 1) := by decide +kernel
theorem d_R_setPort_157 : decode b_R_setPort 157 = .ok (.iload_n 2, 1) := by decide +kernel
theorem d_R_setPort_158 : decode b_R_setPort 158 = .ok (.bipush 48, 2) := by decide +kernel
theorem d_R_setPort_160 : decode b_R_setPort 160 = .ok (.iand, 1) := by decide +kernel
theorem d_R_setPort_161 : decode b_R_setPort 161 = .ok (.putfield 86, 3) := by decide +kernel
theorem d_R_setPort_164 : decode b_R_setPort 164 = .ok (.goto 201, 3) := by decide +kernel
theorem d_R_setPort_167 : decode b_R_setPort 167 = .ok (.aload_n 0, 1) := by decide +kernel
theorem d_R_setPort_168 : decode b_R_setPort 168 = .ok (.iconst 0, 1) := by decide +kernel
theorem d_R_setPort_169 : decode b_R_setPort 169 = .ok (.putfield 89, 3) := by decide +kernel
theorem d_R_setPort_172 : decode b_R_setPort 172 = .ok (.goto 193, 3) := by decide +kernel
theorem d_R_setPort_175 : decode b_R_setPort 175 = .ok (.aload_n 0, 1) := by decide +kernel
theorem d_R_setPort_176 : decode b_R_setPort 176 = .ok (.iload_n 2, 1) := by decide +kernel
theorem d_R_setPort_177 : decode b_R_setPort 177 = .ok (.putfield 92, 3) := by decide +kernel
theorem d_R_setPort_180 : decode b_R_setPort 180 = .ok (.goto 185, 3) := by decide +kernel
theorem d_R_setPort_183 : decode b_R_setPort 183 = .ok (.aload_n 0, 1) := by decide +kernel
theorem d_R_setPort_184 : decode b_R_setPort 184 = .ok (.iload_n 2, 1) := by decide +kernel
theorem d_R_setPort_185 : decode b_R_setPort 185 = .ok (.putfield 95, 3) := by decide +kernel
theorem d_R_setPort_188 : decode b_R_setPort 188 = .ok (.goto 177, 3) := by decide +kernel
theorem d_R_setPort_191 : decode b_R_setPort 191 = .ok (.aload_n 0, 1) := by decide +kernel
theorem d_R_setPort_192 : decode b_R_setPort 192 = .ok (.iload_n 2, 1) := by decide +kernel
theorem d_R_setPort_193 : decode b_R_setPort 193 = .ok (.bipush 7, 2) := by decide +kernel
theorem d_R_setPort_195 : decode b_R_setPort 195 = .ok (.iand, 1) := by decide +kernel
theorem d_R_setPort_196 : decode b_R_setPort 196 = .ok (.putfield 98, 3) := by decide +kernel
theorem d_R_setPort_199 : decode b_R_setPort 199 = .ok (.goto 166, 3) := by decide +kernel
theorem d_R_setPort_202 : decode b_R_setPort 202 = .ok (.aload_n 0, 1) := by decide +kernel
theorem d_R_setPort_203 : decode b_R_setPort 203 = .ok (.iload_n 2, 1) := by decide +kernel
theorem d_R_setPort_204 : decode b_R_setPort 204 = .ok (.bipush 31, 2) := by decide +kernel
theorem d_R_setPort_206 : decode b_R_setPort 206 = .ok (.iand, 1) := by decide +kernel
theorem d_R_setPort_207 : decode b_R_setPort 207 = .ok (.putfield 101, 3) := by decide +kernel
theorem d_R_setPort_210 : decode b_R_setPort 210 = .ok (.goto 155, 3) := by decide +kernel
theorem d_R_setPort_213 : decode b_R_setPort 213 = .ok (.aload_n 0, 1) := by decide +kernel
theorem d_R_setPort_214 : decode b_R_setPort 214 = .ok (.iload_n 2, 1) := by decide +kernel
theorem d_R_setPort_215 : decode b_R_setPort 215 = .ok (.putfield 107, 3) := by decide +kernel
theorem d_R_setPort_218 : decode b_R_setPort 218 = .ok (.iload_n 2, 1) := by decide +kernel
theorem d_R_setPort_219 : decode b_R_setPort 219 = .ok (.sipush 128, 3) := by decide +kernel
theorem d_R_setPort_222 : decode b_R_setPort 222 = .ok (.iand, 1) := by decide +kernel
theorem d_R_setPort_223 : decode b_R_setPort 223 = .ok (.ifCond .ne 142, 3) := by decide +kernel
theorem d_R_setPort_226 : decode b_R_setPort 226 = .ok (.aload_n 0, 1) := by decide +kernel
theorem d_R_setPort_227 : decode b_R_setPort 227 = .ok (.iconst 0, 1) := by decide +kernel
theorem d_R_setPort_228 : decode b_R_setPort 228 = .ok (.putfield 143, 3) := by decide +kernel
theorem d_R_setPort_231 : decode b_R_setPort 231 = .ok (.aload_n 0, 1) := by decide +kernel
theorem d_R_setPort_232 : decode b_R_setPort 232 = .ok (.iconst 0, 1) := by decide +kernel
theorem d_R_setPort_233 : decode b_R_setPort 233 = .ok (.putfield 119, 3) := by decide +kernel
theorem d_R_setPort_236 : decode b_R_setPort 236 = .ok (.goto 129, 3) := by decide +kernel
theorem d_R_setPort_239 : decode b_R_setPort 239 = .ok (.aload_n 0, 1) := by decide +kernel
theorem d_R_setPort_240 : decode b_R_setPort 240 = .ok (.iload_n 2, 1) := by decide +kernel
theorem d_R_setPort_241 : decode b_R_setPort 241 = .ok (.bipush 120, 2) := by decide +kernel
theorem d_R_setPort_243 : decode b_R_setPort 243 = .ok (.iand, 1) := by decide +kernel
theorem d_R_setPort_244 : decode b_R_setPort 244 = .ok (.putfield 110, 3) := by decide +kernel
theorem d_R_setPort_247 : decode b_R_setPort 247 = .ok (.goto 118, 3) := by decide +kernel
theorem d_R_setPort_250 : decode b_R_setPort 250 = .ok (.aload_n 0, 1) := by decide +kernel
theorem d_R_setPort_251 : decode b_R_setPort 251 = .ok (.iload_n 2, 1) := by decide +kernel
theorem d_R_setPort_252 : decode b_R_setPort 252 = .ok (.putfield 113, 3) := by decide +kernel
theorem d_R_setPort_255 : decode b_R_setPort 255 = .ok (.goto 110, 3) := by decide +kernel
theorem d_R_setPort_258 : decode b_R_setPort 258 = .ok (.aload_n 0, 1) := by decide +kernel
theorem d_R_setPort_259 : decode b_R_setPort 259 = .ok (.iload_n 2, 1) := by decide +kernel
theorem d_R_setPort_260 : decode b_R_setPort 260 = .ok (.putfield 116, 3) := by decide +kernel
theorem d_R_setPort_263 : decode b_R_setPort 263 = .ok (.goto 102, 3) := by decide +kernel
theorem d_R_setPort_266 : decode b_R_setPort 266 = .ok (.aload_n 0, 1) := by decide +kernel
theorem d_R_setPort_267 : decode b_R_setPort 267 = .ok (.iload_n 2, 1) := by decide +kernel
theorem d_R_setPort_268 : decode b_R_setPort 268 = .ok (.putfield 122, 3) := by decide +kernel
theorem d_R_setPort_271 : decode b_R_setPort 271 = .ok (.goto 94, 3) := by decide +kernel
theorem d_R_setPort_274 : decode b_R_setPort 274 = .ok (.aload_n 0, 1) := by decide +kernel
theorem d_R_setPort_275 : decode b_R_setPort 275 = .ok (.iload_n 2, 1) := by decide +kernel
theorem d_R_setPort_276 : decode b_R_setPort 276 = .ok (.putfield 125, 3) := by decide +kernel
theorem d_R_setPort_279 : decode b_R_setPort 279 = .ok (.iconst 0, 1) := by decide +kernel
theorem d_R_setPort_280 : decode b_R_setPort 280 = .ok (.istore_n 3, 1) := by decide +kernel
theorem d_R_setPort_281 : decode b_R_setPort 281 = .ok (.iload_n 3, 1) := by decide +kernel
theorem d_R_setPort_282 : decode b_R_setPort 282 = .ok (.sipush 160, 3) := by decide +kernel
theorem d_R_setPort_285 : decode b_R_setPort 285 = .ok (.if_icmp .ge 29, 3) := by decide +kernel
theorem d_R_setPort_288 : decode b_R_setPort 288 = .ok (.aload_n 0, 1) := by decide +kernel
theorem d_R_setPort_289 : decode b_R_setPort 289 = .ok (.getfield 22, 3) := by decide +kernel
theorem d_R_setPort_292 : decode b_R_setPort 292 = .ok (.iload_n 3, 1) := by decide +kernel
theorem d_R_setPort_293 : decode b_R_setPort 293 = .ok (.aload_n 0, 1) := by decide +kernel
theorem d_R_setPort_294 : decode b_R_setPort 294 = .ok (.sipush 256, 3) := by decide +kernel
theorem d_R_setPort_297 : decode b_R_setPort 297 = .ok (.iload_n 2, 1) := by decide +kernel
theorem d_R_setPort_298 : decode b_R_setPort 298 = .ok (.imul, 1) := by decide +kernel
theorem d_R_setPort_299 : decode b_R_setPort 299 = .ok (.iload_n 3, 1) := by decide +kernel
theorem d_R_setPort_300 : decode b_R_setPort 300 = .ok (.iadd, 1) := by decide +kernel
theorem d_R_setPort_301 : decode b_R_setPort 301 = .ok (.ldc 194, 2) := by decide +kernel
theorem d_R_setPort_303 : decode b_R_setPort 303 = .ok (.iand, 1) := by decide +kernel
theorem d_R_setPort_304 : decode b_R_setPort 304 = .ok (.invokevirtual 199, 3) := by decide +kernel
theorem d_R_setPort_307 : decode b_R_setPort 307 = .ok (.iastore, 1) := by decide +kernel
theorem d_R_setPort_308 : decode b_R_setPort 308 = .ok (.iinc 3 1, 3) := by decide +kernel
theorem d_R_setPort_311 : decode b_R_setPort 311 = .ok (.goto (-30), 3) := by decide +kernel
theorem d_R_setPort_314 : decode b_R_setPort 314 = .ok (.goto 51, 3) := by decide +kernel
theorem d_R_setPort_317 : decode b_R_setPort 317 = .ok (.aload_n 0, 1) := by decide +kernel
theorem d_R_setPort_318 : decode b_R_setPort 318 = .ok (.iload_n 2, 1) := by decide +kernel
theorem d_R_setPort_319 : decode b_R_setPort 319 = .ok (.putfield 128, 3) := by decide +kernel
theorem d_R_setPort_322 : decode b_R_setPort 322 = .ok (.goto 43, 3) := by decide +kernel
theorem d_R_setPort_325 : decode b_R_setPort 325 = .ok (.aload_n 0, 1) := by decide +kernel
theorem d_R_setPort_326 : decode b_R_setPort 326 = .ok (.iload_n 2, 1) := by decide +kernel
theorem d_R_setPort_327 : decode b_R_setPort 327 = .ok (.putfield 131, 3) := by decide +kernel
theorem d_R_setPort_330 : decode b_R_setPort 330 = .ok (.goto 35, 3) := by decide +kernel
theorem d_R_setPort_333 : decode b_R_setPort 333 = .ok (.aload_n 0, 1) := by decide +kernel
theorem d_R_setPort_334 : decode b_R_setPort 334 = .ok (.iload_n 2, 1) := by decide +kernel
theorem d_R_setPort_335 : decode b_R_setPort 335 = .ok (.putfield 134, 3) := by decide +kernel
theorem d_R_setPort_338 : decode b_R_setPort 338 = .ok (.goto 27, 3) := by decide +kernel
theorem d_R_setPort_341 : decode b_R_setPort 341 = .ok (.aload_n 0, 1) := by decide +kernel
theorem d_R_setPort_342 : decode b_R_setPort 342 = .ok (.iload_n 2, 1) := by decide +kernel
theorem d_R_setPort_343 : decode b_R_setPort 343 = .ok (.putfield 137, 3) := by decide +kernel
theorem d_R_setPort_346 : decode b_R_setPort 346 = .ok (.goto 19, 3) := by decide +kernel
theorem d_R_setPort_349 : decode b_R_setPort 349 = .ok (.aload_n 0, 1) := by decide +kernel
theorem d_R_setPort_350 : decode b_R_setPort 350 = .ok (.iload_n 2, 1) := by decide +kernel
theorem d_R_setPort_351 : decode b_R_setPort 351 = .ok (.putfield 140, 3) := by decide +kernel
theorem d_R_setPort_354 : decode b_R_setPort 354 = .ok (.goto 11, 3) := by decide +kernel
theorem d_R_setPort_357 : decode b_R_setPort 357 = .ok (.aload_n 0, 1) := by decide +kernel
theorem d_R_setPort_358 : decode b_R_setPort 358 = .ok (.iload_n 2, 1) := by decide +kernel
theorem d_R_setPort_359 : decode b_R_setPort 359 = .ok (.putfield 104, 3) := by decide +kernel
theorem d_R_setPort_362 : decode b_R_setPort 362 = .ok (.goto 3, 3) := by decide +kernel
theorem d_R_setPort_365 : decode b_R_setPort 365 = .ok (.return_, 1) := by decide +kernel
theorem d_R_put_0 : decode b_R_put 0 = .ok (.iload_n 1, 1) := by decide +kernel
theorem d_R_put_1 : decode b_R_put 1 = .ok (.ldc 177, 2) := by decide +kernel
theorem d_R_put_3 : decode b_R_put 3 = .ok (.if_icmp .ge 12, 3) := by decide +kernel
theorem d_R_put_6 : decode b_R_put 6 = .ok (.aload_n 0, 1) := by decide +kernel
theorem d_R_put_7 : decode b_R_put 7 = .ok (.iload_n 1, 1) := by decide +kernel
theorem d_R_put_8 : decode b_R_put 8 = .ok (.iload_n 2, 1) := by decide +kernel
theorem d_R_put_9 : decode b_R_put 9 = .ok (.invokevirtual 202, 3) := by decide +kernel
theorem d_R_put_12 : decode b_R_put 12 = .ok (.goto 149, 3) := by decide +kernel
theorem d_R_put_15 : decode b_R_put 15 = .ok (.iload_n 1, 1) := by decide +kernel
theorem d_R_put_16 : decode b_R_put 16 = .ok (.ldc 181, 2) := by decide +kernel
theorem d_R_put_18 : decode b_R_put 18 = .ok (.if_icmp .ge 16, 3) := by decide +kernel
theorem d_R_put_21 : decode b_R_put 21 = .ok (.aload_n 0, 1) := by decide +kernel
theorem d_R_put_22 : decode b_R_put 22 = .ok (.getfield 16, 3) := by decide +kernel
theorem d_R_put_25 : decode b_R_put 25 = .ok (.iload_n 1, 1) := by decide +kernel
theorem d_R_put_26 : decode b_R_put 26 = .ok (.ldc 177, 2) := by decide +kernel
theorem d_R_put_28 : decode b_R_put 28 = .ok (.isub, 1) := by decide +kernel
theorem d_R_put_29 : decode b_R_put 29 = .ok (.iload_n 2, 1) := by decide +kernel
theorem d_R_put_30 : decode b_R_put 30 = .ok (.iastore, 1) := by decide +kernel
theorem d_R_put_31 : decode b_R_put 31 = .ok (.goto 130, 3) := by decide +kernel
theorem d_R_put_34 : decode b_R_put 34 = .ok (.iload_n 1, 1) := by decide +kernel
theorem d_R_put_35 : decode b_R_put 35 = .ok (.ldc 182, 2) := by decide +kernel
theorem d_R_put_37 : decode b_R_put 37 = .ok (.if_icmp .ge 48, 3) := by decide +kernel
theorem d_R_put_40 : decode b_R_put 40 = .ok (.aload_n 0, 1) := by decide +kernel
theorem d_R_put_41 : decode b_R_put 41 = .ok (.invokevirtual 183, 3) := by decide +kernel
theorem d_R_put_44 : decode b_R_put 44 = .ok (.ifCond .eq 117, 3) := by decide +kernel
theorem d_R_put_47 : decode b_R_put 47 = .ok (.aload_n 0, 1) := by decide +kernel
theorem d_R_put_48 : decode b_R_put 48 = .ok (.getfield 13, 3) := by decide +kernel
theorem d_R_put_51 : decode b_R_put 51 = .ok (.sipush 256, 3) := by decide +kernel
theorem d_R_put_54 : decode b_R_put 54 = .ok (.aload_n 0, 1) := by decide +kernel
theorem d_R_put_55 : decode b_R_put 55 = .ok (.invokevirtual 187, 3) := by decide +kernel
theorem d_R_put_58 : decode b_R_put 58 = .ok (.imul, 1) := by decide +kernel
theorem d_R_put_59 : decode b_R_put 59 = .ok (.iload_n 1, 1) := by decide +kernel
theorem d_R_put_60 : decode b_R_put 60 = .ok (.sipush 255, 3) := by decide +kernel
theorem d_R_put_63 : decode b_R_put 63 = .ok (.iand, 1) := by decide +kernel
theorem d_R_put_64 : decode b_R_put 64 = .ok (.iadd, 1) := by decide +kernel
theorem d_R_put_65 : decode b_R_put 65 = .ok (.aload_n 0, 1) := by decide +kernel
theorem d_R_put_66 : decode b_R_put 66 = .ok (.getfield 164, 3) := by decide +kernel
theorem d_R_put_69 : decode b_R_put 69 = .ok (.iconst 2, 1) := by decide +kernel
theorem d_R_put_70 : decode b_R_put 70 = .ok (.if_icmp .ne 10, 3) := by decide +kernel
theorem d_R_put_73 : decode b_R_put 73 = .ok (.iload_n 2, 1) := by decide +kernel
theorem d_R_put_74 : decode b_R_put 74 = .ok (.bipush 15, 2) := by decide +kernel
theorem d_R_put_76 : decode b_R_put 76 = .ok (.iand, 1) := by decide +kernel
theorem d_R_put_77 : decode b_R_put 77 = .ok (.goto 4, 3) := by decide +kernel
theorem d_R_put_80 : decode b_R_put 80 = .ok (.iload_n 2, 1) := by decide +kernel
theorem d_R_put_81 : decode b_R_put 81 = .ok (.iastore, 1) := by decide +kernel
theorem d_R_put_82 : decode b_R_put 82 = .ok (.goto 79, 3) := by decide +kernel
theorem d_R_put_85 : decode b_R_put 85 = .ok (.iload_n 1, 1) := by decide +kernel
theorem d_R_put_86 : decode b_R_put 86 = .ok (.ldc 190, 2) := by decide +kernel
theorem d_R_put_88 : decode b_R_put 88 = .ok (.if_icmp .ge 17, 3) := by decide +kernel
theorem d_R_put_91 : decode b_R_put 91 = .ok (.aload_n 0, 1) := by decide +kernel
theorem d_R_put_92 : decode b_R_put 92 = .ok (.getfield 19, 3) := by decide +kernel
theorem d_R_put_95 : decode b_R_put 95 = .ok (.iload_n 1, 1) := by decide +kernel
theorem d_R_put_96 : decode b_R_put 96 = .ok (.sipush 1023, 3) := by decide +kernel
theorem d_R_put_99 : decode b_R_put 99 = .ok (.iand, 1) := by decide +kernel
theorem d_R_put_100 : decode b_R_put 100 = .ok (.iload_n 2, 1) := by decide +kernel
theorem d_R_put_101 : decode b_R_put 101 = .ok (.iastore, 1) := by decide +kernel
theorem d_R_put_102 : decode b_R_put 102 = .ok (.goto 59, 3) := by decide +kernel
theorem d_R_put_105 : decode b_R_put 105 = .ok (.iload_n 1, 1) := by decide +kernel
theorem d_R_put_106 : decode b_R_put 106 = .ok (.ldc 191, 2) := by decide +kernel
theorem d_R_put_108 : decode b_R_put 108 = .ok (.if_icmp .ge 16, 3) := by decide +kernel
theorem d_R_put_111 : decode b_R_put 111 = .ok (.aload_n 0, 1) := by decide +kernel
theorem d_R_put_112 : decode b_R_put 112 = .ok (.getfield 22, 3) := by decide +kernel
theorem d_R_put_115 : decode b_R_put 115 = .ok (.iload_n 1, 1) := by decide +kernel
theorem d_R_put_116 : decode b_R_put 116 = .ok (.ldc 190, 2) := by decide +kernel
theorem d_R_put_118 : decode b_R_put 118 = .ok (.isub, 1) := by decide +kernel
theorem d_R_put_119 : decode b_R_put 119 = .ok (.iload_n 2, 1) := by decide +kernel
theorem d_R_put_120 : decode b_R_put 120 = .ok (.iastore, 1) := by decide +kernel
theorem d_R_put_121 : decode b_R_put 121 = .ok (.goto 40, 3) := by decide +kernel
theorem d_R_put_124 : decode b_R_put 124 = .ok (.iload_n 1, 1) := by decide +kernel
theorem d_R_put_125 : decode b_R_put 125 = .ok (.ldc 193, 2) := by decide +kernel
theorem d_R_put_127 : decode b_R_put 127 = .ok (.if_icmp .lt 22, 3) := by decide +kernel
theorem d_R_put_130 : decode b_R_put 130 = .ok (.iload_n 1, 1) := by decide +kernel
theorem d_R_put_131 : decode b_R_put 131 = .ok (.ldc 194, 2) := by decide +kernel
theorem d_R_put_133 : decode b_R_put 133 = .ok (.if_icmp .ge 16, 3) := by decide +kernel
theorem d_R_put_136 : decode b_R_put 136 = .ok (.aload_n 0, 1) := by decide +kernel
theorem d_R_put_137 : decode b_R_put 137 = .ok (.getfield 25, 3) := by decide +kernel
theorem d_R_put_140 : decode b_R_put 140 = .ok (.iload_n 1, 1) := by decide +kernel
theorem d_R_put_141 : decode b_R_put 141 = .ok (.ldc 193, 2) := by decide +kernel
theorem d_R_put_143 : decode b_R_put 143 = .ok (.isub, 1) := by decide +kernel
theorem d_R_put_144 : decode b_R_put 144 = .ok (.iload_n 2, 1) := by decide +kernel
theorem d_R_put_145 : decode b_R_put 145 = .ok (.iastore, 1) := by decide +kernel
theorem d_R_put_146 : decode b_R_put 146 = .ok (.goto 15, 3) := by decide +kernel
theorem d_R_put_149 : decode b_R_put 149 = .ok (.iload_n 1, 1) := by decide +kernel
theorem d_R_put_150 : decode b_R_put 150 = .ok (.ldc 192, 2) := by decide +kernel
theorem d_R_put_152 : decode b_R_put 152 = .ok (.if_icmp .lt 9, 3) := by decide +kernel
theorem d_R_put_155 : decode b_R_put 155 = .ok (.aload_n 0, 1) := by decide +kernel
theorem d_R_put_156 : decode b_R_put 156 = .ok (.iload_n 1, 1) := by decide +kernel
theorem d_R_put_157 : decode b_R_put 157 = .ok (.iload_n 2, 1) := by decide +kernel
theorem d_R_put_158 : decode b_R_put 158 = .ok (.invokevirtual 206, 3) := by decide +kernel
theorem d_R_put_161 : decode b_R_put 161 = .ok (.return_, 1) := by decide +kernel
theorem d_R_reads_0 : decode b_R_reads 0 = .ok (.aload_n 0, 1) := by decide +kernel
theorem d_R_reads_1 : decode b_R_reads 1 = .ok (.dup, 1) := by decide +kernel
theorem d_R_reads_2 : decode b_R_reads 2 = .ok (.getfield 209, 3) := by decide +kernel
theorem d_R_reads_5 : decode b_R_reads 5 = .ok (.iconst 1, 1) := by decide +kernel
theorem d_R_reads_6 : decode b_R_reads 6 = .ok (.iadd, 1) := by decide +kernel
theorem d_R_reads_7 : decode b_R_reads 7 = .ok (.putfield 209, 3) := by decide +kernel
theorem d_R_reads_10 : decode b_R_reads 10 = .ok (.aload_n 0, 1) := by decide +kernel
theorem d_R_reads_11 : decode b_R_reads 11 = .ok (.iload_n 1, 1) := by decide +kernel
theorem d_R_reads_12 : decode b_R_reads 12 = .ok (.ldc 194, 2) := by decide +kernel
theorem d_R_reads_14 : decode b_R_reads 14 = .ok (.iand, 1) := by decide +kernel
theorem d_R_reads_15 : decode b_R_reads 15 = .ok (.invokevirtual 199, 3) := by decide +kernel
theorem d_R_reads_18 : decode b_R_reads 18 = .ok (.ireturn, 1) := by decide +kernel
theorem d_R_writes_0 : decode b_R_writes 0 = .ok (.aload_n 0, 1) := by decide +kernel
theorem d_R_writes_1 : decode b_R_writes 1 = .ok (.dup, 1) := by decide +kernel
theorem d_R_writes_2 : decode b_R_writes 2 = .ok (.getfield 209, 3) := by decide +kernel
theorem d_R_writes_5 : decode b_R_writes 5 = .ok (.iconst 1, 1) := by decide +kernel
theorem d_R_writes_6 : decode b_R_writes 6 = .ok (.iadd, 1) := by decide +kernel
theorem d_R_writes_7 : decode b_R_writes 7 = .ok (.putfield 209, 3) := by decide +kernel
theorem d_R_writes_10 : decode b_R_writes 10 = .ok (.aload_n 0, 1) := by decide +kernel
theorem d_R_writes_11 : decode b_R_writes 11 = .ok (.iload_n 1, 1) := by decide +kernel
theorem d_R_writes_12 : decode b_R_writes 12 = .ok (.ldc 194, 2) := by decide +kernel
theorem d_R_writes_14 : decode b_R_writes 14 = .ok (.iand, 1) := by decide +kernel
theorem d_R_writes_15 : decode b_R_writes 15 = .ok (.iload_n 2, 1) := by decide +kernel
theorem d_R_writes_16 : decode b_R_writes 16 = .ok (.sipush 255, 3) := by decide +kernel
theorem d_R_writes_19 : decode b_R_writes 19 = .ok (.iand, 1) := by decide +kernel
theorem d_R_writes_20 : decode b_R_writes 20 = .ok (.invokevirtual 212, 3) := by decide +kernel
theorem d_R_writes_23 : decode b_R_writes 23 = .ok (.return_, 1) := by decide +kernel
theorem d_R_next_0 : decode b_R_next 0 = .ok (.aload_n 0, 1) := by decide +kernel
theorem d_R_next_1 : decode b_R_next 1 = .ok (.aload_n 0, 1) := by decide +kernel
theorem d_R_next_2 : decode b_R_next 2 = .ok (.getfield 71, 3) := by decide +kernel
theorem d_R_next_5 : decode b_R_next 5 = .ok (.invokevirtual 215, 3) := by decide +kernel
theorem d_R_next_8 : decode b_R_next 8 = .ok (.istore_n 1, 1) := by decide +kernel
theorem d_R_next_9 : decode b_R_next 9 = .ok (.aload_n 0, 1) := by decide +kernel
theorem d_R_next_10 : decode b_R_next 10 = .ok (.aload_n 0, 1) := by decide +kernel
theorem d_R_next_11 : decode b_R_next 11 = .ok (.getfield 71, 3) := by decide +kernel
theorem d_R_next_14 : decode b_R_next 14 = .ok (.iconst 1, 1) := by decide +kernel
theorem d_R_next_15 : decode b_R_next 15 = .ok (.iadd, 1) := by decide +kernel
theorem d_R_next_16 : decode b_R_next 16 = .ok (.ldc 194, 2) := by decide +kernel
theorem d_R_next_18 : decode b_R_next 18 = .ok (.iand, 1) := by decide +kernel
theorem d_R_next_19 : decode b_R_next 19 = .ok (.putfield 71, 3) := by decide +kernel
theorem d_R_next_22 : decode b_R_next 22 = .ok (.iload_n 1, 1) := by decide +kernel
theorem d_R_next_23 : decode b_R_next 23 = .ok (.ireturn, 1) := by decide +kernel
theorem d_R_nextWord_0 : decode b_R_nextWord 0 = .ok (.aload_n 0, 1) := by decide +kernel
theorem d_R_nextWord_1 : decode b_R_nextWord 1 = .ok (.invokevirtual 218, 3) := by decide +kernel
theorem d_R_nextWord_4 : decode b_R_nextWord 4 = .ok (.istore_n 1, 1) := by decide +kernel
theorem d_R_nextWord_5 : decode b_R_nextWord 5 = .ok (.iload_n 1, 1) := by decide +kernel
theorem d_R_nextWord_6 : decode b_R_nextWord 6 = .ok (.aload_n 0, 1) := by decide +kernel
theorem d_R_nextWord_7 : decode b_R_nextWord 7 = .ok (.invokevirtual 218, 3) := by decide +kernel
theorem d_R_nextWord_10 : decode b_R_nextWord 10 = .ok (.bipush 8, 2) := by decide +kernel
theorem d_R_nextWord_12 : decode b_R_nextWord 12 = .ok (.ishl, 1) := by decide +kernel
theorem d_R_nextWord_13 : decode b_R_nextWord 13 = .ok (.ior, 1) := by decide +kernel
theorem d_R_nextWord_14 : decode b_R_nextWord 14 = .ok (.ireturn, 1) := by decide +kernel
theorem d_R_signed_0 : decode b_R_signed 0 = .ok (.iload_n 0, 1) := by decide +kernel
theorem d_R_signed_1 : decode b_R_signed 1 = .ok (.bipush 127, 2) := by decide +kernel
theorem d_R_signed_3 : decode b_R_signed 3 = .ok (.if_icmp .le 11, 3) := by decide +kernel
theorem d_R_signed_6 : decode b_R_signed 6 = .ok (.iload_n 0, 1) := by decide +kernel
theorem d_R_signed_7 : decode b_R_signed 7 = .ok (.sipush 256, 3) := by decide +kernel
theorem d_R_signed_10 : decode b_R_signed 10 = .ok (.isub, 1) := by decide +kernel
theorem d_R_signed_11 : decode b_R_signed 11 = .ok (.goto 4, 3) := by decide +kernel
theorem d_R_signed_14 : decode b_R_signed 14 = .ok (.iload_n 0, 1) := by decide +kernel
theorem d_R_signed_15 : decode b_R_signed 15 = .ok (.ireturn, 1) := by decide +kernel
theorem d_R_pair_0 : decode b_R_pair 0 = .ok (.iload_n 1, 1) := by decide +kernel
theorem d_R_pair_1 : decode b_R_pair 1 = .ok (.iconst 3, 1) := by decide +kernel
theorem d_R_pair_2 : decode b_R_pair 2 = .ok (.if_icmp .ne 10, 3) := by decide +kernel
theorem d_R_pair_5 : decode b_R_pair 5 = .ok (.aload_n 0, 1) := by decide +kernel
theorem d_R_pair_6 : decode b_R_pair 6 = .ok (.getfield 68, 3) := by decide +kernel
theorem d_R_pair_9 : decode b_R_pair 9 = .ok (.goto 25, 3) := by decide +kernel
theorem d_R_pair_12 : decode b_R_pair 12 = .ok (.aload_n 0, 1) := by decide +kernel
theorem d_R_pair_13 : decode b_R_pair 13 = .ok (.getfield 31, 3) := by decide +kernel
theorem d_R_pair_16 : decode b_R_pair 16 = .ok (.iconst 2, 1) := by decide +kernel
theorem d_R_pair_17 : decode b_R_pair 17 = .ok (.iload_n 1, 1) := by decide +kernel
theorem d_R_pair_18 : decode b_R_pair 18 = .ok (.imul, 1) := by decide +kernel
theorem d_R_pair_19 : decode b_R_pair 19 = .ok (.iaload, 1) := by decide +kernel
theorem d_R_pair_20 : decode b_R_pair 20 = .ok (.bipush 8, 2) := by decide +kernel
theorem d_R_pair_22 : decode b_R_pair 22 = .ok (.ishl, 1) := by decide +kernel
theorem d_R_pair_23 : decode b_R_pair 23 = .ok (.aload_n 0, 1) := by decide +kernel
theorem d_R_pair_24 : decode b_R_pair 24 = .ok (.getfield 31, 3) := by decide +kernel
theorem d_R_pair_27 : decode b_R_pair 27 = .ok (.iconst 2, 1) := by decide +kernel
theorem d_R_pair_28 : decode b_R_pair 28 = .ok (.iload_n 1, 1) := by decide +kernel
theorem d_R_pair_29 : decode b_R_pair 29 = .ok (.imul, 1) := by decide +kernel
theorem d_R_pair_30 : decode b_R_pair 30 = .ok (.iconst 1, 1) := by decide +kernel
theorem d_R_pair_31 : decode b_R_pair 31 = .ok (.iadd, 1) := by decide +kernel
theorem d_R_pair_32 : decode b_R_pair 32 = .ok (.iaload, 1) := by decide +kernel
theorem d_R_pair_33 : decode b_R_pair 33 = .ok (.ior, 1) := by decide +kernel
theorem d_R_pair_34 : decode b_R_pair 34 = .ok (.ireturn, 1) := by decide +kernel
theorem d_R_setPair_0 : decode b_R_setPair 0 = .ok (.iload_n 1, 1) := by decide +kernel
theorem d_R_setPair_1 : decode b_R_setPair 1 = .ok (.iconst 3, 1) := by decide +kernel
theorem d_R_setPair_2 : decode b_R_setPair 2 = .ok (.if_icmp .ne 14, 3) := by decide +kernel
theorem d_R_setPair_5 : decode b_R_setPair 5 = .ok (.aload_n 0, 1) := by decide +kernel
theorem d_R_setPair_6 : decode b_R_setPair 6 = .ok (.iload_n 2, 1) := by decide +kernel
theorem d_R_setPair_7 : decode b_R_setPair 7 = .ok (.ldc 194, 2) := by decide +kernel
theorem d_R_setPair_9 : decode b_R_setPair 9 = .ok (.iand, 1) := by decide +kernel
theorem d_R_setPair_10 : decode b_R_setPair 10 = .ok (.putfield 68, 3) := by decide +kernel
theorem d_R_setPair_13 : decode b_R_setPair 13 = .ok (.goto 34, 3) := by decide +kernel
theorem d_R_setPair_16 : decode b_R_setPair 16 = .ok (.aload_n 0, 1) := by decide +kernel
theorem d_R_setPair_17 : decode b_R_setPair 17 = .ok (.getfield 31, 3) := by decide +kernel
theorem d_R_setPair_20 : decode b_R_setPair 20 = .ok (.iconst 2, 1) := by decide +kernel
theorem d_R_setPair_21 : decode b_R_setPair 21 = .ok (.iload_n 1, 1) := by decide +kernel
theorem d_R_setPair_22 : decode b_R_setPair 22 = .ok (.imul, 1) := by decide +kernel
theorem d_R_setPair_23 : decode b_R_setPair 23 = .ok (.iload_n 2, 1) := by decide +kernel
theorem d_R_setPair_24 : decode b_R_setPair 24 = .ok (.bipush 8, 2) := by decide +kernel
theorem d_R_setPair_26 : decode b_R_setPair 26 = .ok (.ishr, 1) := by decide +kernel
theorem d_R_setPair_27 : decode b_R_setPair 27 = .ok (.sipush 255, 3) := by decide +kernel
theorem d_R_setPair_30 : decode b_R_setPair 30 = .ok (.iand, 1) := by decide +kernel
theorem d_R_setPair_31 : decode b_R_setPair 31 = .ok (.iastore, 1) := by decide +kernel
theorem d_R_setPair_32 : decode b_R_setPair 32 = .ok (.aload_n 0, 1) := by decide +kernel
theorem d_R_setPair_33 : decode b_R_setPair 33 = .ok (.getfield 31, 3) := by decide +kernel
theorem d_R_setPair_36 : decode b_R_setPair 36 = .ok (.iconst 2, 1) := by decide +kernel
theorem d_R_setPair_37 : decode b_R_setPair 37 = .ok (.iload_n 1, 1) := by decide +kernel
theorem d_R_setPair_38 : decode b_R_setPair 38 = .ok (.imul, 1) := by decide +kernel
theorem d_R_setPair_39 : decode b_R_setPair 39 = .ok (.iconst 1, 1) := by decide +kernel
theorem d_R_setPair_40 : decode b_R_setPair 40 = .ok (.iadd, 1) := by decide +kernel
theorem d_R_setPair_41 : decode b_R_setPair 41 = .ok (.iload_n 2, 1) := by decide +kernel
theorem d_R_setPair_42 : decode b_R_setPair 42 = .ok (.sipush 255, 3) := by decide +kernel
theorem d_R_setPair_45 : decode b_R_setPair 45 = .ok (.iand, 1) := by decide +kernel
theorem d_R_setPair_46 : decode b_R_setPair 46 = .ok (.iastore, 1) := by decide +kernel
theorem d_R_setPair_47 : decode b_R_setPair 47 = .ok (.return_, 1) := by decide +kernel
theorem d_R_operand_0 : decode b_R_operand 0 = .ok (.iload_n 1, 1) := by decide +kernel
theorem d_R_operand_1 : decode b_R_operand 1 = .ok (.bipush 6, 2) := by decide +kernel
theorem d_R_operand_3 : decode b_R_operand 3 = .ok (.if_icmp .ne 15, 3) := by decide +kernel
theorem d_R_operand_6 : decode b_R_operand 6 = .ok (.aload_n 0, 1) := by decide +kernel
theorem d_R_operand_7 : decode b_R_operand 7 = .ok (.aload_n 0, 1) := by decide +kernel
theorem d_R_operand_8 : decode b_R_operand 8 = .ok (.iconst 2, 1) := by decide +kernel
theorem d_R_operand_9 : decode b_R_operand 9 = .ok (.invokevirtual 221, 3) := by decide +kernel
theorem d_R_operand_12 : decode b_R_operand 12 = .ok (.invokevirtual 215, 3) := by decide +kernel
theorem d_R_operand_15 : decode b_R_operand 15 = .ok (.goto 9, 3) := by decide +kernel
theorem d_R_operand_18 : decode b_R_operand 18 = .ok (.aload_n 0, 1) := by decide +kernel
theorem d_R_operand_19 : decode b_R_operand 19 = .ok (.getfield 31, 3) := by decide +kernel
theorem d_R_operand_22 : decode b_R_operand 22 = .ok (.iload_n 1, 1) := by decide +kernel
theorem d_R_operand_23 : decode b_R_operand 23 = .ok (.iaload, 1) := by decide +kernel
theorem d_R_operand_24 : decode b_R_operand 24 = .ok (.ireturn, 1) := by decide +kernel
theorem d_R_setOperand_0 : decode b_R_setOperand 0 = .ok (.iload_n 1, 1) := by decide +kernel
theorem d_R_setOperand_1 : decode b_R_setOperand 1 = .ok (.bipush 6, 2) := by decide +kernel
theorem d_R_setOperand_3 : decode b_R_setOperand 3 = .ok (.if_icmp .ne 16, 3) := by decide +kernel
theorem d_R_setOperand_6 : decode b_R_setOperand 6 = .ok (.aload_n 0, 1) := by decide +kernel
theorem d_R_setOperand_7 : decode b_R_setOperand 7 = .ok (.aload_n 0, 1) := by decide +kernel
theorem d_R_setOperand_8 : decode b_R_setOperand 8 = .ok (.iconst 2, 1) := by decide +kernel
theorem d_R_setOperand_9 : decode b_R_setOperand 9 = .ok (.invokevirtual 221, 3) := by decide +kernel
theorem d_R_setOperand_12 : decode b_R_setOperand 12 = .ok (.iload_n 2, 1) := by decide +kernel
theorem d_R_setOperand_13 : decode b_R_setOperand 13 = .ok (.invokevirtual 224, 3) := by decide +kernel
theorem d_R_setOperand_16 : decode b_R_setOperand 16 = .ok (.goto 14, 3) := by decide +kernel
theorem d_R_setOperand_19 : decode b_R_setOperand 19 = .ok (.aload_n 0, 1) := by decide +kernel
theorem d_R_setOperand_20 : decode b_R_setOperand 20 = .ok (.getfield 31, 3) := by decide +kernel
theorem d_R_setOperand_23 : decode b_R_setOperand 23 = .ok (.iload_n 1, 1) := by decide +kernel
theorem d_R_setOperand_24 : decode b_R_setOperand 24 = .ok (.iload_n 2, 1) := by decide +kernel
theorem d_R_setOperand_25 : decode b_R_setOperand 25 = .ok (.sipush 255, 3) := by decide +kernel
theorem d_R_setOperand_28 : decode b_R_setOperand 28 = .ok (.iand, 1) := by decide +kernel
theorem d_R_setOperand_29 : decode b_R_setOperand 29 = .ok (.iastore, 1) := by decide +kernel
theorem d_R_setOperand_30 : decode b_R_setOperand 30 = .ok (.return_, 1) := by decide +kernel
theorem d_R_push_0 : decode b_R_push 0 = .ok (.aload_n 0, 1) := by decide +kernel
theorem d_R_push_1 : decode b_R_push 1 = .ok (.aload_n 0, 1) := by decide +kernel
theorem d_R_push_2 : decode b_R_push 2 = .ok (.getfield 68, 3) := by decide +kernel
theorem d_R_push_5 : decode b_R_push 5 = .ok (.iconst 1, 1) := by decide +kernel
theorem d_R_push_6 : decode b_R_push 6 = .ok (.isub, 1) := by decide +kernel
theorem d_R_push_7 : decode b_R_push 7 = .ok (.ldc 194, 2) := by decide +kernel
theorem d_R_push_9 : decode b_R_push 9 = .ok (.iand, 1) := by decide +kernel
theorem d_R_push_10 : decode b_R_push 10 = .ok (.putfield 68, 3) := by decide +kernel
theorem d_R_push_13 : decode b_R_push 13 = .ok (.aload_n 0, 1) := by decide +kernel
theorem d_R_push_14 : decode b_R_push 14 = .ok (.aload_n 0, 1) := by decide +kernel
theorem d_R_push_15 : decode b_R_push 15 = .ok (.getfield 68, 3) := by decide +kernel
theorem d_R_push_18 : decode b_R_push 18 = .ok (.iload_n 1, 1) := by decide +kernel
theorem d_R_push_19 : decode b_R_push 19 = .ok (.bipush 8, 2) := by decide +kernel
theorem d_R_push_21 : decode b_R_push 21 = .ok (.ishr, 1) := by decide +kernel
theorem d_R_push_22 : decode b_R_push 22 = .ok (.invokevirtual 224, 3) := by decide +kernel
theorem d_R_push_25 : decode b_R_push 25 = .ok (.aload_n 0, 1) := by decide +kernel
theorem d_R_push_26 : decode b_R_push 26 = .ok (.aload_n 0, 1) := by decide +kernel
theorem d_R_push_27 : decode b_R_push 27 = .ok (.getfield 68, 3) := by decide +kernel
theorem d_R_push_30 : decode b_R_push 30 = .ok (.iconst 1, 1) := by decide +kernel
theorem d_R_push_31 : decode b_R_push 31 = .ok (.isub, 1) := by decide +kernel
theorem d_R_push_32 : decode b_R_push 32 = .ok (.ldc 194, 2) := by decide +kernel
theorem d_R_push_34 : decode b_R_push 34 = .ok (.iand, 1) := by decide +kernel
theorem d_R_push_35 : decode b_R_push 35 = .ok (.putfield 68, 3) := by decide +kernel
theorem d_R_push_38 : decode b_R_push 38 = .ok (.aload_n 0, 1) := by decide +kernel
theorem d_R_push_39 : decode b_R_push 39 = .ok (.aload_n 0, 1) := by decide +kernel
theorem d_R_push_40 : decode b_R_push 40 = .ok (.getfield 68, 3) := by decide +kernel
theorem d_R_push_43 : decode b_R_push 43 = .ok (.iload_n 1, 1) := by decide +kernel
theorem d_R_push_44 : decode b_R_push 44 = .ok (.invokevirtual 224, 3) := by decide +kernel
theorem d_R_push_47 : decode b_R_push 47 = .ok (.return_, 1) := by decide +kernel
theorem d_R_pop_0 : decode b_R_pop 0 = .ok (.aload_n 0, 1) := by decide +kernel
theorem d_R_pop_1 : decode b_R_pop 1 = .ok (.aload_n 0, 1) := by decide +kernel
theorem d_R_pop_2 : decode b_R_pop 2 = .ok (.getfield 68, 3) := by decide +kernel
theorem d_R_pop_5 : decode b_R_pop 5 = .ok (.invokevirtual 215, 3) := by decide +kernel
theorem d_R_pop_8 : decode b_R_pop 8 = .ok (.istore_n 1, 1) := by decide +kernel
theorem d_R_pop_9 : decode b_R_pop 9 = .ok (.aload_n 0, 1) := by decide +kernel
theorem d_R_pop_10 : decode b_R_pop 10 = .ok (.aload_n 0, 1) := by decide +kernel
theorem d_R_pop_11 : decode b_R_pop 11 = .ok (.getfield 68, 3) := by decide +kernel
theorem d_R_pop_14 : decode b_R_pop 14 = .ok (.iconst 1, 1) := by decide +kernel
theorem d_R_pop_15 : decode b_R_pop 15 = .ok (.iadd, 1) := by decide +kernel
theorem d_R_pop_16 : decode b_R_pop 16 = .ok (.ldc 194, 2) := by decide +kernel
theorem d_R_pop_18 : decode b_R_pop 18 = .ok (.iand, 1) := by decide +kernel
theorem d_R_pop_19 : decode b_R_pop 19 = .ok (.putfield 68, 3) := by decide +kernel
theorem d_R_pop_22 : decode b_R_pop 22 = .ok (.aload_n 0, 1) := by decide +kernel
theorem d_R_pop_23 : decode b_R_pop 23 = .ok (.aload_n 0, 1) := by decide +kernel
theorem d_R_pop_24 : decode b_R_pop 24 = .ok (.getfield 68, 3) := by decide +kernel
theorem d_R_pop_27 : decode b_R_pop 27 = .ok (.invokevirtual 215, 3) := by decide +kernel
theorem d_R_pop_30 : decode b_R_pop 30 = .ok (.istore_n 2, 1) := by decide +kernel
theorem d_R_pop_31 : decode b_R_pop 31 = .ok (.aload_n 0, 1) := by decide +kernel
theorem d_R_pop_32 : decode b_R_pop 32 = .ok (.aload_n 0, 1) := by decide +kernel
theorem d_R_pop_33 : decode b_R_pop 33 = .ok (.getfield 68, 3) := by decide +kernel
theorem d_R_pop_36 : decode b_R_pop 36 = .ok (.iconst 1, 1) := by decide +kernel
theorem d_R_pop_37 : decode b_R_pop 37 = .ok (.iadd, 1) := by decide +kernel
theorem d_R_pop_38 : decode b_R_pop 38 = .ok (.ldc 194, 2) := by decide +kernel
theorem d_R_pop_40 : decode b_R_pop 40 = .ok (.iand, 1) := by decide +kernel
theorem d_R_pop_41 : decode b_R_pop 41 = .ok (.putfield 68, 3) := by decide +kernel
theorem d_R_pop_44 : decode b_R_pop 44 = .ok (.iload_n 2, 1) := by decide +kernel
theorem d_R_pop_45 : decode b_R_pop 45 = .ok (.bipush 8, 2) := by decide +kernel
theorem d_R_pop_47 : decode b_R_pop 47 = .ok (.ishl, 1) := by decide +kernel
theorem d_R_pop_48 : decode b_R_pop 48 = .ok (.iload_n 1, 1) := by decide +kernel
theorem d_R_pop_49 : decode b_R_pop 49 = .ok (.ior, 1) := by decide +kernel
theorem d_R_pop_50 : decode b_R_pop 50 = .ok (.ireturn, 1) := by decide +kernel
theorem d_R_is_0 : decode b_R_is 0 = .ok (.aload_n 0, 1) := by decide +kernel
theorem d_R_is_1 : decode b_R_is 1 = .ok (.getfield 31, 3) := by decide +kernel
theorem d_R_is_4 : decode b_R_is 4 = .ok (.bipush 6, 2) := by decide +kernel
theorem d_R_is_6 : decode b_R_is 6 = .ok (.iaload, 1) := by decide +kernel
theorem d_R_is_7 : decode b_R_is 7 = .ok (.iload_n 1, 1) := by decide +kernel
theorem d_R_is_8 : decode b_R_is 8 = .ok (.iand, 1) := by decide +kernel
theorem d_R_is_9 : decode b_R_is 9 = .ok (.ifCond .le 7, 3) := by decide +kernel
theorem d_R_is_12 : decode b_R_is 12 = .ok (.iconst 1, 1) := by decide +kernel
theorem d_R_is_13 : decode b_R_is 13 = .ok (.goto 4, 3) := by decide +kernel
theorem d_R_is_16 : decode b_R_is 16 = .ok (.iconst 0, 1) := by decide +kernel
theorem d_R_is_17 : decode b_R_is 17 = .ok (.ireturn, 1) := by decide +kernel
theorem d_R_flag_0 : decode b_R_flag 0 = .ok (.aload_n 0, 1) := by decide +kernel
theorem d_R_flag_1 : decode b_R_flag 1 = .ok (.getfield 31, 3) := by decide +kernel
theorem d_R_flag_4 : decode b_R_flag 4 = .ok (.bipush 6, 2) := by decide +kernel
theorem d_R_flag_6 : decode b_R_flag 6 = .ok (.iload_n 2, 1) := by decide +kernel
theorem d_R_flag_7 : decode b_R_flag 7 = .ok (.ifCond .eq 15, 3) := by decide +kernel
theorem d_R_flag_10 : decode b_R_flag 10 = .ok (.aload_n 0, 1) := by decide +kernel
theorem d_R_flag_11 : decode b_R_flag 11 = .ok (.getfield 31, 3) := by decide +kernel
theorem d_R_flag_14 : decode b_R_flag 14 = .ok (.bipush 6, 2) := by decide +kernel
theorem d_R_flag_16 : decode b_R_flag 16 = .ok (.iaload, 1) := by decide +kernel
theorem d_R_flag_17 : decode b_R_flag 17 = .ok (.iload_n 1, 1) := by decide +kernel
theorem d_R_flag_18 : decode b_R_flag 18 = .ok (.ior, 1) := by decide +kernel
theorem d_R_flag_19 : decode b_R_flag 19 = .ok (.goto 14, 3) := by decide +kernel
theorem d_R_flag_22 : decode b_R_flag 22 = .ok (.aload_n 0, 1) := by decide +kernel
theorem d_R_flag_23 : decode b_R_flag 23 = .ok (.getfield 31, 3) := by decide +kernel
theorem d_R_flag_26 : decode b_R_flag 26 = .ok (.bipush 6, 2) := by decide +kernel
theorem d_R_flag_28 : decode b_R_flag 28 = .ok (.iaload, 1) := by decide +kernel
theorem d_R_flag_29 : decode b_R_flag 29 = .ok (.iload_n 1, 1) := by decide +kernel
theorem d_R_flag_30 : decode b_R_flag 30 = .ok (.iconst (-1), 1) := by decide +kernel
theorem d_R_flag_31 : decode b_R_flag 31 = .ok (.ixor, 1) := by decide +kernel
theorem d_R_flag_32 : decode b_R_flag 32 = .ok (.iand, 1) := by decide +kernel
theorem d_R_flag_33 : decode b_R_flag 33 = .ok (.iastore, 1) := by decide +kernel
theorem d_R_flag_34 : decode b_R_flag 34 = .ok (.return_, 1) := by decide +kernel
theorem d_R_flagged_0 : decode b_R_flagged 0 = .ok (.aload_n 0, 1) := by decide +kernel
theorem d_R_flagged_1 : decode b_R_flagged 1 = .ok (.getfield 31, 3) := by decide +kernel
theorem d_R_flagged_4 : decode b_R_flagged 4 = .ok (.bipush 6, 2) := by decide +kernel
theorem d_R_flagged_6 : decode b_R_flagged 6 = .ok (.iload_n 1, 1) := by decide +kernel
theorem d_R_flagged_7 : decode b_R_flagged 7 = .ok (.ifCond .eq 9, 3) := by decide +kernel
theorem d_R_flagged_10 : decode b_R_flagged 10 = .ok (.sipush 128, 3) := by decide +kernel
theorem d_R_flagged_13 : decode b_R_flagged 13 = .ok (.goto 4, 3) := by decide +kernel
theorem d_R_flagged_16 : decode b_R_flagged 16 = .ok (.iconst 0, 1) := by decide +kernel
theorem d_R_flagged_17 : decode b_R_flagged 17 = .ok (.iload_n 2, 1) := by decide +kernel
theorem d_R_flagged_18 : decode b_R_flagged 18 = .ok (.ifCond .eq 8, 3) := by decide +kernel
theorem d_R_flagged_21 : decode b_R_flagged 21 = .ok (.bipush 64, 2) := by decide +kernel
theorem d_R_flagged_23 : decode b_R_flagged 23 = .ok (.goto 4, 3) := by decide +kernel
theorem d_R_flagged_26 : decode b_R_flagged 26 = .ok (.iconst 0, 1) := by decide +kernel
theorem d_R_flagged_27 : decode b_R_flagged 27 = .ok (.ior, 1) := by decide +kernel
theorem d_R_flagged_28 : decode b_R_flagged 28 = .ok (.iload_n 3, 1) := by decide +kernel
theorem d_R_flagged_29 : decode b_R_flagged 29 = .ok (.ifCond .eq 8, 3) := by decide +kernel
theorem d_R_flagged_32 : decode b_R_flagged 32 = .ok (.bipush 32, 2) := by decide +kernel
theorem d_R_flagged_34 : decode b_R_flagged 34 = .ok (.goto 4, 3) := by decide +kernel
theorem d_R_flagged_37 : decode b_R_flagged 37 = .ok (.iconst 0, 1) := by decide +kernel
theorem d_R_flagged_38 : decode b_R_flagged 38 = .ok (.ior, 1) := by decide +kernel
theorem d_R_flagged_39 : decode b_R_flagged 39 = .ok (.iload 4, 2) := by decide +kernel
theorem d_R_flagged_41 : decode b_R_flagged 41 = .ok (.ifCond .eq 8, 3) := by decide +kernel
theorem d_R_flagged_44 : decode b_R_flagged 44 = .ok (.bipush 16, 2) := by decide +kernel
theorem d_R_flagged_46 : decode b_R_flagged 46 = .ok (.goto 4, 3) := by decide +kernel
theorem d_R_flagged_49 : decode b_R_flagged 49 = .ok (.iconst 0, 1) := by decide +kernel
theorem d_R_flagged_50 : decode b_R_flagged 50 = .ok (.ior, 1) := by decide +kernel
theorem d_R_flagged_51 : decode b_R_flagged 51 = .ok (.iastore, 1) := by decide +kernel
theorem d_R_flagged_52 : decode b_R_flagged 52 = .ok (.return_, 1) := by decide +kernel
theorem d_R_holds_0 : decode b_R_holds 0 = .ok (.aload_n 0, 1) := by decide +kernel
theorem d_R_holds_1 : decode b_R_holds 1 = .ok (.iload_n 1, 1) := by decide +kernel
theorem d_R_holds_2 : decode b_R_holds 2 = .ok (.iconst 2, 1) := by decide +kernel
theorem d_R_holds_3 : decode b_R_holds 3 = .ok (.if_icmp .ge 9, 3) := by decide +kernel
theorem d_R_holds_6 : decode b_R_holds 6 = .ok (.sipush 128, 3) := by decide +kernel
theorem d_R_holds_9 : decode b_R_holds 9 = .ok (.goto 5, 3) := by decide +kernel
theorem d_R_holds_12 : decode b_R_holds 12 = .ok (.bipush 16, 2) := by decide +kernel
theorem d_R_holds_14 : decode b_R_holds 14 = .ok (.invokevirtual 227, 3) := by decide +kernel
theorem d_R_holds_17 : decode b_R_holds 17 = .ok (.iload_n 1, 1) := by decide +kernel
theorem d_R_holds_18 : decode b_R_holds 18 = .ok (.iconst 1, 1) := by decide +kernel
theorem d_R_holds_19 : decode b_R_holds 19 = .ok (.iand, 1) := by decide +kernel
theorem d_R_holds_20 : decode b_R_holds 20 = .ok (.iconst 1, 1) := by decide +kernel
theorem d_R_holds_21 : decode b_R_holds 21 = .ok (.if_icmp .ne 7, 3) := by decide +kernel
theorem d_R_holds_24 : decode b_R_holds 24 = .ok (.iconst 1, 1) := by decide +kernel
theorem d_R_holds_25 : decode b_R_holds 25 = .ok (.goto 4, 3) := by decide +kernel
theorem d_R_holds_28 : decode b_R_holds 28 = .ok (.iconst 0, 1) := by decide +kernel
theorem d_R_holds_29 : decode b_R_holds 29 = .ok (.if_icmp .ne 7, 3) := by decide +kernel
theorem d_R_holds_32 : decode b_R_holds 32 = .ok (.iconst 1, 1) := by decide +kernel
theorem d_R_holds_33 : decode b_R_holds 33 = .ok (.goto 4, 3) := by decide +kernel
theorem d_R_holds_36 : decode b_R_holds 36 = .ok (.iconst 0, 1) := by decide +kernel
theorem d_R_holds_37 : decode b_R_holds 37 = .ok (.ireturn, 1) := by decide +kernel
theorem d_R_reckons_0 : decode b_R_reckons 0 = .ok (.aload_n 0, 1) := by decide +kernel
theorem d_R_reckons_1 : decode b_R_reckons 1 = .ok (.getfield 31, 3) := by decide +kernel
theorem d_R_reckons_4 : decode b_R_reckons 4 = .ok (.bipush 7, 2) := by decide +kernel
theorem d_R_reckons_6 : decode b_R_reckons 6 = .ok (.iaload, 1) := by decide +kernel
theorem d_R_reckons_7 : decode b_R_reckons 7 = .ok (.istore_n 3, 1) := by decide +kernel
theorem d_R_reckons_8 : decode b_R_reckons 8 = .ok (.aload_n 0, 1) := by decide +kernel
theorem d_R_reckons_9 : decode b_R_reckons 9 = .ok (.bipush 16, 2) := by decide +kernel
theorem d_R_reckons_11 : decode b_R_reckons 11 = .ok (.invokevirtual 227, 3) := by decide +kernel
theorem d_R_reckons_14 : decode b_R_reckons 14 = .ok (.ifCond .eq 17, 3) := by decide +kernel
theorem d_R_reckons_17 : decode b_R_reckons 17 = .ok (.iload_n 1, 1) := by decide +kernel
theorem d_R_reckons_18 : decode b_R_reckons 18 = .ok (.iconst 1, 1) := by decide +kernel
theorem d_R_reckons_19 : decode b_R_reckons 19 = .ok (.if_icmp .eq 8, 3) := by decide +kernel
theorem d_R_reckons_22 : decode b_R_reckons 22 = .ok (.iload_n 1, 1) := by decide +kernel
theorem d_R_reckons_23 : decode b_R_reckons 23 = .ok (.iconst 3, 1) := by decide +kernel
theorem d_R_reckons_24 : decode b_R_reckons 24 = .ok (.if_icmp .ne 7, 3) := by decide +kernel
theorem d_R_reckons_27 : decode b_R_reckons 27 = .ok (.iconst 1, 1) := by decide +kernel
theorem d_R_reckons_28 : decode b_R_reckons 28 = .ok (.goto 4, 3) := by decide +kernel
theorem d_R_reckons_31 : decode b_R_reckons 31 = .ok (.iconst 0, 1) := by decide +kernel
theorem d_R_reckons_32 : decode b_R_reckons 32 = .ok (.istore 4, 2) := by decide +kernel
theorem d_R_reckons_34 : decode b_R_reckons 34 = .ok (.iload_n 1, 1) := by decide +kernel
theorem d_R_reckons_35 : decode b_R_reckons 35 = .ok (.iconst 2, 1) := by decide +kernel
theorem d_R_reckons_36 : decode b_R_reckons 36 = .ok (.if_icmp .ge 82, 3) := by decide +kernel
theorem d_R_reckons_39 : decode b_R_reckons 39 = .ok (.iload_n 3, 1) := by decide +kernel
theorem d_R_reckons_40 : decode b_R_reckons 40 = .ok (.iload_n 2, 1) := by decide +kernel
theorem d_R_reckons_41 : decode b_R_reckons 41 = .ok (.iadd, 1) := by decide +kernel
theorem d_R_reckons_42 : decode b_R_reckons 42 = .ok (.iload 4, 2) := by decide +kernel
theorem d_R_reckons_44 : decode b_R_reckons 44 = .ok (.iadd, 1) := by decide +kernel
theorem d_R_reckons_45 : decode b_R_reckons 45 = .ok (.istore 5, 2) := by decide +kernel
theorem d_R_reckons_47 : decode b_R_reckons 47 = .ok (.aload_n 0, 1) := by decide +kernel
theorem d_R_reckons_48 : decode b_R_reckons 48 = .ok (.getfield 31, 3) := by decide +kernel
theorem d_R_reckons_51 : decode b_R_reckons 51 = .ok (.bipush 7, 2) := by decide +kernel
theorem d_R_reckons_53 : decode b_R_reckons 53 = .ok (.iload 5, 2) := by decide +kernel
theorem d_R_reckons_55 : decode b_R_reckons 55 = .ok (.sipush 255, 3) := by decide +kernel
theorem d_R_reckons_58 : decode b_R_reckons 58 = .ok (.iand, 1) := by decide +kernel
theorem d_R_reckons_59 : decode b_R_reckons 59 = .ok (.iastore, 1) := by decide +kernel
theorem d_R_reckons_60 : decode b_R_reckons 60 = .ok (.aload_n 0, 1) := by decide +kernel
theorem d_R_reckons_61 : decode b_R_reckons 61 = .ok (.aload_n 0, 1) := by decide +kernel
theorem d_R_reckons_62 : decode b_R_reckons 62 = .ok (.getfield 31, 3) := by decide +kernel
theorem d_R_reckons_65 : decode b_R_reckons 65 = .ok (.bipush 7, 2) := by decide +kernel
theorem d_R_reckons_67 : decode b_R_reckons 67 = .ok (.iaload, 1) := by decide +kernel
theorem d_R_reckons_68 : decode b_R_reckons 68 = .ok (.ifCond .ne 7, 3) := by decide +kernel
theorem d_R_reckons_71 : decode b_R_reckons 71 = .ok (.iconst 1, 1) := by decide +kernel
theorem d_R_reckons_72 : decode b_R_reckons 72 = .ok (.goto 4, 3) := by decide +kernel
theorem d_R_reckons_75 : decode b_R_reckons 75 = .ok (.iconst 0, 1) := by decide +kernel
theorem d_R_reckons_76 : decode b_R_reckons 76 = .ok (.iconst 0, 1) := by decide +kernel
theorem d_R_reckons_77 : decode b_R_reckons 77 = .ok (.iload_n 3, 1) := by decide +kernel
theorem d_R_reckons_78 : decode b_R_reckons 78 = .ok (.bipush 15, 2) := by decide +kernel
theorem d_R_reckons_80 : decode b_R_reckons 80 = .ok (.iand, 1) := by decide +kernel
theorem d_R_reckons_81 : decode b_R_reckons 81 = .ok (.iload_n 2, 1) := by decide +kernel
theorem d_R_reckons_82 : decode b_R_reckons 82 = .ok (.bipush 15, 2) := by decide +kernel
theorem d_R_reckons_84 : decode b_R_reckons 84 = .ok (.iand, 1) := by decide +kernel
theorem d_R_reckons_85 : decode b_R_reckons 85 = .ok (.iadd, 1) := by decide +kernel
theorem d_R_reckons_86 : decode b_R_reckons 86 = .ok (.iload 4, 2) := by decide +kernel
theorem d_R_reckons_88 : decode b_R_reckons 88 = .ok (.iadd, 1) := by decide +kernel
theorem d_R_reckons_89 : decode b_R_reckons 89 = .ok (.bipush 15, 2) := by decide +kernel
theorem d_R_reckons_91 : decode b_R_reckons 91 = .ok (.if_icmp .le 7, 3) := by decide +kernel
theorem d_R_reckons_94 : decode b_R_reckons 94 = .ok (.iconst 1, 1) := by decide +kernel
theorem d_R_reckons_95 : decode b_R_reckons 95 = .ok (.goto 4, 3) := by decide +kernel
theorem d_R_reckons_98 : decode b_R_reckons 98 = .ok (.iconst 0, 1) := by decide +kernel
theorem d_R_reckons_99 : decode b_R_reckons 99 = .ok (.iload 5, 2) := by decide +kernel
theorem d_R_reckons_101 : decode b_R_reckons 101 = .ok (.sipush 255, 3) := by decide +kernel
theorem d_R_reckons_104 : decode b_R_reckons 104 = .ok (.if_icmp .le 7, 3) := by decide +kernel
theorem d_R_reckons_107 : decode b_R_reckons 107 = .ok (.iconst 1, 1) := by decide +kernel
theorem d_R_reckons_108 : decode b_R_reckons 108 = .ok (.goto 4, 3) := by decide +kernel
theorem d_R_reckons_111 : decode b_R_reckons 111 = .ok (.iconst 0, 1) := by decide +kernel
theorem d_R_reckons_112 : decode b_R_reckons 112 = .ok (.invokevirtual 231, 3) := by decide +kernel
theorem d_R_reckons_115 : decode b_R_reckons 115 = .ok (.goto 161, 3) := by decide +kernel
theorem d_R_reckons_118 : decode b_R_reckons 118 = .ok (.iload_n 1, 1) := by decide +kernel
theorem d_R_reckons_119 : decode b_R_reckons 119 = .ok (.iconst 2, 1) := by decide +kernel
theorem d_R_reckons_120 : decode b_R_reckons 120 = .ok (.if_icmp .eq 14, 3) := by decide +kernel
theorem d_R_reckons_123 : decode b_R_reckons 123 = .ok (.iload_n 1, 1) := by decide +kernel
theorem d_R_reckons_124 : decode b_R_reckons 124 = .ok (.iconst 3, 1) := by decide +kernel
theorem d_R_reckons_125 : decode b_R_reckons 125 = .ok (.if_icmp .eq 9, 3) := by decide +kernel
theorem d_R_reckons_128 : decode b_R_reckons 128 = .ok (.iload_n 1, 1) := by decide +kernel
theorem d_R_reckons_129 : decode b_R_reckons 129 = .ok (.bipush 7, 2) := by decide +kernel
theorem d_R_reckons_131 : decode b_R_reckons 131 = .ok (.if_icmp .ne 82, 3) := by decide +kernel
theorem d_R_reckons_134 : decode b_R_reckons 134 = .ok (.iload_n 3, 1) := by decide +kernel
theorem d_R_reckons_135 : decode b_R_reckons 135 = .ok (.iload_n 2, 1) := by decide +kernel
theorem d_R_reckons_136 : decode b_R_reckons 136 = .ok (.isub, 1) := by decide +kernel
theorem d_R_reckons_137 : decode b_R_reckons 137 = .ok (.iload 4, 2) := by decide +kernel
theorem d_R_reckons_139 : decode b_R_reckons 139 = .ok (.isub, 1) := by decide +kernel
theorem d_R_reckons_140 : decode b_R_reckons 140 = .ok (.istore 5, 2) := by decide +kernel
theorem d_R_reckons_142 : decode b_R_reckons 142 = .ok (.iload_n 1, 1) := by decide +kernel
theorem d_R_reckons_143 : decode b_R_reckons 143 = .ok (.bipush 7, 2) := by decide +kernel
theorem d_R_reckons_145 : decode b_R_reckons 145 = .ok (.if_icmp .eq 16, 3) := by decide +kernel
theorem d_R_reckons_148 : decode b_R_reckons 148 = .ok (.aload_n 0, 1) := by decide +kernel
theorem d_R_reckons_149 : decode b_R_reckons 149 = .ok (.getfield 31, 3) := by decide +kernel
theorem d_R_reckons_152 : decode b_R_reckons 152 = .ok (.bipush 7, 2) := by decide +kernel
theorem d_R_reckons_154 : decode b_R_reckons 154 = .ok (.iload 5, 2) := by decide +kernel
theorem d_R_reckons_156 : decode b_R_reckons 156 = .ok (.sipush 255, 3) := by decide +kernel
theorem d_R_reckons_159 : decode b_R_reckons 159 = .ok (.iand, 1) := by decide +kernel
theorem d_R_reckons_160 : decode b_R_reckons 160 = .ok (.iastore, 1) := by decide +kernel
theorem d_R_reckons_161 : decode b_R_reckons 161 = .ok (.aload_n 0, 1) := by decide +kernel
theorem d_R_reckons_162 : decode b_R_reckons 162 = .ok (.iload 5, 2) := by decide +kernel
theorem d_R_reckons_164 : decode b_R_reckons 164 = .ok (.sipush 255, 3) := by decide +kernel
theorem d_R_reckons_167 : decode b_R_reckons 167 = .ok (.iand, 1) := by decide +kernel
theorem d_R_reckons_168 : decode b_R_reckons 168 = .ok (.ifCond .ne 7, 3) := by decide +kernel
theorem d_R_reckons_171 : decode b_R_reckons 171 = .ok (.iconst 1, 1) := by decide +kernel
theorem d_R_reckons_172 : decode b_R_reckons 172 = .ok (.goto 4, 3) := by decide +kernel
theorem d_R_reckons_175 : decode b_R_reckons 175 = .ok (.iconst 0, 1) := by decide +kernel
theorem d_R_reckons_176 : decode b_R_reckons 176 = .ok (.iconst 1, 1) := by decide +kernel
theorem d_R_reckons_177 : decode b_R_reckons 177 = .ok (.iload_n 3, 1) := by decide +kernel
theorem d_R_reckons_178 : decode b_R_reckons 178 = .ok (.bipush 15, 2) := by decide +kernel
theorem d_R_reckons_180 : decode b_R_reckons 180 = .ok (.iand, 1) := by decide +kernel
theorem d_R_reckons_181 : decode b_R_reckons 181 = .ok (.iload_n 2, 1) := by decide +kernel
theorem d_R_reckons_182 : decode b_R_reckons 182 = .ok (.bipush 15, 2) := by decide +kernel
theorem d_R_reckons_184 : decode b_R_reckons 184 = .ok (.iand, 1) := by decide +kernel
theorem d_R_reckons_185 : decode b_R_reckons 185 = .ok (.isub, 1) := by decide +kernel
theorem d_R_reckons_186 : decode b_R_reckons 186 = .ok (.iload 4, 2) := by decide +kernel
theorem d_R_reckons_188 : decode b_R_reckons 188 = .ok (.isub, 1) := by decide +kernel
theorem d_R_reckons_189 : decode b_R_reckons 189 = .ok (.ifCond .ge 7, 3) := by decide +kernel
theorem d_R_reckons_192 : decode b_R_reckons 192 = .ok (.iconst 1, 1) := by decide +kernel
theorem d_R_reckons_193 : decode b_R_reckons 193 = .ok (.goto 4, 3) := by decide +kernel
theorem d_R_reckons_196 : decode b_R_reckons 196 = .ok (.iconst 0, 1) := by decide +kernel
theorem d_R_reckons_197 : decode b_R_reckons 197 = .ok (.iload 5, 2) := by decide +kernel
theorem d_R_reckons_199 : decode b_R_reckons 199 = .ok (.ifCond .ge 7, 3) := by decide +kernel
theorem d_R_reckons_202 : decode b_R_reckons 202 = .ok (.iconst 1, 1) := by decide +kernel
theorem d_R_reckons_203 : decode b_R_reckons 203 = .ok (.goto 4, 3) := by decide +kernel
theorem d_R_reckons_206 : decode b_R_reckons 206 = .ok (.iconst 0, 1) := by decide +kernel
theorem d_R_reckons_207 : decode b_R_reckons 207 = .ok (.invokevirtual 231, 3) := by decide +kernel
theorem d_R_reckons_210 : decode b_R_reckons 210 = .ok (.goto 66, 3) := by decide +kernel
theorem d_R_reckons_213 : decode b_R_reckons 213 = .ok (.aload_n 0, 1) := by decide +kernel
theorem d_R_reckons_214 : decode b_R_reckons 214 = .ok (.getfield 31, 3) := by decide +kernel
theorem d_R_reckons_217 : decode b_R_reckons 217 = .ok (.bipush 7, 2) := by decide +kernel
theorem d_R_reckons_219 : decode b_R_reckons 219 = .ok (.iload_n 1, 1) := by decide +kernel
theorem d_R_reckons_220 : decode b_R_reckons 220 = .ok (.iconst 4, 1) := by decide +kernel
theorem d_R_reckons_221 : decode b_R_reckons 221 = .ok (.if_icmp .ne 9, 3) := by decide +kernel
theorem d_R_reckons_224 : decode b_R_reckons 224 = .ok (.iload_n 3, 1) := by decide +kernel
theorem d_R_reckons_225 : decode b_R_reckons 225 = .ok (.iload_n 2, 1) := by decide +kernel
theorem d_R_reckons_226 : decode b_R_reckons 226 = .ok (.iand, 1) := by decide +kernel
theorem d_R_reckons_227 : decode b_R_reckons 227 = .ok (.goto 17, 3) := by decide +kernel
theorem d_R_reckons_230 : decode b_R_reckons 230 = .ok (.iload_n 1, 1) := by decide +kernel
theorem d_R_reckons_231 : decode b_R_reckons 231 = .ok (.iconst 5, 1) := by decide +kernel
theorem d_R_reckons_232 : decode b_R_reckons 232 = .ok (.if_icmp .ne 9, 3) := by decide +kernel
theorem d_R_reckons_235 : decode b_R_reckons 235 = .ok (.iload_n 3, 1) := by decide +kernel
theorem d_R_reckons_236 : decode b_R_reckons 236 = .ok (.iload_n 2, 1) := by decide +kernel
theorem d_R_reckons_237 : decode b_R_reckons 237 = .ok (.ixor, 1) := by decide +kernel
theorem d_R_reckons_238 : decode b_R_reckons 238 = .ok (.goto 6, 3) := by decide +kernel
theorem d_R_reckons_241 : decode b_R_reckons 241 = .ok (.iload_n 3, 1) := by decide +kernel
theorem d_R_reckons_242 : decode b_R_reckons 242 = .ok (.iload_n 2, 1) := by decide +kernel
theorem d_R_reckons_243 : decode b_R_reckons 243 = .ok (.ior, 1) := by decide +kernel
theorem d_R_reckons_244 : decode b_R_reckons 244 = .ok (.iastore, 1) := by decide +kernel
theorem d_R_reckons_245 : decode b_R_reckons 245 = .ok (.aload_n 0, 1) := by decide +kernel
theorem d_R_reckons_246 : decode b_R_reckons 246 = .ok (.aload_n 0, 1) := by decide +kernel
theorem d_R_reckons_247 : decode b_R_reckons 247 = .ok (.getfield 31, 3) := by decide +kernel
theorem d_R_reckons_250 : decode b_R_reckons 250 = .ok (.bipush 7, 2) := by decide +kernel
theorem d_R_reckons_252 : decode b_R_reckons 252 = .ok (.iaload, 1) := by decide +kernel
theorem d_R_reckons_253 : decode b_R_reckons 253 = .ok (.ifCond .ne 7, 3) := by decide +kernel
theorem d_R_reckons_256 : decode b_R_reckons 256 = .ok (.iconst 1, 1) := by decide +kernel
theorem d_R_reckons_257 : decode b_R_reckons 257 = .ok (.goto 4, 3) := by decide +kernel
theorem d_R_reckons_260 : decode b_R_reckons 260 = .ok (.iconst 0, 1) := by decide +kernel
theorem d_R_reckons_261 : decode b_R_reckons 261 = .ok (.iconst 0, 1) := by decide +kernel
theorem d_R_reckons_262 : decode b_R_reckons 262 = .ok (.iload_n 1, 1) := by decide +kernel
theorem d_R_reckons_263 : decode b_R_reckons 263 = .ok (.iconst 4, 1) := by decide +kernel
theorem d_R_reckons_264 : decode b_R_reckons 264 = .ok (.if_icmp .ne 7, 3) := by decide +kernel
theorem d_R_reckons_267 : decode b_R_reckons 267 = .ok (.iconst 1, 1) := by decide +kernel
theorem d_R_reckons_268 : decode b_R_reckons 268 = .ok (.goto 4, 3) := by decide +kernel
theorem d_R_reckons_271 : decode b_R_reckons 271 = .ok (.iconst 0, 1) := by decide +kernel
theorem d_R_reckons_272 : decode b_R_reckons 272 = .ok (.iconst 0, 1) := by decide +kernel
theorem d_R_reckons_273 : decode b_R_reckons 273 = .ok (.invokevirtual 231, 3) := by decide +kernel
theorem d_R_reckons_276 : decode b_R_reckons 276 = .ok (.return_, 1) := by decide +kernel
