set_option maxRecDepth 100000 in
theorem k_75 : Cond.constantLong "TileConsoleLaw" 64 4294967295 ∈ WA := WAm 1313 (by decide +kernel) (by decide +kernel)
set_option maxRecDepth 100000 in
theorem k_76 : Cond.methodLink "TileConsoleLaw" 66 ⟨"TileConsoleLaw", "rom", "(LTileConsole;IIIJ[J)I"⟩ ∈ WA := WAm 372 (by decide +kernel) (by decide +kernel)
set_option maxRecDepth 100000 in
theorem k_77 : Cond.static ⟨"TileConsoleLaw", "rom", "(LTileConsole;IIIJ[J)I"⟩ ∈ WA := WAm 373 (by decide +kernel) (by decide +kernel)
set_option maxRecDepth 100000 in
theorem k_78 : Cond.initialized "TileConsoleLaw" ∈ WA := WAm 98 (by decide +kernel) (by decide +kernel)
set_option maxRecDepth 100000 in
theorem k_79 : Cond.methodLink "TileConsoleLaw" 71 ⟨"TileConsoleModel", "rom", "(IIIJ)I"⟩ ∈ WA := WAm 1073 (by decide +kernel) (by decide +kernel)
set_option maxRecDepth 100000 in
theorem k_80 : Cond.methodLink "TileConsoleLaw" 72 ⟨"TileConsoleLaw", "insert", "(LTileConsole;I[J)I"⟩ ∈ WA := WAm 471 (by decide +kernel) (by decide +kernel)
set_option maxRecDepth 100000 in
theorem k_81 : Cond.static ⟨"TileConsoleLaw", "insert", "(LTileConsole;I[J)I"⟩ ∈ WA := WAm 472 (by decide +kernel) (by decide +kernel)
set_option maxRecDepth 100000 in
theorem k_82 : Cond.methodLink "TileConsoleLaw" 75 ⟨"TileConsoleModel", "insert", "(I)I"⟩ ∈ WA := WAm 1085 (by decide +kernel) (by decide +kernel)
set_option maxRecDepth 100000 in
theorem k_83 : Cond.methodLink "TileConsoleLaw" 76 ⟨"TileConsoleLaw", "run", "(LTileConsole;I[J)I"⟩ ∈ WA := WAm 500 (by decide +kernel) (by decide +kernel)
set_option maxRecDepth 100000 in
theorem k_84 : Cond.static ⟨"TileConsoleLaw", "run", "(LTileConsole;I[J)I"⟩ ∈ WA := WAm 501 (by decide +kernel) (by decide +kernel)
set_option maxRecDepth 100000 in
theorem k_85 : Cond.methodLink "TileConsoleLaw" 78 ⟨"TileConsoleModel", "run", "(I)I"⟩ ∈ WA := WAm 1089 (by decide +kernel) (by decide +kernel)
set_option maxRecDepth 100000 in
theorem k_86 : Cond.methodLink "TileConsoleLaw" 79 ⟨"TileConsoleLaw", "set", "(LTileConsole;II[J)I"⟩ ∈ WA := WAm 763 (by decide +kernel) (by decide +kernel)
set_option maxRecDepth 100000 in
theorem k_87 : Cond.static ⟨"TileConsoleLaw", "set", "(LTileConsole;II[J)I"⟩ ∈ WA := WAm 764 (by decide +kernel) (by decide +kernel)
set_option maxRecDepth 100000 in
theorem k_88 : Cond.methodLink "TileConsoleLaw" 82 ⟨"TileConsoleModel", "set", "(II)I"⟩ ∈ WA := WAm 1252 (by decide +kernel) (by decide +kernel)
set_option maxRecDepth 100000 in
theorem k_89 : Cond.methodLink "TileConsoleLaw" 83 ⟨"TileConsoleLaw", "register", "(LTileConsole;I[J)I"⟩ ∈ WA := WAm 781 (by decide +kernel) (by decide +kernel)
set_option maxRecDepth 100000 in
theorem k_90 : Cond.static ⟨"TileConsoleLaw", "register", "(LTileConsole;I[J)I"⟩ ∈ WA := WAm 782 (by decide +kernel) (by decide +kernel)
set_option maxRecDepth 100000 in
theorem k_91 : Cond.methodLink "TileConsoleLaw" 85 ⟨"TileConsoleModel", "register", "(I)I"⟩ ∈ WA := WAm 1260 (by decide +kernel) (by decide +kernel)
set_option maxRecDepth 100000 in
theorem k_92 : Cond.methodLink "TileConsoleLaw" 86 ⟨"TileConsoleLaw", "read", "(LTileConsole;I[J)I"⟩ ∈ WA := WAm 788 (by decide +kernel) (by decide +kernel)
set_option maxRecDepth 100000 in
theorem k_93 : Cond.static ⟨"TileConsoleLaw", "read", "(LTileConsole;I[J)I"⟩ ∈ WA := WAm 789 (by decide +kernel) (by decide +kernel)
set_option maxRecDepth 100000 in
theorem k_94 : Cond.methodLink "TileConsoleLaw" 88 ⟨"TileConsoleModel", "read", "(I)I"⟩ ∈ WA := WAm 1264 (by decide +kernel) (by decide +kernel)
set_option maxRecDepth 100000 in
theorem k_95 : Cond.methodLink "TileConsoleLaw" 89 ⟨"TileConsoleLaw", "write", "(LTileConsole;IIJ[J)I"⟩ ∈ WA := WAm 798 (by decide +kernel) (by decide +kernel)
set_option maxRecDepth 100000 in
theorem k_96 : Cond.static ⟨"TileConsoleLaw", "write", "(LTileConsole;IIJ[J)I"⟩ ∈ WA := WAm 799 (by decide +kernel) (by decide +kernel)
set_option maxRecDepth 100000 in
theorem k_97 : Cond.methodLink "TileConsoleLaw" 92 ⟨"TileConsoleModel", "write", "(IIJ)I"⟩ ∈ WA := WAm 1268 (by decide +kernel) (by decide +kernel)
set_option maxRecDepth 100000 in
theorem k_98 : Cond.methodLink "TileConsoleLaw" 93 ⟨"TileConsoleLaw", "keys", "(LTileConsole;I[J)I"⟩ ∈ WA := WAm 808 (by decide +kernel) (by decide +kernel)
set_option maxRecDepth 100000 in
theorem k_99 : Cond.static ⟨"TileConsoleLaw", "keys", "(LTileConsole;I[J)I"⟩ ∈ WA := WAm 809 (by decide +kernel) (by decide +kernel)
set_option maxRecDepth 100000 in
theorem k_100 : Cond.methodLink "TileConsoleLaw" 95 ⟨"TileConsoleModel", "keys", "(I)I"⟩ ∈ WA := WAm 1273 (by decide +kernel) (by decide +kernel)
set_option maxRecDepth 100000 in
theorem k_101 : Cond.methodLink "TileConsoleLaw" 96 ⟨"TileConsoleLaw", "row", "(LTileConsole;I[J)I"⟩ ∈ WA := WAm 820 (by decide +kernel) (by decide +kernel)
set_option maxRecDepth 100000 in
theorem k_102 : Cond.static ⟨"TileConsoleLaw", "row", "(LTileConsole;I[J)I"⟩ ∈ WA := WAm 821 (by decide +kernel) (by decide +kernel)
set_option maxRecDepth 100000 in
theorem k_103 : Cond.methodLink "TileConsoleLaw" 98 ⟨"TileConsoleModel", "row", "(I)I"⟩ ∈ WA := WAm 1277 (by decide +kernel) (by decide +kernel)
set_option maxRecDepth 100000 in
theorem k_104 : Cond.methodLink "TileConsoleLaw" 99 ⟨"TileConsoleLaw", "pixel", "(LTileConsole;I[J)I"⟩ ∈ WA := WAm 860 (by decide +kernel) (by decide +kernel)
set_option maxRecDepth 100000 in
theorem k_105 : Cond.static ⟨"TileConsoleLaw", "pixel", "(LTileConsole;I[J)I"⟩ ∈ WA := WAm 861 (by decide +kernel) (by decide +kernel)
set_option maxRecDepth 100000 in
theorem k_106 : Cond.methodLink "TileConsoleLaw" 101 ⟨"TileConsoleModel", "pixel", "(I)I"⟩ ∈ WA := WAm 1300 (by decide +kernel) (by decide +kernel)
set_option maxRecDepth 100000 in
theorem k_107 : Cond.methodLink "TileConsoleLaw" 102 ⟨"TileConsoleLaw", "count", "(LTileConsole;I[J)I"⟩ ∈ WA := WAm 868 (by decide +kernel) (by decide +kernel)
set_option maxRecDepth 100000 in
theorem k_108 : Cond.static ⟨"TileConsoleLaw", "count", "(LTileConsole;I[J)I"⟩ ∈ WA := WAm 869 (by decide +kernel) (by decide +kernel)
set_option maxRecDepth 100000 in
theorem k_109 : Cond.methodLink "TileConsoleLaw" 104 ⟨"TileConsoleModel", "count", "(I)I"⟩ ∈ WA := WAm 1304 (by decide +kernel) (by decide +kernel)
set_option maxRecDepth 100000 in
theorem k_110 : Cond.methodLink "TileConsoleLaw" 105 ⟨"TileConsoleModel", "thrown", "()I"⟩ ∈ WA := WAm 1069 (by decide +kernel) (by decide +kernel)
set_option maxRecDepth 100000 in
theorem k_111 : Cond.methodLink "TileConsoleLaw" 109 ⟨"TileConsoleLaw", "speed", "(LTileConsole;[D)I"⟩ ∈ WA := WAm 876 (by decide +kernel) (by decide +kernel)
set_option maxRecDepth 100000 in
theorem k_112 : Cond.static ⟨"TileConsoleLaw", "speed", "(LTileConsole;[D)I"⟩ ∈ WA := WAm 877 (by decide +kernel) (by decide +kernel)
set_option maxRecDepth 100000 in
theorem k_113 : Cond.methodLink "TileConsoleLaw" 112 ⟨"TileConsoleModel", "speed", "()D"⟩ ∈ WA := WAm 1308 (by decide +kernel) (by decide +kernel)
theorem d_law_28 : decode code 28 = .ok (.iload 5, 2) := by decide +kernel
theorem d_law_30 : decode code 30 = .ok (.aload_n 0, 1) := by decide +kernel
theorem d_law_31 : decode code 31 = .ok (.arraylength, 1) := by decide +kernel
theorem d_law_32 : decode code 32 = .ok (.bipush 6, 2) := by decide +kernel
theorem d_law_34 : decode code 34 = .ok (.isub, 1) := by decide +kernel
theorem d_law_35 : decode code 35 = .ok (.if_icmp .gt 568, 3) := by decide +kernel
theorem d_law_38 : decode code 38 = .ok (.aload_n 0, 1) := by decide +kernel
theorem d_law_39 : decode code 39 = .ok (.iload 5, 2) := by decide +kernel
theorem d_law_41 : decode code 41 = .ok (.iaload, 1) := by decide +kernel
theorem d_law_42 : decode code 42 = .ok (.bipush 15, 2) := by decide +kernel
theorem d_law_44 : decode code 44 = .ok (.iand, 1) := by decide +kernel
theorem d_law_45 : decode code 45 = .ok (.tableswitch 552 0 11 #[63, 159, 187, 215, 255, 283, 311, 395, 423, 451, 479, 535], 63) := by decide +kernel
theorem d_law_108 : decode code 108 = .ok (.aload_n 1, 1) := by decide +kernel
theorem d_law_109 : decode code 109 = .ok (.aload_n 0, 1) := by decide +kernel
theorem d_law_110 : decode code 110 = .ok (.iload 5, 2) := by decide +kernel
theorem d_law_112 : decode code 112 = .ok (.iconst 1, 1) := by decide +kernel
theorem d_law_113 : decode code 113 = .ok (.iadd, 1) := by decide +kernel
theorem d_law_114 : decode code 114 = .ok (.iaload, 1) := by decide +kernel
theorem d_law_115 : decode code 115 = .ok (.aload_n 0, 1) := by decide +kernel
theorem d_law_116 : decode code 116 = .ok (.iload 5, 2) := by decide +kernel
theorem d_law_118 : decode code 118 = .ok (.iconst 2, 1) := by decide +kernel
theorem d_law_119 : decode code 119 = .ok (.iadd, 1) := by decide +kernel
theorem d_law_120 : decode code 120 = .ok (.iaload, 1) := by decide +kernel
theorem d_law_121 : decode code 121 = .ok (.aload_n 0, 1) := by decide +kernel
theorem d_law_122 : decode code 122 = .ok (.iload 5, 2) := by decide +kernel
theorem d_law_124 : decode code 124 = .ok (.iconst 3, 1) := by decide +kernel
theorem d_law_125 : decode code 125 = .ok (.iadd, 1) := by decide +kernel
theorem d_law_126 : decode code 126 = .ok (.iaload, 1) := by decide +kernel
theorem d_law_127 : decode code 127 = .ok (.aload_n 0, 1) := by decide +kernel
theorem d_law_128 : decode code 128 = .ok (.iload 5, 2) := by decide +kernel
theorem d_law_130 : decode code 130 = .ok (.iconst 4, 1) := by decide +kernel
theorem d_law_131 : decode code 131 = .ok (.iadd, 1) := by decide +kernel
theorem d_law_132 : decode code 132 = .ok (.iaload, 1) := by decide +kernel
theorem d_law_133 : decode code 133 = .ok (.i2l, 1) := by decide +kernel
theorem d_law_134 : decode code 134 = .ok (.bipush 32, 2) := by decide +kernel
theorem d_law_136 : decode code 136 = .ok (.lshl, 1) := by decide +kernel
theorem d_law_137 : decode code 137 = .ok (.aload_n 0, 1) := by decide +kernel
theorem d_law_138 : decode code 138 = .ok (.iload 5, 2) := by decide +kernel
theorem d_law_140 : decode code 140 = .ok (.iconst 5, 1) := by decide +kernel
theorem d_law_141 : decode code 141 = .ok (.iadd, 1) := by decide +kernel
theorem d_law_142 : decode code 142 = .ok (.iaload, 1) := by decide +kernel
theorem d_law_143 : decode code 143 = .ok (.i2l, 1) := by decide +kernel
theorem d_law_144 : decode code 144 = .ok (.ldc2_w 64, 3) := by decide +kernel
theorem d_law_147 : decode code 147 = .ok (.land, 1) := by decide +kernel
theorem d_law_148 : decode code 148 = .ok (.lor, 1) := by decide +kernel
theorem d_law_149 : decode code 149 = .ok (.aload_n 3, 1) := by decide +kernel
theorem d_law_150 : decode code 150 = .ok (.invokestatic 66, 3) := by decide +kernel
theorem d_law_153 : decode code 153 = .ok (.istore 6, 2) := by decide +kernel
theorem d_law_155 : decode code 155 = .ok (.aload_n 2, 1) := by decide +kernel
theorem d_law_156 : decode code 156 = .ok (.aload_n 0, 1) := by decide +kernel
theorem d_law_157 : decode code 157 = .ok (.iload 5, 2) := by decide +kernel
theorem d_law_159 : decode code 159 = .ok (.iconst 1, 1) := by decide +kernel
theorem d_law_160 : decode code 160 = .ok (.iadd, 1) := by decide +kernel
theorem d_law_161 : decode code 161 = .ok (.iaload, 1) := by decide +kernel
theorem d_law_162 : decode code 162 = .ok (.aload_n 0, 1) := by decide +kernel
theorem d_law_163 : decode code 163 = .ok (.iload 5, 2) := by decide +kernel
theorem d_law_165 : decode code 165 = .ok (.iconst 2, 1) := by decide +kernel
theorem d_law_166 : decode code 166 = .ok (.iadd, 1) := by decide +kernel
theorem d_law_167 : decode code 167 = .ok (.iaload, 1) := by decide +kernel
theorem d_law_168 : decode code 168 = .ok (.aload_n 0, 1) := by decide +kernel
theorem d_law_169 : decode code 169 = .ok (.iload 5, 2) := by decide +kernel
theorem d_law_171 : decode code 171 = .ok (.iconst 3, 1) := by decide +kernel
theorem d_law_172 : decode code 172 = .ok (.iadd, 1) := by decide +kernel
theorem d_law_173 : decode code 173 = .ok (.iaload, 1) := by decide +kernel
theorem d_law_174 : decode code 174 = .ok (.aload_n 0, 1) := by decide +kernel
theorem d_law_175 : decode code 175 = .ok (.iload 5, 2) := by decide +kernel
theorem d_law_177 : decode code 177 = .ok (.iconst 4, 1) := by decide +kernel
theorem d_law_178 : decode code 178 = .ok (.iadd, 1) := by decide +kernel
theorem d_law_179 : decode code 179 = .ok (.iaload, 1) := by decide +kernel
theorem d_law_180 : decode code 180 = .ok (.i2l, 1) := by decide +kernel
theorem d_law_181 : decode code 181 = .ok (.bipush 32, 2) := by decide +kernel
theorem d_law_183 : decode code 183 = .ok (.lshl, 1) := by decide +kernel
theorem d_law_184 : decode code 184 = .ok (.aload_n 0, 1) := by decide +kernel
theorem d_law_185 : decode code 185 = .ok (.iload 5, 2) := by decide +kernel
theorem d_law_187 : decode code 187 = .ok (.iconst 5, 1) := by decide +kernel
theorem d_law_188 : decode code 188 = .ok (.iadd, 1) := by decide +kernel
theorem d_law_189 : decode code 189 = .ok (.iaload, 1) := by decide +kernel
theorem d_law_190 : decode code 190 = .ok (.i2l, 1) := by decide +kernel
theorem d_law_191 : decode code 191 = .ok (.ldc2_w 64, 3) := by decide +kernel
theorem d_law_194 : decode code 194 = .ok (.land, 1) := by decide +kernel
theorem d_law_195 : decode code 195 = .ok (.lor, 1) := by decide +kernel
theorem d_law_196 : decode code 196 = .ok (.invokevirtual 71, 3) := by decide +kernel
theorem d_law_199 : decode code 199 = .ok (.istore 7, 2) := by decide +kernel
theorem d_law_201 : decode code 201 = .ok (.goto 396, 3) := by decide +kernel
theorem d_law_204 : decode code 204 = .ok (.aload_n 1, 1) := by decide +kernel
theorem d_law_205 : decode code 205 = .ok (.aload_n 0, 1) := by decide +kernel
theorem d_law_206 : decode code 206 = .ok (.iload 5, 2) := by decide +kernel
theorem d_law_208 : decode code 208 = .ok (.iconst 1, 1) := by decide +kernel
theorem d_law_209 : decode code 209 = .ok (.iadd, 1) := by decide +kernel
theorem d_law_210 : decode code 210 = .ok (.iaload, 1) := by decide +kernel
theorem d_law_211 : decode code 211 = .ok (.aload_n 3, 1) := by decide +kernel
theorem d_law_212 : decode code 212 = .ok (.invokestatic 72, 3) := by decide +kernel
theorem d_law_215 : decode code 215 = .ok (.istore 6, 2) := by decide +kernel
theorem d_law_217 : decode code 217 = .ok (.aload_n 2, 1) := by decide +kernel
theorem d_law_218 : decode code 218 = .ok (.aload_n 0, 1) := by decide +kernel
theorem d_law_219 : decode code 219 = .ok (.iload 5, 2) := by decide +kernel
theorem d_law_221 : decode code 221 = .ok (.iconst 1, 1) := by decide +kernel
theorem d_law_222 : decode code 222 = .ok (.iadd, 1) := by decide +kernel
theorem d_law_223 : decode code 223 = .ok (.iaload, 1) := by decide +kernel
theorem d_law_224 : decode code 224 = .ok (.invokevirtual 75, 3) := by decide +kernel
theorem d_law_227 : decode code 227 = .ok (.istore 7, 2) := by decide +kernel
theorem d_law_229 : decode code 229 = .ok (.goto 368, 3) := by decide +kernel
theorem d_law_232 : decode code 232 = .ok (.aload_n 1, 1) := by decide +kernel
theorem d_law_233 : decode code 233 = .ok (.aload_n 0, 1) := by decide +kernel
theorem d_law_234 : decode code 234 = .ok (.iload 5, 2) := by decide +kernel
theorem d_law_236 : decode code 236 = .ok (.iconst 1, 1) := by decide +kernel
theorem d_law_237 : decode code 237 = .ok (.iadd, 1) := by decide +kernel
theorem d_law_238 : decode code 238 = .ok (.iaload, 1) := by decide +kernel
theorem d_law_239 : decode code 239 = .ok (.aload_n 3, 1) := by decide +kernel
theorem d_law_240 : decode code 240 = .ok (.invokestatic 76, 3) := by decide +kernel
theorem d_law_243 : decode code 243 = .ok (.istore 6, 2) := by decide +kernel
theorem d_law_245 : decode code 245 = .ok (.aload_n 2, 1) := by decide +kernel
theorem d_law_246 : decode code 246 = .ok (.aload_n 0, 1) := by decide +kernel
theorem d_law_247 : decode code 247 = .ok (.iload 5, 2) := by decide +kernel
theorem d_law_249 : decode code 249 = .ok (.iconst 1, 1) := by decide +kernel
theorem d_law_250 : decode code 250 = .ok (.iadd, 1) := by decide +kernel
theorem d_law_251 : decode code 251 = .ok (.iaload, 1) := by decide +kernel
theorem d_law_252 : decode code 252 = .ok (.invokevirtual 78, 3) := by decide +kernel
theorem d_law_255 : decode code 255 = .ok (.istore 7, 2) := by decide +kernel
theorem d_law_257 : decode code 257 = .ok (.goto 340, 3) := by decide +kernel
theorem d_law_260 : decode code 260 = .ok (.aload_n 1, 1) := by decide +kernel
theorem d_law_261 : decode code 261 = .ok (.aload_n 0, 1) := by decide +kernel
theorem d_law_262 : decode code 262 = .ok (.iload 5, 2) := by decide +kernel
theorem d_law_264 : decode code 264 = .ok (.iconst 1, 1) := by decide +kernel
theorem d_law_265 : decode code 265 = .ok (.iadd, 1) := by decide +kernel
theorem d_law_266 : decode code 266 = .ok (.iaload, 1) := by decide +kernel
theorem d_law_267 : decode code 267 = .ok (.aload_n 0, 1) := by decide +kernel
theorem d_law_268 : decode code 268 = .ok (.iload 5, 2) := by decide +kernel
theorem d_law_270 : decode code 270 = .ok (.iconst 2, 1) := by decide +kernel
theorem d_law_271 : decode code 271 = .ok (.iadd, 1) := by decide +kernel
theorem d_law_272 : decode code 272 = .ok (.iaload, 1) := by decide +kernel
theorem d_law_273 : decode code 273 = .ok (.aload_n 3, 1) := by decide +kernel
theorem d_law_274 : decode code 274 = .ok (.invokestatic 79, 3) := by decide +kernel
theorem d_law_277 : decode code 277 = .ok (.istore 6, 2) := by decide +kernel
theorem d_law_279 : decode code 279 = .ok (.aload_n 2, 1) := by decide +kernel
theorem d_law_280 : decode code 280 = .ok (.aload_n 0, 1) := by decide +kernel
theorem d_law_281 : decode code 281 = .ok (.iload 5, 2) := by decide +kernel
theorem d_law_283 : decode code 283 = .ok (.iconst 1, 1) := by decide +kernel
theorem d_law_284 : decode code 284 = .ok (.iadd, 1) := by decide +kernel
theorem d_law_285 : decode code 285 = .ok (.iaload, 1) := by decide +kernel
theorem d_law_286 : decode code 286 = .ok (.aload_n 0, 1) := by decide +kernel
theorem d_law_287 : decode code 287 = .ok (.iload 5, 2) := by decide +kernel
theorem d_law_289 : decode code 289 = .ok (.iconst 2, 1) := by decide +kernel
theorem d_law_290 : decode code 290 = .ok (.iadd, 1) := by decide +kernel
theorem d_law_291 : decode code 291 = .ok (.iaload, 1) := by decide +kernel
theorem d_law_292 : decode code 292 = .ok (.invokevirtual 82, 3) := by decide +kernel
theorem d_law_295 : decode code 295 = .ok (.istore 7, 2) := by decide +kernel
theorem d_law_297 : decode code 297 = .ok (.goto 300, 3) := by decide +kernel
theorem d_law_300 : decode code 300 = .ok (.aload_n 1, 1) := by decide +kernel
theorem d_law_301 : decode code 301 = .ok (.aload_n 0, 1) := by decide +kernel
theorem d_law_302 : decode code 302 = .ok (.iload 5, 2) := by decide +kernel
theorem d_law_304 : decode code 304 = .ok (.iconst 1, 1) := by decide +kernel
theorem d_law_305 : decode code 305 = .ok (.iadd, 1) := by decide +kernel
theorem d_law_306 : decode code 306 = .ok (.iaload, 1) := by decide +kernel
theorem d_law_307 : decode code 307 = .ok (.aload_n 3, 1) := by decide +kernel
theorem d_law_308 : decode code 308 = .ok (.invokestatic 83, 3) := by decide +kernel
theorem d_law_311 : decode code 311 = .ok (.istore 6, 2) := by decide +kernel
theorem d_law_313 : decode code 313 = .ok (.aload_n 2, 1) := by decide +kernel
theorem d_law_314 : decode code 314 = .ok (.aload_n 0, 1) := by decide +kernel
theorem d_law_315 : decode code 315 = .ok (.iload 5, 2) := by decide +kernel
theorem d_law_317 : decode code 317 = .ok (.iconst 1, 1) := by decide +kernel
theorem d_law_318 : decode code 318 = .ok (.iadd, 1) := by decide +kernel
theorem d_law_319 : decode code 319 = .ok (.iaload, 1) := by decide +kernel
theorem d_law_320 : decode code 320 = .ok (.invokevirtual 85, 3) := by decide +kernel
theorem d_law_323 : decode code 323 = .ok (.istore 7, 2) := by decide +kernel
theorem d_law_325 : decode code 325 = .ok (.goto 272, 3) := by decide +kernel
theorem d_law_328 : decode code 328 = .ok (.aload_n 1, 1) := by decide +kernel
theorem d_law_329 : decode code 329 = .ok (.aload_n 0, 1) := by decide +kernel
theorem d_law_330 : decode code 330 = .ok (.iload 5, 2) := by decide +kernel
theorem d_law_332 : decode code 332 = .ok (.iconst 1, 1) := by decide +kernel
theorem d_law_333 : decode code 333 = .ok (.iadd, 1) := by decide +kernel
theorem d_law_334 : decode code 334 = .ok (.iaload, 1) := by decide +kernel
theorem d_law_335 : decode code 335 = .ok (.aload_n 3, 1) := by decide +kernel
theorem d_law_336 : decode code 336 = .ok (.invokestatic 86, 3) := by decide +kernel
theorem d_law_339 : decode code 339 = .ok (.istore 6, 2) := by decide +kernel
theorem d_law_341 : decode code 341 = .ok (.aload_n 2, 1) := by decide +kernel
theorem d_law_342 : decode code 342 = .ok (.aload_n 0, 1) := by decide +kernel
theorem d_law_343 : decode code 343 = .ok (.iload 5, 2) := by decide +kernel
theorem d_law_345 : decode code 345 = .ok (.iconst 1, 1) := by decide +kernel
theorem d_law_346 : decode code 346 = .ok (.iadd, 1) := by decide +kernel
theorem d_law_347 : decode code 347 = .ok (.iaload, 1) := by decide +kernel
theorem d_law_348 : decode code 348 = .ok (.invokevirtual 88, 3) := by decide +kernel
theorem d_law_351 : decode code 351 = .ok (.istore 7, 2) := by decide +kernel
theorem d_law_353 : decode code 353 = .ok (.goto 244, 3) := by decide +kernel
theorem d_law_356 : decode code 356 = .ok (.aload_n 1, 1) := by decide +kernel
theorem d_law_357 : decode code 357 = .ok (.aload_n 0, 1) := by decide +kernel
theorem d_law_358 : decode code 358 = .ok (.iload 5, 2) := by decide +kernel
theorem d_law_360 : decode code 360 = .ok (.iconst 1, 1) := by decide +kernel
theorem d_law_361 : decode code 361 = .ok (.iadd, 1) := by decide +kernel
theorem d_law_362 : decode code 362 = .ok (.iaload, 1) := by decide +kernel
theorem d_law_363 : decode code 363 = .ok (.aload_n 0, 1) := by decide +kernel
theorem d_law_364 : decode code 364 = .ok (.iload 5, 2) := by decide +kernel
theorem d_law_366 : decode code 366 = .ok (.iconst 2, 1) := by decide +kernel
theorem d_law_367 : decode code 367 = .ok (.iadd, 1) := by decide +kernel
theorem d_law_368 : decode code 368 = .ok (.iaload, 1) := by decide +kernel
theorem d_law_369 : decode code 369 = .ok (.aload_n 0, 1) := by decide +kernel
theorem d_law_370 : decode code 370 = .ok (.iload 5, 2) := by decide +kernel
theorem d_law_372 : decode code 372 = .ok (.iconst 3, 1) := by decide +kernel
theorem d_law_373 : decode code 373 = .ok (.iadd, 1) := by decide +kernel
theorem d_law_374 : decode code 374 = .ok (.iaload, 1) := by decide +kernel
theorem d_law_375 : decode code 375 = .ok (.i2l, 1) := by decide +kernel
theorem d_law_376 : decode code 376 = .ok (.bipush 32, 2) := by decide +kernel
theorem d_law_378 : decode code 378 = .ok (.lshl, 1) := by decide +kernel
theorem d_law_379 : decode code 379 = .ok (.aload_n 0, 1) := by decide +kernel
theorem d_law_380 : decode code 380 = .ok (.iload 5, 2) := by decide +kernel
theorem d_law_382 : decode code 382 = .ok (.iconst 4, 1) := by decide +kernel
theorem d_law_383 : decode code 383 = .ok (.iadd, 1) := by decide +kernel
theorem d_law_384 : decode code 384 = .ok (.iaload, 1) := by decide +kernel
theorem d_law_385 : decode code 385 = .ok (.i2l, 1) := by decide +kernel
theorem d_law_386 : decode code 386 = .ok (.ldc2_w 64, 3) := by decide +kernel
theorem d_law_389 : decode code 389 = .ok (.land, 1) := by decide +kernel
theorem d_law_390 : decode code 390 = .ok (.lor, 1) := by decide +kernel
theorem d_law_391 : decode code 391 = .ok (.aload_n 3, 1) := by decide +kernel
theorem d_law_392 : decode code 392 = .ok (.invokestatic 89, 3) := by decide +kernel
theorem d_law_395 : decode code 395 = .ok (.istore 6, 2) := by decide +kernel
theorem d_law_397 : decode code 397 = .ok (.aload_n 2, 1) := by decide +kernel
theorem d_law_398 : decode code 398 = .ok (.aload_n 0, 1) := by decide +kernel
theorem d_law_399 : decode code 399 = .ok (.iload 5, 2) := by decide +kernel
theorem d_law_401 : decode code 401 = .ok (.iconst 1, 1) := by decide +kernel
theorem d_law_402 : decode code 402 = .ok (.iadd, 1) := by decide +kernel
theorem d_law_403 : decode code 403 = .ok (.iaload, 1) := by decide +kernel
theorem d_law_404 : decode code 404 = .ok (.aload_n 0, 1) := by decide +kernel
theorem d_law_405 : decode code 405 = .ok (.iload 5, 2) := by decide +kernel
theorem d_law_407 : decode code 407 = .ok (.iconst 2, 1) := by decide +kernel
theorem d_law_408 : decode code 408 = .ok (.iadd, 1) := by decide +kernel
theorem d_law_409 : decode code 409 = .ok (.iaload, 1) := by decide +kernel
theorem d_law_410 : decode code 410 = .ok (.aload_n 0, 1) := by decide +kernel
theorem d_law_411 : decode code 411 = .ok (.iload 5, 2) := by decide +kernel
theorem d_law_413 : decode code 413 = .ok (.iconst 3, 1) := by decide +kernel
theorem d_law_414 : decode code 414 = .ok (.iadd, 1) := by decide +kernel
theorem d_law_415 : decode code 415 = .ok (.iaload, 1) := by decide +kernel
theorem d_law_416 : decode code 416 = .ok (.i2l, 1) := by decide +kernel
theorem d_law_417 : decode code 417 = .ok (.bipush 32, 2) := by decide +kernel
theorem d_law_419 : decode code 419 = .ok (.lshl, 1) := by decide +kernel
theorem d_law_420 : decode code 420 = .ok (.aload_n 0, 1) := by decide +kernel
theorem d_law_421 : decode code 421 = .ok (.iload 5, 2) := by decide +kernel
theorem d_law_423 : decode code 423 = .ok (.iconst 4, 1) := by decide +kernel
theorem d_law_424 : decode code 424 = .ok (.iadd, 1) := by decide +kernel
theorem d_law_425 : decode code 425 = .ok (.iaload, 1) := by decide +kernel
theorem d_law_426 : decode code 426 = .ok (.i2l, 1) := by decide +kernel
theorem d_law_427 : decode code 427 = .ok (.ldc2_w 64, 3) := by decide +kernel
theorem d_law_430 : decode code 430 = .ok (.land, 1) := by decide +kernel
theorem d_law_431 : decode code 431 = .ok (.lor, 1) := by decide +kernel
theorem d_law_432 : decode code 432 = .ok (.invokevirtual 92, 3) := by decide +kernel
theorem d_law_435 : decode code 435 = .ok (.istore 7, 2) := by decide +kernel
theorem d_law_437 : decode code 437 = .ok (.goto 160, 3) := by decide +kernel
theorem d_law_440 : decode code 440 = .ok (.aload_n 1, 1) := by decide +kernel
theorem d_law_441 : decode code 441 = .ok (.aload_n 0, 1) := by decide +kernel
theorem d_law_442 : decode code 442 = .ok (.iload 5, 2) := by decide +kernel
theorem d_law_444 : decode code 444 = .ok (.iconst 1, 1) := by decide +kernel
theorem d_law_445 : decode code 445 = .ok (.iadd, 1) := by decide +kernel
theorem d_law_446 : decode code 446 = .ok (.iaload, 1) := by decide +kernel
theorem d_law_447 : decode code 447 = .ok (.aload_n 3, 1) := by decide +kernel
theorem d_law_448 : decode code 448 = .ok (.invokestatic 93, 3) := by decide +kernel
theorem d_law_451 : decode code 451 = .ok (.istore 6, 2) := by decide +kernel
theorem d_law_453 : decode code 453 = .ok (.aload_n 2, 1) := by decide +kernel
theorem d_law_454 : decode code 454 = .ok (.aload_n 0, 1) := by decide +kernel
theorem d_law_455 : decode code 455 = .ok (.iload 5, 2) := by decide +kernel
theorem d_law_457 : decode code 457 = .ok (.iconst 1, 1) := by decide +kernel
theorem d_law_458 : decode code 458 = .ok (.iadd, 1) := by decide +kernel
theorem d_law_459 : decode code 459 = .ok (.iaload, 1) := by decide +kernel
theorem d_law_460 : decode code 460 = .ok (.invokevirtual 95, 3) := by decide +kernel
theorem d_law_463 : decode code 463 = .ok (.istore 7, 2) := by decide +kernel
theorem d_law_465 : decode code 465 = .ok (.goto 132, 3) := by decide +kernel
theorem d_law_468 : decode code 468 = .ok (.aload_n 1, 1) := by decide +kernel
theorem d_law_469 : decode code 469 = .ok (.aload_n 0, 1) := by decide +kernel
theorem d_law_470 : decode code 470 = .ok (.iload 5, 2) := by decide +kernel
theorem d_law_472 : decode code 472 = .ok (.iconst 1, 1) := by decide +kernel
theorem d_law_473 : decode code 473 = .ok (.iadd, 1) := by decide +kernel
theorem d_law_474 : decode code 474 = .ok (.iaload, 1) := by decide +kernel
theorem d_law_475 : decode code 475 = .ok (.aload_n 3, 1) := by decide +kernel
theorem d_law_476 : decode code 476 = .ok (.invokestatic 96, 3) := by decide +kernel
theorem d_law_479 : decode code 479 = .ok (.istore 6, 2) := by decide +kernel
theorem d_law_481 : decode code 481 = .ok (.aload_n 2, 1) := by decide +kernel
theorem d_law_482 : decode code 482 = .ok (.aload_n 0, 1) := by decide +kernel
theorem d_law_483 : decode code 483 = .ok (.iload 5, 2) := by decide +kernel
theorem d_law_485 : decode code 485 = .ok (.iconst 1, 1) := by decide +kernel
theorem d_law_486 : decode code 486 = .ok (.iadd, 1) := by decide +kernel
theorem d_law_487 : decode code 487 = .ok (.iaload, 1) := by decide +kernel
theorem d_law_488 : decode code 488 = .ok (.invokevirtual 98, 3) := by decide +kernel
theorem d_law_491 : decode code 491 = .ok (.istore 7, 2) := by decide +kernel
theorem d_law_493 : decode code 493 = .ok (.goto 104, 3) := by decide +kernel
theorem d_law_496 : decode code 496 = .ok (.aload_n 1, 1) := by decide +kernel
theorem d_law_497 : decode code 497 = .ok (.aload_n 0, 1) := by decide +kernel
theorem d_law_498 : decode code 498 = .ok (.iload 5, 2) := by decide +kernel
theorem d_law_500 : decode code 500 = .ok (.iconst 1, 1) := by decide +kernel
theorem d_law_501 : decode code 501 = .ok (.iadd, 1) := by decide +kernel
theorem d_law_502 : decode code 502 = .ok (.iaload, 1) := by decide +kernel
theorem d_law_503 : decode code 503 = .ok (.aload_n 3, 1) := by decide +kernel
theorem d_law_504 : decode code 504 = .ok (.invokestatic 99, 3) := by decide +kernel
theorem d_law_507 : decode code 507 = .ok (.istore 6, 2) := by decide +kernel
theorem d_law_509 : decode code 509 = .ok (.aload_n 2, 1) := by decide +kernel
theorem d_law_510 : decode code 510 = .ok (.aload_n 0, 1) := by decide +kernel
theorem d_law_511 : decode code 511 = .ok (.iload 5, 2) := by decide +kernel
theorem d_law_513 : decode code 513 = .ok (.iconst 1, 1) := by decide +kernel
theorem d_law_514 : decode code 514 = .ok (.iadd, 1) := by decide +kernel
theorem d_law_515 : decode code 515 = .ok (.iaload, 1) := by decide +kernel
theorem d_law_516 : decode code 516 = .ok (.invokevirtual 101, 3) := by decide +kernel
theorem d_law_519 : decode code 519 = .ok (.istore 7, 2) := by decide +kernel
theorem d_law_521 : decode code 521 = .ok (.goto 76, 3) := by decide +kernel
theorem d_law_524 : decode code 524 = .ok (.aload_n 1, 1) := by decide +kernel
theorem d_law_525 : decode code 525 = .ok (.aload_n 0, 1) := by decide +kernel
theorem d_law_526 : decode code 526 = .ok (.iload 5, 2) := by decide +kernel
theorem d_law_528 : decode code 528 = .ok (.iconst 1, 1) := by decide +kernel
theorem d_law_529 : decode code 529 = .ok (.iadd, 1) := by decide +kernel
theorem d_law_530 : decode code 530 = .ok (.iaload, 1) := by decide +kernel
theorem d_law_531 : decode code 531 = .ok (.aload_n 3, 1) := by decide +kernel
theorem d_law_532 : decode code 532 = .ok (.invokestatic 102, 3) := by decide +kernel
theorem d_law_535 : decode code 535 = .ok (.istore 6, 2) := by decide +kernel
theorem d_law_537 : decode code 537 = .ok (.aload_n 2, 1) := by decide +kernel
theorem d_law_538 : decode code 538 = .ok (.aload_n 0, 1) := by decide +kernel
theorem d_law_539 : decode code 539 = .ok (.iload 5, 2) := by decide +kernel
theorem d_law_541 : decode code 541 = .ok (.iconst 1, 1) := by decide +kernel
theorem d_law_542 : decode code 542 = .ok (.iadd, 1) := by decide +kernel
theorem d_law_543 : decode code 543 = .ok (.iaload, 1) := by decide +kernel
theorem d_law_544 : decode code 544 = .ok (.invokevirtual 104, 3) := by decide +kernel
theorem d_law_547 : decode code 547 = .ok (.istore 7, 2) := by decide +kernel
theorem d_law_549 : decode code 549 = .ok (.aload_n 2, 1) := by decide +kernel
theorem d_law_550 : decode code 550 = .ok (.invokevirtual 105, 3) := by decide +kernel
theorem d_law_553 : decode code 553 = .ok (.iload 6, 2) := by decide +kernel
theorem d_law_555 : decode code 555 = .ok (.if_icmp .eq 5, 3) := by decide +kernel
theorem d_law_558 : decode code 558 = .ok (.iconst 0, 1) := by decide +kernel
theorem d_law_559 : decode code 559 = .ok (.ireturn, 1) := by decide +kernel
theorem d_law_560 : decode code 560 = .ok (.iload 6, 2) := by decide +kernel
theorem d_law_562 : decode code 562 = .ok (.ifCond .ne 15, 3) := by decide +kernel
theorem d_law_565 : decode code 565 = .ok (.aload_n 3, 1) := by decide +kernel
theorem d_law_566 : decode code 566 = .ok (.iconst 0, 1) := by decide +kernel
theorem d_law_567 : decode code 567 = .ok (.laload, 1) := by decide +kernel
theorem d_law_568 : decode code 568 = .ok (.iload 7, 2) := by decide +kernel
theorem d_law_570 : decode code 570 = .ok (.i2l, 1) := by decide +kernel
theorem d_law_571 : decode code 571 = .ok (.lcmp, 1) := by decide +kernel
theorem d_law_572 : decode code 572 = .ok (.ifCond .eq 5, 3) := by decide +kernel
theorem d_law_575 : decode code 575 = .ok (.iconst 0, 1) := by decide +kernel
theorem d_law_576 : decode code 576 = .ok (.ireturn, 1) := by decide +kernel
theorem d_law_577 : decode code 577 = .ok (.goto 20, 3) := by decide +kernel
theorem d_law_580 : decode code 580 = .ok (.aload_n 1, 1) := by decide +kernel
theorem d_law_581 : decode code 581 = .ok (.aload 4, 2) := by decide +kernel
theorem d_law_583 : decode code 583 = .ok (.invokestatic 109, 3) := by decide +kernel
theorem d_law_586 : decode code 586 = .ok (.istore 6, 2) := by decide +kernel
theorem d_law_588 : decode code 588 = .ok (.aload_n 2, 1) := by decide +kernel
theorem d_law_589 : decode code 589 = .ok (.invokevirtual 112, 3) := by decide +kernel
theorem d_law_592 : decode code 592 = .ok (.dstore 7, 2) := by decide +kernel
theorem d_law_594 : decode code 594 = .ok (.goto 3, 3) := by decide +kernel
theorem d_law_597 : decode code 597 = .ok (.iinc 5 6, 3) := by decide +kernel
theorem d_law_600 : decode code 600 = .ok (.goto (-572), 3) := by decide +kernel
theorem d_law_603 : decode code 603 = .ok (.iconst 1, 1) := by decide +kernel
theorem d_law_604 : decode code 604 = .ok (.ireturn, 1) := by decide +kernel
/-! The law's cases, its loop, its end. -/
theorem Ct.mono {l : Launch} {y : MethodName} {ws : List Cond} {rm : Room} {D : va_G} {ce : Mem → va_W} {cA : ClassId} {tb : Nat → Nat} {av : List Value} {M : Mem} {Q Q' : Option Value → Mem → Prop} (h : Ct l y ws rm D ce cA tb av M Q) (hq : ∀ r M', Q r M' → Q' r M') : Ct l y ws rm D ce cA tb av M Q' :=
  fun sz => MetFree.mono (h sz) (fun _ _ h => h) (fun _ _ _ _ _ h => h) (fun a s o s' _ hh => ⟨hh.1.elim fun r hr => hr.elim fun M' hM => ⟨r, M', hM.1, hq _ _ hM.2.1, hM.2.2⟩, hh.2⟩)
theorem CtX.mono {l : Launch} {y : MethodName} {ws : List Cond} {rm : Room} {D : va_G} {ce : Mem → va_W} {cA : ClassId} {tb : Nat → Nat} {av : List Value} {M : Mem} {T T' : Nat → Mem → Prop} (h : CtX l y ws rm D ce cA tb av M T) (hq : ∀ k M', T k M' → T' k M') : CtX l y ws rm D ce cA tb av M T' :=
  fun sz => MetFree.mono (h sz) (fun _ _ h => h) (fun _ _ _ _ _ h => h) (fun a s o s' _ hh => ⟨hh.1.elim fun x hx => hx.elim fun k hk => hk.elim fun M' hM => ⟨x, k, M', hM.1, hq _ _ hM.2.1, hM.2.2⟩, hh.2⟩)
abbrev lw_J (a b : Int32) : Int64 := (a.toInt64 <<< ((32 : Int32).toInt64 &&& 63)) ||| (b.toInt64 &&& 4294967295)
theorem vp_in01 : vp_in 0 1 := by unfold vp_in; decide
theorem updL_0 (f : Nat → Int64) (x : Int64) : vp_updL f 0 x (0 : Int32).toNatClampNeg = x := rfl
theorem updD_0 (f : Nat → UInt64) (x : UInt64) : vf_upd f 0 x (0 : Int32).toNatClampNeg = x := rfl
theorem lcmp_same (x : Int64) : (if x < x then (1 : Int32) else if x = x then 0 else -1) = 0 := by simp
section LOOP
variable {p : Program} {l : Launch} {e : Env} {R : Room} {s : State} {m : MethodId} {args : Array Value} {below : List Frame} {meth : Method} {c : Code} {H H0 : Heap} {locs : List Loc} {QQ : State → Prop} {cells slots : Nat}
variable {cc : ByteArray} {pc : Nat} {ls : Array Slot} {rest : List Value} {A : Nat → Prop}
theorem lw_lcmp (hexec : p.tables.exec = Jvm.exec) (hb : c.code = cc) {x y : Int64} (hdg : decode cc pc = .ok (.lcmp, 1))
    (k : W p l e R s m args below meth c H locs cells slots QQ (F0 m (pc + 1) ls (.int (if y < x then 1 else if x = y then 0 else -1) :: rest))) : W p l e R s m args below meth c H locs cells slots QQ (F0 m pc ls (.long y :: .long x :: rest)) := by
  intro T hT X
  obtain ⟨t, a, b⟩ := k T hT X
  refine ⟨t, ?_, b⟩
  jvm_step X.here [X.here.top, hexec, hb, hdg]
  split
  · rename_i h; rw [if_pos h] at a; exact a
  · rename_i h; rw [if_neg h] at a
    split
    · rename_i h; rw [if_pos h] at a; exact a
    · rename_i h; rw [if_neg h] at a; exact a
theorem law_ld (hexec : p.tables.exec = Jvm.exec) (hb : c.code = cc) {b L : Nat} {xs : Nat → Int32} (hX : va_X b L xs s H0) (hbl : b < H0.size) (hbA : ¬ A b) (hS : va_S A H0 H locs) {q k : Nat} {n : Int} (hq : q + k < L) (hL : L < 2 ^ 31) (hn : Int32.ofInt n = nI k)
    (h0 : ls[0]? = some (.val (.ref b))) (h5 : ls[5]? = some (.val (.int (nI q)))) (d1 : decode cc pc = .ok (.aload_n 0, 1)) (d2 : decode cc (pc + 1) = .ok (.iload 5, 2)) (d3 : decode cc (pc + 3) = .ok (.iconst n, 1)) (d4 : decode cc (pc + 4) = .ok (.iadd, 1)) (d5 : decode cc (pc + 5) = .ok (.iaload, 1))
    (kk : W p l e R s m args below meth c H locs cells slots QQ (F0 m (pc + 6) ls (.int (xs (q + k)) :: rest))) : W p l e R s m args below meth c H locs cells slots QQ (F0 m pc ls rest) := by
  refine lv_aload_n hexec hb d1 rfl h0 ?_
  refine lv_iload hexec hb d2 h5 ?_
  refine lv_iconst hexec hb d3 hn ?_
  refine lv_iadd hexec hb d4 ?_
  rw [nI_add]
  refine va_sld hexec hb hX hbl hbA hS (nI_in hq hL) d5 ?_
  rw [nI_clamp (by omega)]
  exact kk
end LOOP
def St_rom (M N : Mem) (p0 : Int32) (p1 : Int32) (p2 : Int32) (p3 : Int64) (K : Mem → Mem → Prop) : Prop := wp_T_rom M p0 p1 p2 p3 (fun x M' => wp_R_rom N p0 p1 p2 p3 (fun b N' => K M' N')) ∨ wp_TX_rom M p0 p1 p2 p3 (fun j M' => (j = 0 ∨ j = 1) ∧ wp_R_rom N p0 p1 p2 p3 (fun b N' => K M' N'))
def Rh_rom (N : Mem) (p0 : Int32) (p1 : Int32) (p2 : Int32) (p3 : Int64) (K : Mem → Mem → Prop) (cL : ClassId) (f : Nat → Int64) : Int32 → Mem → va_E → Prop := fun k M' oe => (k = 0 ∧ ∃ x : Int32, oe = oL cL (vp_updL f 0 x.toInt64) ∧ wp_R_rom N p0 p1 p2 p3 (fun b N' => K M' N')) ∨ (¬ k = 0 ∧ oe = oL cL f ∧ wp_R_rom N p0 p1 p2 p3 (fun b N' => K M' N'))
theorem hs_rom {l : Launch} {D : va_G} {cA cL : ClassId} {ad tb : Nat → Nat} (hl0 : l.stackTraces = false) (M N : Mem) (p0 : Int32) (p1 : Int32) (p2 : Int32) (p3 : Int64) (o : Nat) (f : Nat → Int64) (K : Mem → Mem → Prop) (h : St_rom M N p0 p1 p2 p3 K) : Hp l y_H_rom ws_H_rom rm_H_rom D (ceC ad cA) cA cL .long tb [.ref (ad 0), .int p0, .int p1, .int p2, .long p3, .ref o] M (o, oL cL f) (Rh_rom N p0 p1 p2 p3 K cL f) := by
  refine hp_rom M p0 p1 p2 p3 o f _ ?_
  rcases h with h | h
  · exact Or.inl (Ct.mono (ct_T_rom M p0 p1 p2 p3 _ h) (fun r M' hr => by
      obtain ⟨x, e, hq⟩ := hr
      exact ⟨x, e, Or.inl ⟨rfl, x, rfl, hq⟩⟩))
  · exact Or.inr (CtX.mono (cx_TX_rom hl0 M p0 p1 p2 p3 _ h) (fun j M' hr => ⟨hr.1, Or.inr ⟨by
      have hj := hr.1
      rcases hj with rfl | rfl <;> decide, rfl, hr.2⟩⟩))
set_option maxHeartbeats 4000000 in
theorem cs_rom {p : Program} {l : Launch} {e : Env} {s : State} {m : MethodId} {below : List Frame} {meth : Method} {c : Code} {b L : Nat} {xs : Nat → Int32} {QQ : State → Prop} {H : Heap} {locs : List Loc} {cells slots : Nat} {ls : Array Slot} {D : va_G} {ad ad2 : Nat → Nat} {cA cL cD : ClassId} {tb : Nat → Nat} {o od : Nat} {M N : Mem} {f : Nat → Int64} {g : Nat → UInt64} {q : Nat} {K : Mem → Mem → Prop}
    (hl0 : l.stackTraces = false) (hX : Lx p m c code 9 s #[Value.ref b] D ad ad2 cA cL cD tb o od) (hw : Lw D ad ad2 cA o od s H locs M N (oL cL f) (oD cD g)) (hXs : va_X b L xs s s.heap) (hbl : b < s.heap.size) (hl : lv_has ls 9 [(5, .int (nI q)), (4, .ref od), (3, .ref o), (2, .ref (ad2 0)), (1, .ref (ad 0)), (0, .ref b)]) (hq : q + 6 ≤ L) (hL : L < 2 ^ 31) (hcl : cells + 1 ≤ room_1.cells ∧ slots + 6 ≤ room_1.slots)
    (hS : St_rom M N (xs (q + 1)) (xs (q + 2)) (xs (q + 3)) (lw_J (xs (q + 4)) (xs (q + 5))) K)
    (kk : ∀ (M' N' : Mem) (f' : Nat → Int64) (g' : Nat → UInt64) (H' : Heap) (locs' : List Loc) (ls' : Array Slot), K M' N' → Lw D ad ad2 cA o od s H' locs' M' N' (oL cL f') (oD cD g') → lv_has ls' 9 [(5, .int (nI q)), (4, .ref od), (3, .ref o), (2, .ref (ad2 0)), (1, .ref (ad 0)), (0, .ref b)] → W p l e room_1 s m #[Value.ref b] below meth c H' locs' (cells + 1) (slots + 6) QQ (F0 m 597 ls' [])) :
    W p l e room_1 s m #[Value.ref b] below meth c H locs cells slots QQ (F0 m 108 ls []) := by
  have hx := hX.1.1
  have hb := hX.1.2.1
  have hbA : ¬ Al s b := Nat.not_le.mpr hbl
  refine lv_aload_n hx hb d_law_108 rfl (lv_at hl 4 rfl) ?_
  refine law_ld (q := q) (k := 1) hx hb hXs hbl hbA hw.2 (by omega) hL (by decide) (lv_at hl 5 rfl) (lv_at hl 0 rfl) d_law_109 d_law_110 d_law_112 d_law_113 d_law_114 ?_
  refine law_ld (q := q) (k := 2) hx hb hXs hbl hbA hw.2 (by omega) hL (by decide) (lv_at hl 5 rfl) (lv_at hl 0 rfl) d_law_115 d_law_116 d_law_118 d_law_119 d_law_120 ?_
  refine law_ld (q := q) (k := 3) hx hb hXs hbl hbA hw.2 (by omega) hL (by decide) (lv_at hl 5 rfl) (lv_at hl 0 rfl) d_law_121 d_law_122 d_law_124 d_law_125 d_law_126 ?_
  refine law_ld (q := q) (k := 4) hx hb hXs hbl hbA hw.2 (by omega) hL (by decide) (lv_at hl 5 rfl) (lv_at hl 0 rfl) d_law_127 d_law_128 d_law_130 d_law_131 d_law_132 ?_
  refine lv_i2l hx hb d_law_133 rfl ?_
  refine lv_bipush (v := 32) hx hb d_law_134 (by decide) ?_
  refine lv_lshl hx hb d_law_136 rfl ?_
  refine law_ld (q := q) (k := 5) hx hb hXs hbl hbA hw.2 (by omega) hL (by decide) (lv_at hl 5 rfl) (lv_at hl 0 rfl) d_law_137 d_law_138 d_law_140 d_law_141 d_law_142 ?_
  refine lv_i2l hx hb d_law_143 rfl ?_
  refine lv_ldc2 hx hb hX.1.2.2.2.1 (hX.1.2.2.2.2 _ k_75) d_law_144 ?_
  refine lv_land hx hb d_law_147 ?_
  refine lv_lor hx hb d_law_148 ?_
  refine lv_aload_n hx hb d_law_149 rfl (lv_at hl 2 rfl) ?_
  refine lr_hl (n := 6) (As := [.ref (ad 0), .int (xs (q + 1)), .int (xs (q + 2)), .int (xs (q + 3)), .long (lw_J (xs (q + 4)) (xs (q + 5))), .ref o]) (rest := []) hX hw (hs_rom hl0 M N (xs (q + 1)) (xs (q + 2)) (xs (q + 3)) (lw_J (xs (q + 4)) (xs (q + 5))) o f K hS) k_76 k_77 k_78 wd_H_rom rfl (by decide +kernel) ⟨rfl, rfl, Nat.le_of_ble_eq_true rfl, Nat.le_of_ble_eq_true rfl⟩ rfl hl.1 rfl (Nat.le_of_ble_eq_true rfl) d_law_150 hcl (fun k M' oe H locs hq hw => ?_)
  rcases hq with ⟨rfl, x, rfl, hq⟩ | ⟨hk0, rfl, hq⟩
  · skip
    refine lv_istore (i := 6) hx hb d_law_153 hl (Nat.le_of_ble_eq_true rfl) rfl (fun ls hl => ?_)
    have hl : lv_has ls 9 [(6, .int 0), (5, .int (nI q)), (4, .ref od), (3, .ref o), (2, .ref (ad2 0)), (1, .ref (ad 0)), (0, .ref b)] := hl
    refine lv_aload_n hx hb d_law_155 rfl (lv_at hl 4 rfl) ?_
    refine law_ld (q := q) (k := 1) hx hb hXs hbl hbA hw.2 (by omega) hL (by decide) (lv_at hl 6 rfl) (lv_at hl 1 rfl) d_law_156 d_law_157 d_law_159 d_law_160 d_law_161 ?_
    refine law_ld (q := q) (k := 2) hx hb hXs hbl hbA hw.2 (by omega) hL (by decide) (lv_at hl 6 rfl) (lv_at hl 1 rfl) d_law_162 d_law_163 d_law_165 d_law_166 d_law_167 ?_
    refine law_ld (q := q) (k := 3) hx hb hXs hbl hbA hw.2 (by omega) hL (by decide) (lv_at hl 6 rfl) (lv_at hl 1 rfl) d_law_168 d_law_169 d_law_171 d_law_172 d_law_173 ?_
    refine law_ld (q := q) (k := 4) hx hb hXs hbl hbA hw.2 (by omega) hL (by decide) (lv_at hl 6 rfl) (lv_at hl 1 rfl) d_law_174 d_law_175 d_law_177 d_law_178 d_law_179 ?_
    refine lv_i2l hx hb d_law_180 rfl ?_
    refine lv_bipush (v := 32) hx hb d_law_181 (by decide) ?_
    refine lv_lshl hx hb d_law_183 rfl ?_
    refine law_ld (q := q) (k := 5) hx hb hXs hbl hbA hw.2 (by omega) hL (by decide) (lv_at hl 6 rfl) (lv_at hl 1 rfl) d_law_184 d_law_185 d_law_187 d_law_188 d_law_189 ?_
    refine lv_i2l hx hb d_law_190 rfl ?_
    refine lv_ldc2 hx hb hX.1.2.2.2.1 (hX.1.2.2.2.2 _ k_75) d_law_191 ?_
    refine lv_land hx hb d_law_194 ?_
    refine lv_lor hx hb d_law_195 ?_
    refine lr_ref (fs := []) (n := 4) (As := [.int (xs (q + 1)), .int (xs (q + 2)), .int (xs (q + 3)), .long (lw_J (xs (q + 4)) (xs (q + 5)))]) (rest := []) hX hw (ct_R_rom N (xs (q + 1)) (xs (q + 2)) (xs (q + 3)) (lw_J (xs (q + 4)) (xs (q + 5))) _ hq) k_79 mw_R_rom rfl ⟨rfl, rfl, Nat.le_of_ble_eq_true rfl, Nat.le_of_ble_eq_true rfl⟩ hcl rfl hl.1 rfl (Nat.le_of_ble_eq_true rfl) d_law_196 (fun r N' H locs hq hw => ?_)
    obtain ⟨b', rfl, hq⟩ := hq
    refine lv_istore (i := 7) hx hb d_law_199 hl (Nat.le_of_ble_eq_true rfl) rfl (fun ls hl => ?_)
    have hl : lv_has ls 9 [(7, .int b'), (6, .int 0), (5, .int (nI q)), (4, .ref od), (3, .ref o), (2, .ref (ad2 0)), (1, .ref (ad 0)), (0, .ref b)] := hl
    have hl' := lv_sub hl [2, 3, 4, 5, 6, 7] rfl
    refine lv_goto (tgt := 597) hx hb d_law_201 (by decide) ?_
    exact kk _ _ _ _ _ _ _ hq hw hl'
  · skip
    refine lv_istore (i := 6) hx hb d_law_153 hl (Nat.le_of_ble_eq_true rfl) rfl (fun ls hl => ?_)
    have hl : lv_has ls 9 [(6, .int k), (5, .int (nI q)), (4, .ref od), (3, .ref o), (2, .ref (ad2 0)), (1, .ref (ad 0)), (0, .ref b)] := hl
    refine lv_aload_n hx hb d_law_155 rfl (lv_at hl 4 rfl) ?_
    refine law_ld (q := q) (k := 1) hx hb hXs hbl hbA hw.2 (by omega) hL (by decide) (lv_at hl 6 rfl) (lv_at hl 1 rfl) d_law_156 d_law_157 d_law_159 d_law_160 d_law_161 ?_
    refine law_ld (q := q) (k := 2) hx hb hXs hbl hbA hw.2 (by omega) hL (by decide) (lv_at hl 6 rfl) (lv_at hl 1 rfl) d_law_162 d_law_163 d_law_165 d_law_166 d_law_167 ?_
    refine law_ld (q := q) (k := 3) hx hb hXs hbl hbA hw.2 (by omega) hL (by decide) (lv_at hl 6 rfl) (lv_at hl 1 rfl) d_law_168 d_law_169 d_law_171 d_law_172 d_law_173 ?_
    refine law_ld (q := q) (k := 4) hx hb hXs hbl hbA hw.2 (by omega) hL (by decide) (lv_at hl 6 rfl) (lv_at hl 1 rfl) d_law_174 d_law_175 d_law_177 d_law_178 d_law_179 ?_
    refine lv_i2l hx hb d_law_180 rfl ?_
    refine lv_bipush (v := 32) hx hb d_law_181 (by decide) ?_
    refine lv_lshl hx hb d_law_183 rfl ?_
    refine law_ld (q := q) (k := 5) hx hb hXs hbl hbA hw.2 (by omega) hL (by decide) (lv_at hl 6 rfl) (lv_at hl 1 rfl) d_law_184 d_law_185 d_law_187 d_law_188 d_law_189 ?_
    refine lv_i2l hx hb d_law_190 rfl ?_
    refine lv_ldc2 hx hb hX.1.2.2.2.1 (hX.1.2.2.2.2 _ k_75) d_law_191 ?_
    refine lv_land hx hb d_law_194 ?_
    refine lv_lor hx hb d_law_195 ?_
    refine lr_ref (fs := []) (n := 4) (As := [.int (xs (q + 1)), .int (xs (q + 2)), .int (xs (q + 3)), .long (lw_J (xs (q + 4)) (xs (q + 5)))]) (rest := []) hX hw (ct_R_rom N (xs (q + 1)) (xs (q + 2)) (xs (q + 3)) (lw_J (xs (q + 4)) (xs (q + 5))) _ hq) k_79 mw_R_rom rfl ⟨rfl, rfl, Nat.le_of_ble_eq_true rfl, Nat.le_of_ble_eq_true rfl⟩ hcl rfl hl.1 rfl (Nat.le_of_ble_eq_true rfl) d_law_196 (fun r N' H locs hq hw => ?_)
    obtain ⟨b', rfl, hq⟩ := hq
    refine lv_istore (i := 7) hx hb d_law_199 hl (Nat.le_of_ble_eq_true rfl) rfl (fun ls hl => ?_)
    have hl : lv_has ls 9 [(7, .int b'), (6, .int k), (5, .int (nI q)), (4, .ref od), (3, .ref o), (2, .ref (ad2 0)), (1, .ref (ad 0)), (0, .ref b)] := hl
    have hl' := lv_sub hl [2, 3, 4, 5, 6, 7] rfl
    refine lv_goto (tgt := 597) hx hb d_law_201 (by decide) ?_
    exact kk _ _ _ _ _ _ _ hq hw hl'
def St_insert (M N : Mem) (p0 : Int32) (K : Mem → Mem → Prop) : Prop := wp_T_insert M p0 (fun x M' => wp_R_insert N p0 (fun b N' => K M' N')) ∨ wp_TX_insert M p0 (fun j M' => (j = 0 ∨ j = 2) ∧ wp_R_insert N p0 (fun b N' => K M' N'))
def Rh_insert (N : Mem) (p0 : Int32) (K : Mem → Mem → Prop) (cL : ClassId) (f : Nat → Int64) : Int32 → Mem → va_E → Prop := fun k M' oe => (k = 0 ∧ ∃ x : Int32, oe = oL cL (vp_updL f 0 x.toInt64) ∧ wp_R_insert N p0 (fun b N' => K M' N')) ∨ (¬ k = 0 ∧ oe = oL cL f ∧ wp_R_insert N p0 (fun b N' => K M' N'))
theorem hs_insert {l : Launch} {D : va_G} {cA cL : ClassId} {ad tb : Nat → Nat} (hl0 : l.stackTraces = false) (M N : Mem) (p0 : Int32) (o : Nat) (f : Nat → Int64) (K : Mem → Mem → Prop) (h : St_insert M N p0 K) : Hp l y_H_insert ws_H_insert rm_H_insert D (ceC ad cA) cA cL .long tb [.ref (ad 0), .int p0, .ref o] M (o, oL cL f) (Rh_insert N p0 K cL f) := by
  refine hp_insert M p0 o f _ ?_
  rcases h with h | h
  · exact Or.inl (Ct.mono (ct_T_insert M p0 _ h) (fun r M' hr => by
      obtain ⟨x, e, hq⟩ := hr
      exact ⟨x, e, Or.inl ⟨rfl, x, rfl, hq⟩⟩))
  · exact Or.inr (CtX.mono (cx_TX_insert hl0 M p0 _ h) (fun j M' hr => ⟨hr.1, Or.inr ⟨by
      have hj := hr.1
      rcases hj with rfl | rfl <;> decide, rfl, hr.2⟩⟩))
set_option maxHeartbeats 4000000 in
theorem cs_insert {p : Program} {l : Launch} {e : Env} {s : State} {m : MethodId} {below : List Frame} {meth : Method} {c : Code} {b L : Nat} {xs : Nat → Int32} {QQ : State → Prop} {H : Heap} {locs : List Loc} {cells slots : Nat} {ls : Array Slot} {D : va_G} {ad ad2 : Nat → Nat} {cA cL cD : ClassId} {tb : Nat → Nat} {o od : Nat} {M N : Mem} {f : Nat → Int64} {g : Nat → UInt64} {q : Nat} {K : Mem → Mem → Prop}
    (hl0 : l.stackTraces = false) (hX : Lx p m c code 9 s #[Value.ref b] D ad ad2 cA cL cD tb o od) (hw : Lw D ad ad2 cA o od s H locs M N (oL cL f) (oD cD g)) (hXs : va_X b L xs s s.heap) (hbl : b < s.heap.size) (hl : lv_has ls 9 [(5, .int (nI q)), (4, .ref od), (3, .ref o), (2, .ref (ad2 0)), (1, .ref (ad 0)), (0, .ref b)]) (hq : q + 6 ≤ L) (hL : L < 2 ^ 31) (hcl : cells + 1 ≤ room_1.cells ∧ slots + 6 ≤ room_1.slots)
    (hS : St_insert M N (xs (q + 1)) K)
    (kk : ∀ (M' N' : Mem) (f' : Nat → Int64) (g' : Nat → UInt64) (H' : Heap) (locs' : List Loc) (ls' : Array Slot), K M' N' → Lw D ad ad2 cA o od s H' locs' M' N' (oL cL f') (oD cD g') → lv_has ls' 9 [(5, .int (nI q)), (4, .ref od), (3, .ref o), (2, .ref (ad2 0)), (1, .ref (ad 0)), (0, .ref b)] → W p l e room_1 s m #[Value.ref b] below meth c H' locs' (cells + 1) (slots + 6) QQ (F0 m 597 ls' [])) :
    W p l e room_1 s m #[Value.ref b] below meth c H locs cells slots QQ (F0 m 204 ls []) := by
  have hx := hX.1.1
  have hb := hX.1.2.1
  have hbA : ¬ Al s b := Nat.not_le.mpr hbl
  refine lv_aload_n hx hb d_law_204 rfl (lv_at hl 4 rfl) ?_
  refine law_ld (q := q) (k := 1) hx hb hXs hbl hbA hw.2 (by omega) hL (by decide) (lv_at hl 5 rfl) (lv_at hl 0 rfl) d_law_205 d_law_206 d_law_208 d_law_209 d_law_210 ?_
  refine lv_aload_n hx hb d_law_211 rfl (lv_at hl 2 rfl) ?_
  refine lr_hl (n := 3) (As := [.ref (ad 0), .int (xs (q + 1)), .ref o]) (rest := []) hX hw (hs_insert hl0 M N (xs (q + 1)) o f K hS) k_80 k_81 k_78 wd_H_insert rfl (by decide +kernel) ⟨rfl, rfl, Nat.le_of_ble_eq_true rfl, Nat.le_of_ble_eq_true rfl⟩ rfl hl.1 rfl (Nat.le_of_ble_eq_true rfl) d_law_212 hcl (fun k M' oe H locs hq hw => ?_)
  rcases hq with ⟨rfl, x, rfl, hq⟩ | ⟨hk0, rfl, hq⟩
  · skip
    refine lv_istore (i := 6) hx hb d_law_215 hl (Nat.le_of_ble_eq_true rfl) rfl (fun ls hl => ?_)
    have hl : lv_has ls 9 [(6, .int 0), (5, .int (nI q)), (4, .ref od), (3, .ref o), (2, .ref (ad2 0)), (1, .ref (ad 0)), (0, .ref b)] := hl
    refine lv_aload_n hx hb d_law_217 rfl (lv_at hl 4 rfl) ?_
    refine law_ld (q := q) (k := 1) hx hb hXs hbl hbA hw.2 (by omega) hL (by decide) (lv_at hl 6 rfl) (lv_at hl 1 rfl) d_law_218 d_law_219 d_law_221 d_law_222 d_law_223 ?_
    refine lr_ref (fs := []) (n := 1) (As := [.int (xs (q + 1))]) (rest := []) hX hw (ct_R_insert N (xs (q + 1)) _ hq) k_82 mw_R_insert rfl ⟨rfl, rfl, Nat.le_of_ble_eq_true rfl, Nat.le_of_ble_eq_true rfl⟩ hcl rfl hl.1 rfl (Nat.le_of_ble_eq_true rfl) d_law_224 (fun r N' H locs hq hw => ?_)
    obtain ⟨b', rfl, hq⟩ := hq
    refine lv_istore (i := 7) hx hb d_law_227 hl (Nat.le_of_ble_eq_true rfl) rfl (fun ls hl => ?_)
    have hl : lv_has ls 9 [(7, .int b'), (6, .int 0), (5, .int (nI q)), (4, .ref od), (3, .ref o), (2, .ref (ad2 0)), (1, .ref (ad 0)), (0, .ref b)] := hl
    have hl' := lv_sub hl [2, 3, 4, 5, 6, 7] rfl
    refine lv_goto (tgt := 597) hx hb d_law_229 (by decide) ?_
    exact kk _ _ _ _ _ _ _ hq hw hl'
  · skip
    refine lv_istore (i := 6) hx hb d_law_215 hl (Nat.le_of_ble_eq_true rfl) rfl (fun ls hl => ?_)
    have hl : lv_has ls 9 [(6, .int k), (5, .int (nI q)), (4, .ref od), (3, .ref o), (2, .ref (ad2 0)), (1, .ref (ad 0)), (0, .ref b)] := hl
    refine lv_aload_n hx hb d_law_217 rfl (lv_at hl 4 rfl) ?_
    refine law_ld (q := q) (k := 1) hx hb hXs hbl hbA hw.2 (by omega) hL (by decide) (lv_at hl 6 rfl) (lv_at hl 1 rfl) d_law_218 d_law_219 d_law_221 d_law_222 d_law_223 ?_
    refine lr_ref (fs := []) (n := 1) (As := [.int (xs (q + 1))]) (rest := []) hX hw (ct_R_insert N (xs (q + 1)) _ hq) k_82 mw_R_insert rfl ⟨rfl, rfl, Nat.le_of_ble_eq_true rfl, Nat.le_of_ble_eq_true rfl⟩ hcl rfl hl.1 rfl (Nat.le_of_ble_eq_true rfl) d_law_224 (fun r N' H locs hq hw => ?_)
    obtain ⟨b', rfl, hq⟩ := hq
    refine lv_istore (i := 7) hx hb d_law_227 hl (Nat.le_of_ble_eq_true rfl) rfl (fun ls hl => ?_)
    have hl : lv_has ls 9 [(7, .int b'), (6, .int k), (5, .int (nI q)), (4, .ref od), (3, .ref o), (2, .ref (ad2 0)), (1, .ref (ad 0)), (0, .ref b)] := hl
    have hl' := lv_sub hl [2, 3, 4, 5, 6, 7] rfl
    refine lv_goto (tgt := 597) hx hb d_law_229 (by decide) ?_
    exact kk _ _ _ _ _ _ _ hq hw hl'
def St_run (M N : Mem) (p0 : Int32) (K : Mem → Mem → Prop) : Prop := wp_T_run M p0 (fun x M' => wp_R_run N p0 (fun b N' => K M' N')) ∨ wp_TX_run M p0 (fun j M' => (j = 0 ∨ j = 2 ∨ j = 3) ∧ wp_R_run N p0 (fun b N' => K M' N'))
def Rh_run (N : Mem) (p0 : Int32) (K : Mem → Mem → Prop) (cL : ClassId) (f : Nat → Int64) : Int32 → Mem → va_E → Prop := fun k M' oe => (k = 0 ∧ ∃ x : Int32, oe = oL cL (vp_updL f 0 x.toInt64) ∧ wp_R_run N p0 (fun b N' => K M' N')) ∨ (¬ k = 0 ∧ oe = oL cL f ∧ wp_R_run N p0 (fun b N' => K M' N'))
theorem hs_run {l : Launch} {D : va_G} {cA cL : ClassId} {ad tb : Nat → Nat} (hl0 : l.stackTraces = false) (M N : Mem) (p0 : Int32) (o : Nat) (f : Nat → Int64) (K : Mem → Mem → Prop) (h : St_run M N p0 K) : Hp l y_H_run ws_H_run rm_H_run D (ceC ad cA) cA cL .long tb [.ref (ad 0), .int p0, .ref o] M (o, oL cL f) (Rh_run N p0 K cL f) := by
  refine hp_run M p0 o f _ ?_
  rcases h with h | h
  · exact Or.inl (Ct.mono (ct_T_run M p0 _ h) (fun r M' hr => by
      obtain ⟨x, e, hq⟩ := hr
      exact ⟨x, e, Or.inl ⟨rfl, x, rfl, hq⟩⟩))
  · exact Or.inr (CtX.mono (cx_TX_run hl0 M p0 _ h) (fun j M' hr => ⟨hr.1, Or.inr ⟨by
      have hj := hr.1
      rcases hj with rfl | rfl | rfl <;> decide, rfl, hr.2⟩⟩))
set_option maxHeartbeats 4000000 in
theorem cs_run {p : Program} {l : Launch} {e : Env} {s : State} {m : MethodId} {below : List Frame} {meth : Method} {c : Code} {b L : Nat} {xs : Nat → Int32} {QQ : State → Prop} {H : Heap} {locs : List Loc} {cells slots : Nat} {ls : Array Slot} {D : va_G} {ad ad2 : Nat → Nat} {cA cL cD : ClassId} {tb : Nat → Nat} {o od : Nat} {M N : Mem} {f : Nat → Int64} {g : Nat → UInt64} {q : Nat} {K : Mem → Mem → Prop}
    (hl0 : l.stackTraces = false) (hX : Lx p m c code 9 s #[Value.ref b] D ad ad2 cA cL cD tb o od) (hw : Lw D ad ad2 cA o od s H locs M N (oL cL f) (oD cD g)) (hXs : va_X b L xs s s.heap) (hbl : b < s.heap.size) (hl : lv_has ls 9 [(5, .int (nI q)), (4, .ref od), (3, .ref o), (2, .ref (ad2 0)), (1, .ref (ad 0)), (0, .ref b)]) (hq : q + 6 ≤ L) (hL : L < 2 ^ 31) (hcl : cells + 1 ≤ room_1.cells ∧ slots + 6 ≤ room_1.slots)
    (hS : St_run M N (xs (q + 1)) K)
    (kk : ∀ (M' N' : Mem) (f' : Nat → Int64) (g' : Nat → UInt64) (H' : Heap) (locs' : List Loc) (ls' : Array Slot), K M' N' → Lw D ad ad2 cA o od s H' locs' M' N' (oL cL f') (oD cD g') → lv_has ls' 9 [(5, .int (nI q)), (4, .ref od), (3, .ref o), (2, .ref (ad2 0)), (1, .ref (ad 0)), (0, .ref b)] → W p l e room_1 s m #[Value.ref b] below meth c H' locs' (cells + 1) (slots + 6) QQ (F0 m 597 ls' [])) :
    W p l e room_1 s m #[Value.ref b] below meth c H locs cells slots QQ (F0 m 232 ls []) := by
  have hx := hX.1.1
  have hb := hX.1.2.1
  have hbA : ¬ Al s b := Nat.not_le.mpr hbl
  refine lv_aload_n hx hb d_law_232 rfl (lv_at hl 4 rfl) ?_
  refine law_ld (q := q) (k := 1) hx hb hXs hbl hbA hw.2 (by omega) hL (by decide) (lv_at hl 5 rfl) (lv_at hl 0 rfl) d_law_233 d_law_234 d_law_236 d_law_237 d_law_238 ?_
  refine lv_aload_n hx hb d_law_239 rfl (lv_at hl 2 rfl) ?_
  refine lr_hl (n := 3) (As := [.ref (ad 0), .int (xs (q + 1)), .ref o]) (rest := []) hX hw (hs_run hl0 M N (xs (q + 1)) o f K hS) k_83 k_84 k_78 wd_H_run rfl (by decide +kernel) ⟨rfl, rfl, Nat.le_of_ble_eq_true rfl, Nat.le_of_ble_eq_true rfl⟩ rfl hl.1 rfl (Nat.le_of_ble_eq_true rfl) d_law_240 hcl (fun k M' oe H locs hq hw => ?_)
  rcases hq with ⟨rfl, x, rfl, hq⟩ | ⟨hk0, rfl, hq⟩
  · skip
    refine lv_istore (i := 6) hx hb d_law_243 hl (Nat.le_of_ble_eq_true rfl) rfl (fun ls hl => ?_)
    have hl : lv_has ls 9 [(6, .int 0), (5, .int (nI q)), (4, .ref od), (3, .ref o), (2, .ref (ad2 0)), (1, .ref (ad 0)), (0, .ref b)] := hl
    refine lv_aload_n hx hb d_law_245 rfl (lv_at hl 4 rfl) ?_
    refine law_ld (q := q) (k := 1) hx hb hXs hbl hbA hw.2 (by omega) hL (by decide) (lv_at hl 6 rfl) (lv_at hl 1 rfl) d_law_246 d_law_247 d_law_249 d_law_250 d_law_251 ?_
    refine lr_ref (fs := []) (n := 1) (As := [.int (xs (q + 1))]) (rest := []) hX hw (ct_R_run N (xs (q + 1)) _ hq) k_85 mw_R_run rfl ⟨rfl, rfl, Nat.le_of_ble_eq_true rfl, Nat.le_of_ble_eq_true rfl⟩ hcl rfl hl.1 rfl (Nat.le_of_ble_eq_true rfl) d_law_252 (fun r N' H locs hq hw => ?_)
    obtain ⟨b', rfl, hq⟩ := hq
    refine lv_istore (i := 7) hx hb d_law_255 hl (Nat.le_of_ble_eq_true rfl) rfl (fun ls hl => ?_)
    have hl : lv_has ls 9 [(7, .int b'), (6, .int 0), (5, .int (nI q)), (4, .ref od), (3, .ref o), (2, .ref (ad2 0)), (1, .ref (ad 0)), (0, .ref b)] := hl
    have hl' := lv_sub hl [2, 3, 4, 5, 6, 7] rfl
    refine lv_goto (tgt := 597) hx hb d_law_257 (by decide) ?_
    exact kk _ _ _ _ _ _ _ hq hw hl'
  · skip
    refine lv_istore (i := 6) hx hb d_law_243 hl (Nat.le_of_ble_eq_true rfl) rfl (fun ls hl => ?_)
    have hl : lv_has ls 9 [(6, .int k), (5, .int (nI q)), (4, .ref od), (3, .ref o), (2, .ref (ad2 0)), (1, .ref (ad 0)), (0, .ref b)] := hl
    refine lv_aload_n hx hb d_law_245 rfl (lv_at hl 4 rfl) ?_
    refine law_ld (q := q) (k := 1) hx hb hXs hbl hbA hw.2 (by omega) hL (by decide) (lv_at hl 6 rfl) (lv_at hl 1 rfl) d_law_246 d_law_247 d_law_249 d_law_250 d_law_251 ?_
    refine lr_ref (fs := []) (n := 1) (As := [.int (xs (q + 1))]) (rest := []) hX hw (ct_R_run N (xs (q + 1)) _ hq) k_85 mw_R_run rfl ⟨rfl, rfl, Nat.le_of_ble_eq_true rfl, Nat.le_of_ble_eq_true rfl⟩ hcl rfl hl.1 rfl (Nat.le_of_ble_eq_true rfl) d_law_252 (fun r N' H locs hq hw => ?_)
    obtain ⟨b', rfl, hq⟩ := hq
    refine lv_istore (i := 7) hx hb d_law_255 hl (Nat.le_of_ble_eq_true rfl) rfl (fun ls hl => ?_)
    have hl : lv_has ls 9 [(7, .int b'), (6, .int k), (5, .int (nI q)), (4, .ref od), (3, .ref o), (2, .ref (ad2 0)), (1, .ref (ad 0)), (0, .ref b)] := hl
    have hl' := lv_sub hl [2, 3, 4, 5, 6, 7] rfl
    refine lv_goto (tgt := 597) hx hb d_law_257 (by decide) ?_
    exact kk _ _ _ _ _ _ _ hq hw hl'
def St_set (M N : Mem) (p0 : Int32) (p1 : Int32) (K : Mem → Mem → Prop) : Prop := wp_T_set M p0 p1 (fun x M' => wp_R_set N p0 p1 (fun b N' => K M' N')) ∨ wp_TX_set M p0 p1 (fun j M' => (j = 0) ∧ wp_R_set N p0 p1 (fun b N' => K M' N'))
def Rh_set (N : Mem) (p0 : Int32) (p1 : Int32) (K : Mem → Mem → Prop) (cL : ClassId) (f : Nat → Int64) : Int32 → Mem → va_E → Prop := fun k M' oe => (k = 0 ∧ ∃ x : Int32, oe = oL cL (vp_updL f 0 x.toInt64) ∧ wp_R_set N p0 p1 (fun b N' => K M' N')) ∨ (¬ k = 0 ∧ oe = oL cL f ∧ wp_R_set N p0 p1 (fun b N' => K M' N'))
theorem hs_set {l : Launch} {D : va_G} {cA cL : ClassId} {ad tb : Nat → Nat} (hl0 : l.stackTraces = false) (M N : Mem) (p0 : Int32) (p1 : Int32) (o : Nat) (f : Nat → Int64) (K : Mem → Mem → Prop) (h : St_set M N p0 p1 K) : Hp l y_H_set ws_H_set rm_H_set D (ceC ad cA) cA cL .long tb [.ref (ad 0), .int p0, .int p1, .ref o] M (o, oL cL f) (Rh_set N p0 p1 K cL f) := by
  refine hp_set M p0 p1 o f _ ?_
  rcases h with h | h
  · exact Or.inl (Ct.mono (ct_T_set M p0 p1 _ h) (fun r M' hr => by
      obtain ⟨x, e, hq⟩ := hr
      exact ⟨x, e, Or.inl ⟨rfl, x, rfl, hq⟩⟩))
  · exact Or.inr (CtX.mono (cx_TX_set hl0 M p0 p1 _ h) (fun j M' hr => ⟨hr.1, Or.inr ⟨by
      have hj := hr.1
      subst hj; decide, rfl, hr.2⟩⟩))
set_option maxHeartbeats 4000000 in
theorem cs_set {p : Program} {l : Launch} {e : Env} {s : State} {m : MethodId} {below : List Frame} {meth : Method} {c : Code} {b L : Nat} {xs : Nat → Int32} {QQ : State → Prop} {H : Heap} {locs : List Loc} {cells slots : Nat} {ls : Array Slot} {D : va_G} {ad ad2 : Nat → Nat} {cA cL cD : ClassId} {tb : Nat → Nat} {o od : Nat} {M N : Mem} {f : Nat → Int64} {g : Nat → UInt64} {q : Nat} {K : Mem → Mem → Prop}
    (hl0 : l.stackTraces = false) (hX : Lx p m c code 9 s #[Value.ref b] D ad ad2 cA cL cD tb o od) (hw : Lw D ad ad2 cA o od s H locs M N (oL cL f) (oD cD g)) (hXs : va_X b L xs s s.heap) (hbl : b < s.heap.size) (hl : lv_has ls 9 [(5, .int (nI q)), (4, .ref od), (3, .ref o), (2, .ref (ad2 0)), (1, .ref (ad 0)), (0, .ref b)]) (hq : q + 6 ≤ L) (hL : L < 2 ^ 31) (hcl : cells + 1 ≤ room_1.cells ∧ slots + 6 ≤ room_1.slots)
    (hS : St_set M N (xs (q + 1)) (xs (q + 2)) K)
    (kk : ∀ (M' N' : Mem) (f' : Nat → Int64) (g' : Nat → UInt64) (H' : Heap) (locs' : List Loc) (ls' : Array Slot), K M' N' → Lw D ad ad2 cA o od s H' locs' M' N' (oL cL f') (oD cD g') → lv_has ls' 9 [(5, .int (nI q)), (4, .ref od), (3, .ref o), (2, .ref (ad2 0)), (1, .ref (ad 0)), (0, .ref b)] → W p l e room_1 s m #[Value.ref b] below meth c H' locs' (cells + 1) (slots + 6) QQ (F0 m 597 ls' [])) :
    W p l e room_1 s m #[Value.ref b] below meth c H locs cells slots QQ (F0 m 260 ls []) := by
  have hx := hX.1.1
  have hb := hX.1.2.1
  have hbA : ¬ Al s b := Nat.not_le.mpr hbl
  refine lv_aload_n hx hb d_law_260 rfl (lv_at hl 4 rfl) ?_
  refine law_ld (q := q) (k := 1) hx hb hXs hbl hbA hw.2 (by omega) hL (by decide) (lv_at hl 5 rfl) (lv_at hl 0 rfl) d_law_261 d_law_262 d_law_264 d_law_265 d_law_266 ?_
  refine law_ld (q := q) (k := 2) hx hb hXs hbl hbA hw.2 (by omega) hL (by decide) (lv_at hl 5 rfl) (lv_at hl 0 rfl) d_law_267 d_law_268 d_law_270 d_law_271 d_law_272 ?_
  refine lv_aload_n hx hb d_law_273 rfl (lv_at hl 2 rfl) ?_
  refine lr_hl (n := 4) (As := [.ref (ad 0), .int (xs (q + 1)), .int (xs (q + 2)), .ref o]) (rest := []) hX hw (hs_set hl0 M N (xs (q + 1)) (xs (q + 2)) o f K hS) k_86 k_87 k_78 wd_H_set rfl (by decide +kernel) ⟨rfl, rfl, Nat.le_of_ble_eq_true rfl, Nat.le_of_ble_eq_true rfl⟩ rfl hl.1 rfl (Nat.le_of_ble_eq_true rfl) d_law_274 hcl (fun k M' oe H locs hq hw => ?_)
  rcases hq with ⟨rfl, x, rfl, hq⟩ | ⟨hk0, rfl, hq⟩
  · skip
    refine lv_istore (i := 6) hx hb d_law_277 hl (Nat.le_of_ble_eq_true rfl) rfl (fun ls hl => ?_)
    have hl : lv_has ls 9 [(6, .int 0), (5, .int (nI q)), (4, .ref od), (3, .ref o), (2, .ref (ad2 0)), (1, .ref (ad 0)), (0, .ref b)] := hl
    refine lv_aload_n hx hb d_law_279 rfl (lv_at hl 4 rfl) ?_
    refine law_ld (q := q) (k := 1) hx hb hXs hbl hbA hw.2 (by omega) hL (by decide) (lv_at hl 6 rfl) (lv_at hl 1 rfl) d_law_280 d_law_281 d_law_283 d_law_284 d_law_285 ?_
    refine law_ld (q := q) (k := 2) hx hb hXs hbl hbA hw.2 (by omega) hL (by decide) (lv_at hl 6 rfl) (lv_at hl 1 rfl) d_law_286 d_law_287 d_law_289 d_law_290 d_law_291 ?_
    refine lr_ref (fs := []) (n := 2) (As := [.int (xs (q + 1)), .int (xs (q + 2))]) (rest := []) hX hw (ct_R_set N (xs (q + 1)) (xs (q + 2)) _ hq) k_88 mw_R_set rfl ⟨rfl, rfl, Nat.le_of_ble_eq_true rfl, Nat.le_of_ble_eq_true rfl⟩ hcl rfl hl.1 rfl (Nat.le_of_ble_eq_true rfl) d_law_292 (fun r N' H locs hq hw => ?_)
    obtain ⟨b', rfl, hq⟩ := hq
    refine lv_istore (i := 7) hx hb d_law_295 hl (Nat.le_of_ble_eq_true rfl) rfl (fun ls hl => ?_)
    have hl : lv_has ls 9 [(7, .int b'), (6, .int 0), (5, .int (nI q)), (4, .ref od), (3, .ref o), (2, .ref (ad2 0)), (1, .ref (ad 0)), (0, .ref b)] := hl
    have hl' := lv_sub hl [2, 3, 4, 5, 6, 7] rfl
    refine lv_goto (tgt := 597) hx hb d_law_297 (by decide) ?_
    exact kk _ _ _ _ _ _ _ hq hw hl'
  · skip
    refine lv_istore (i := 6) hx hb d_law_277 hl (Nat.le_of_ble_eq_true rfl) rfl (fun ls hl => ?_)
    have hl : lv_has ls 9 [(6, .int k), (5, .int (nI q)), (4, .ref od), (3, .ref o), (2, .ref (ad2 0)), (1, .ref (ad 0)), (0, .ref b)] := hl
    refine lv_aload_n hx hb d_law_279 rfl (lv_at hl 4 rfl) ?_
    refine law_ld (q := q) (k := 1) hx hb hXs hbl hbA hw.2 (by omega) hL (by decide) (lv_at hl 6 rfl) (lv_at hl 1 rfl) d_law_280 d_law_281 d_law_283 d_law_284 d_law_285 ?_
    refine law_ld (q := q) (k := 2) hx hb hXs hbl hbA hw.2 (by omega) hL (by decide) (lv_at hl 6 rfl) (lv_at hl 1 rfl) d_law_286 d_law_287 d_law_289 d_law_290 d_law_291 ?_
    refine lr_ref (fs := []) (n := 2) (As := [.int (xs (q + 1)), .int (xs (q + 2))]) (rest := []) hX hw (ct_R_set N (xs (q + 1)) (xs (q + 2)) _ hq) k_88 mw_R_set rfl ⟨rfl, rfl, Nat.le_of_ble_eq_true rfl, Nat.le_of_ble_eq_true rfl⟩ hcl rfl hl.1 rfl (Nat.le_of_ble_eq_true rfl) d_law_292 (fun r N' H locs hq hw => ?_)
    obtain ⟨b', rfl, hq⟩ := hq
    refine lv_istore (i := 7) hx hb d_law_295 hl (Nat.le_of_ble_eq_true rfl) rfl (fun ls hl => ?_)
    have hl : lv_has ls 9 [(7, .int b'), (6, .int k), (5, .int (nI q)), (4, .ref od), (3, .ref o), (2, .ref (ad2 0)), (1, .ref (ad 0)), (0, .ref b)] := hl
    have hl' := lv_sub hl [2, 3, 4, 5, 6, 7] rfl
    refine lv_goto (tgt := 597) hx hb d_law_297 (by decide) ?_
    exact kk _ _ _ _ _ _ _ hq hw hl'
def St_register (M N : Mem) (p0 : Int32) (K : Mem → Mem → Prop) : Prop := wp_T_register M p0 (fun x => wp_R_register N p0 (fun b N' => K M N')) ∨ wp_TX_register M p0 (fun j M' => (j = 0) ∧ wp_R_register N p0 (fun b N' => K M' N'))
def Rh_register (N : Mem) (p0 : Int32) (K : Mem → Mem → Prop) (cL : ClassId) (f : Nat → Int64) : Int32 → Mem → va_E → Prop := fun k M' oe => (k = 0 ∧ ∃ x : Int32, oe = oL cL (vp_updL f 0 x.toInt64) ∧ wp_R_register N p0 (fun b N' => K M' N')) ∨ (¬ k = 0 ∧ oe = oL cL f ∧ wp_R_register N p0 (fun b N' => K M' N'))
theorem hs_register {l : Launch} {D : va_G} {cA cL : ClassId} {ad tb : Nat → Nat} (hl0 : l.stackTraces = false) (M N : Mem) (p0 : Int32) (o : Nat) (f : Nat → Int64) (K : Mem → Mem → Prop) (h : St_register M N p0 K) : Hp l y_H_register ws_H_register rm_H_register D (ceC ad cA) cA cL .long tb [.ref (ad 0), .int p0, .ref o] M (o, oL cL f) (Rh_register N p0 K cL f) := by
  refine hp_register M p0 o f _ ?_
  rcases h with h | h
  · exact Or.inl (Ct.mono (ct_T_register M p0 _ h) (fun r M' hr => by
      obtain ⟨rfl, x, e, hq⟩ := hr
      exact ⟨x, e, Or.inl ⟨rfl, x, rfl, hq⟩⟩))
  · exact Or.inr (CtX.mono (cx_TX_register hl0 M p0 _ h) (fun j M' hr => ⟨hr.1, Or.inr ⟨by
      have hj := hr.1
      subst hj; decide, rfl, hr.2⟩⟩))
set_option maxHeartbeats 4000000 in
theorem cs_register {p : Program} {l : Launch} {e : Env} {s : State} {m : MethodId} {below : List Frame} {meth : Method} {c : Code} {b L : Nat} {xs : Nat → Int32} {QQ : State → Prop} {H : Heap} {locs : List Loc} {cells slots : Nat} {ls : Array Slot} {D : va_G} {ad ad2 : Nat → Nat} {cA cL cD : ClassId} {tb : Nat → Nat} {o od : Nat} {M N : Mem} {f : Nat → Int64} {g : Nat → UInt64} {q : Nat} {K : Mem → Mem → Prop}
    (hl0 : l.stackTraces = false) (hX : Lx p m c code 9 s #[Value.ref b] D ad ad2 cA cL cD tb o od) (hw : Lw D ad ad2 cA o od s H locs M N (oL cL f) (oD cD g)) (hXs : va_X b L xs s s.heap) (hbl : b < s.heap.size) (hl : lv_has ls 9 [(5, .int (nI q)), (4, .ref od), (3, .ref o), (2, .ref (ad2 0)), (1, .ref (ad 0)), (0, .ref b)]) (hq : q + 6 ≤ L) (hL : L < 2 ^ 31) (hcl : cells + 1 ≤ room_1.cells ∧ slots + 6 ≤ room_1.slots)
    (hS : St_register M N (xs (q + 1)) K)
    (kk : ∀ (M' N' : Mem) (f' : Nat → Int64) (g' : Nat → UInt64) (H' : Heap) (locs' : List Loc) (ls' : Array Slot), K M' N' → Lw D ad ad2 cA o od s H' locs' M' N' (oL cL f') (oD cD g') → lv_has ls' 9 [(5, .int (nI q)), (4, .ref od), (3, .ref o), (2, .ref (ad2 0)), (1, .ref (ad 0)), (0, .ref b)] → W p l e room_1 s m #[Value.ref b] below meth c H' locs' (cells + 1) (slots + 6) QQ (F0 m 597 ls' [])) :
    W p l e room_1 s m #[Value.ref b] below meth c H locs cells slots QQ (F0 m 300 ls []) := by
  have hx := hX.1.1
  have hb := hX.1.2.1
  have hbA : ¬ Al s b := Nat.not_le.mpr hbl
  refine lv_aload_n hx hb d_law_300 rfl (lv_at hl 4 rfl) ?_
  refine law_ld (q := q) (k := 1) hx hb hXs hbl hbA hw.2 (by omega) hL (by decide) (lv_at hl 5 rfl) (lv_at hl 0 rfl) d_law_301 d_law_302 d_law_304 d_law_305 d_law_306 ?_
  refine lv_aload_n hx hb d_law_307 rfl (lv_at hl 2 rfl) ?_
  refine lr_hl (n := 3) (As := [.ref (ad 0), .int (xs (q + 1)), .ref o]) (rest := []) hX hw (hs_register hl0 M N (xs (q + 1)) o f K hS) k_89 k_90 k_78 wd_H_register rfl (by decide +kernel) ⟨rfl, rfl, Nat.le_of_ble_eq_true rfl, Nat.le_of_ble_eq_true rfl⟩ rfl hl.1 rfl (Nat.le_of_ble_eq_true rfl) d_law_308 hcl (fun k M' oe H locs hq hw => ?_)
  rcases hq with ⟨rfl, x, rfl, hq⟩ | ⟨hk0, rfl, hq⟩
  · skip
    refine lv_istore (i := 6) hx hb d_law_311 hl (Nat.le_of_ble_eq_true rfl) rfl (fun ls hl => ?_)
    have hl : lv_has ls 9 [(6, .int 0), (5, .int (nI q)), (4, .ref od), (3, .ref o), (2, .ref (ad2 0)), (1, .ref (ad 0)), (0, .ref b)] := hl
    refine lv_aload_n hx hb d_law_313 rfl (lv_at hl 4 rfl) ?_
    refine law_ld (q := q) (k := 1) hx hb hXs hbl hbA hw.2 (by omega) hL (by decide) (lv_at hl 6 rfl) (lv_at hl 1 rfl) d_law_314 d_law_315 d_law_317 d_law_318 d_law_319 ?_
    refine lr_ref (fs := []) (n := 1) (As := [.int (xs (q + 1))]) (rest := []) hX hw (ct_R_register N (xs (q + 1)) _ hq) k_91 mw_R_register rfl ⟨rfl, rfl, Nat.le_of_ble_eq_true rfl, Nat.le_of_ble_eq_true rfl⟩ hcl rfl hl.1 rfl (Nat.le_of_ble_eq_true rfl) d_law_320 (fun r N' H locs hq hw => ?_)
    obtain ⟨b', rfl, hq⟩ := hq
    refine lv_istore (i := 7) hx hb d_law_323 hl (Nat.le_of_ble_eq_true rfl) rfl (fun ls hl => ?_)
    have hl : lv_has ls 9 [(7, .int b'), (6, .int 0), (5, .int (nI q)), (4, .ref od), (3, .ref o), (2, .ref (ad2 0)), (1, .ref (ad 0)), (0, .ref b)] := hl
    have hl' := lv_sub hl [2, 3, 4, 5, 6, 7] rfl
    refine lv_goto (tgt := 597) hx hb d_law_325 (by decide) ?_
    exact kk _ _ _ _ _ _ _ hq hw hl'
  · skip
    refine lv_istore (i := 6) hx hb d_law_311 hl (Nat.le_of_ble_eq_true rfl) rfl (fun ls hl => ?_)
    have hl : lv_has ls 9 [(6, .int k), (5, .int (nI q)), (4, .ref od), (3, .ref o), (2, .ref (ad2 0)), (1, .ref (ad 0)), (0, .ref b)] := hl
    refine lv_aload_n hx hb d_law_313 rfl (lv_at hl 4 rfl) ?_
    refine law_ld (q := q) (k := 1) hx hb hXs hbl hbA hw.2 (by omega) hL (by decide) (lv_at hl 6 rfl) (lv_at hl 1 rfl) d_law_314 d_law_315 d_law_317 d_law_318 d_law_319 ?_
    refine lr_ref (fs := []) (n := 1) (As := [.int (xs (q + 1))]) (rest := []) hX hw (ct_R_register N (xs (q + 1)) _ hq) k_91 mw_R_register rfl ⟨rfl, rfl, Nat.le_of_ble_eq_true rfl, Nat.le_of_ble_eq_true rfl⟩ hcl rfl hl.1 rfl (Nat.le_of_ble_eq_true rfl) d_law_320 (fun r N' H locs hq hw => ?_)
    obtain ⟨b', rfl, hq⟩ := hq
    refine lv_istore (i := 7) hx hb d_law_323 hl (Nat.le_of_ble_eq_true rfl) rfl (fun ls hl => ?_)
    have hl : lv_has ls 9 [(7, .int b'), (6, .int k), (5, .int (nI q)), (4, .ref od), (3, .ref o), (2, .ref (ad2 0)), (1, .ref (ad 0)), (0, .ref b)] := hl
    have hl' := lv_sub hl [2, 3, 4, 5, 6, 7] rfl
    refine lv_goto (tgt := 597) hx hb d_law_325 (by decide) ?_
    exact kk _ _ _ _ _ _ _ hq hw hl'
def St_read (M N : Mem) (p0 : Int32) (K : Mem → Mem → Prop) : Prop := wp_T_read M p0 (fun x => wp_R_read N p0 (fun b N' => K M N')) ∨ wp_TX_read M p0 (fun j M' => (j = 0) ∧ wp_R_read N p0 (fun b N' => K M' N'))
def Rh_read (N : Mem) (p0 : Int32) (K : Mem → Mem → Prop) (cL : ClassId) (f : Nat → Int64) : Int32 → Mem → va_E → Prop := fun k M' oe => (k = 0 ∧ ∃ x : Int32, oe = oL cL (vp_updL f 0 x.toInt64) ∧ wp_R_read N p0 (fun b N' => K M' N')) ∨ (¬ k = 0 ∧ oe = oL cL f ∧ wp_R_read N p0 (fun b N' => K M' N'))
theorem hs_read {l : Launch} {D : va_G} {cA cL : ClassId} {ad tb : Nat → Nat} (hl0 : l.stackTraces = false) (M N : Mem) (p0 : Int32) (o : Nat) (f : Nat → Int64) (K : Mem → Mem → Prop) (h : St_read M N p0 K) : Hp l y_H_read ws_H_read rm_H_read D (ceC ad cA) cA cL .long tb [.ref (ad 0), .int p0, .ref o] M (o, oL cL f) (Rh_read N p0 K cL f) := by
  refine hp_read M p0 o f _ ?_
  rcases h with h | h
  · exact Or.inl (Ct.mono (ct_T_read M p0 _ h) (fun r M' hr => by
      obtain ⟨rfl, x, e, hq⟩ := hr
      exact ⟨x, e, Or.inl ⟨rfl, x, rfl, hq⟩⟩))
  · exact Or.inr (CtX.mono (cx_TX_read hl0 M p0 _ h) (fun j M' hr => ⟨hr.1, Or.inr ⟨by
      have hj := hr.1
      subst hj; decide, rfl, hr.2⟩⟩))
set_option maxHeartbeats 4000000 in
theorem cs_read {p : Program} {l : Launch} {e : Env} {s : State} {m : MethodId} {below : List Frame} {meth : Method} {c : Code} {b L : Nat} {xs : Nat → Int32} {QQ : State → Prop} {H : Heap} {locs : List Loc} {cells slots : Nat} {ls : Array Slot} {D : va_G} {ad ad2 : Nat → Nat} {cA cL cD : ClassId} {tb : Nat → Nat} {o od : Nat} {M N : Mem} {f : Nat → Int64} {g : Nat → UInt64} {q : Nat} {K : Mem → Mem → Prop}
    (hl0 : l.stackTraces = false) (hX : Lx p m c code 9 s #[Value.ref b] D ad ad2 cA cL cD tb o od) (hw : Lw D ad ad2 cA o od s H locs M N (oL cL f) (oD cD g)) (hXs : va_X b L xs s s.heap) (hbl : b < s.heap.size) (hl : lv_has ls 9 [(5, .int (nI q)), (4, .ref od), (3, .ref o), (2, .ref (ad2 0)), (1, .ref (ad 0)), (0, .ref b)]) (hq : q + 6 ≤ L) (hL : L < 2 ^ 31) (hcl : cells + 1 ≤ room_1.cells ∧ slots + 6 ≤ room_1.slots)
    (hS : St_read M N (xs (q + 1)) K)
    (kk : ∀ (M' N' : Mem) (f' : Nat → Int64) (g' : Nat → UInt64) (H' : Heap) (locs' : List Loc) (ls' : Array Slot), K M' N' → Lw D ad ad2 cA o od s H' locs' M' N' (oL cL f') (oD cD g') → lv_has ls' 9 [(5, .int (nI q)), (4, .ref od), (3, .ref o), (2, .ref (ad2 0)), (1, .ref (ad 0)), (0, .ref b)] → W p l e room_1 s m #[Value.ref b] below meth c H' locs' (cells + 1) (slots + 6) QQ (F0 m 597 ls' [])) :
    W p l e room_1 s m #[Value.ref b] below meth c H locs cells slots QQ (F0 m 328 ls []) := by
  have hx := hX.1.1
  have hb := hX.1.2.1
  have hbA : ¬ Al s b := Nat.not_le.mpr hbl
  refine lv_aload_n hx hb d_law_328 rfl (lv_at hl 4 rfl) ?_
  refine law_ld (q := q) (k := 1) hx hb hXs hbl hbA hw.2 (by omega) hL (by decide) (lv_at hl 5 rfl) (lv_at hl 0 rfl) d_law_329 d_law_330 d_law_332 d_law_333 d_law_334 ?_
  refine lv_aload_n hx hb d_law_335 rfl (lv_at hl 2 rfl) ?_
  refine lr_hl (n := 3) (As := [.ref (ad 0), .int (xs (q + 1)), .ref o]) (rest := []) hX hw (hs_read hl0 M N (xs (q + 1)) o f K hS) k_92 k_93 k_78 wd_H_read rfl (by decide +kernel) ⟨rfl, rfl, Nat.le_of_ble_eq_true rfl, Nat.le_of_ble_eq_true rfl⟩ rfl hl.1 rfl (Nat.le_of_ble_eq_true rfl) d_law_336 hcl (fun k M' oe H locs hq hw => ?_)
  rcases hq with ⟨rfl, x, rfl, hq⟩ | ⟨hk0, rfl, hq⟩
  · skip
    refine lv_istore (i := 6) hx hb d_law_339 hl (Nat.le_of_ble_eq_true rfl) rfl (fun ls hl => ?_)
    have hl : lv_has ls 9 [(6, .int 0), (5, .int (nI q)), (4, .ref od), (3, .ref o), (2, .ref (ad2 0)), (1, .ref (ad 0)), (0, .ref b)] := hl
    refine lv_aload_n hx hb d_law_341 rfl (lv_at hl 4 rfl) ?_
    refine law_ld (q := q) (k := 1) hx hb hXs hbl hbA hw.2 (by omega) hL (by decide) (lv_at hl 6 rfl) (lv_at hl 1 rfl) d_law_342 d_law_343 d_law_345 d_law_346 d_law_347 ?_
    refine lr_ref (fs := []) (n := 1) (As := [.int (xs (q + 1))]) (rest := []) hX hw (ct_R_read N (xs (q + 1)) _ hq) k_94 mw_R_read rfl ⟨rfl, rfl, Nat.le_of_ble_eq_true rfl, Nat.le_of_ble_eq_true rfl⟩ hcl rfl hl.1 rfl (Nat.le_of_ble_eq_true rfl) d_law_348 (fun r N' H locs hq hw => ?_)
    obtain ⟨b', rfl, hq⟩ := hq
    refine lv_istore (i := 7) hx hb d_law_351 hl (Nat.le_of_ble_eq_true rfl) rfl (fun ls hl => ?_)
    have hl : lv_has ls 9 [(7, .int b'), (6, .int 0), (5, .int (nI q)), (4, .ref od), (3, .ref o), (2, .ref (ad2 0)), (1, .ref (ad 0)), (0, .ref b)] := hl
    have hl' := lv_sub hl [2, 3, 4, 5, 6, 7] rfl
    refine lv_goto (tgt := 597) hx hb d_law_353 (by decide) ?_
    exact kk _ _ _ _ _ _ _ hq hw hl'
  · skip
    refine lv_istore (i := 6) hx hb d_law_339 hl (Nat.le_of_ble_eq_true rfl) rfl (fun ls hl => ?_)
    have hl : lv_has ls 9 [(6, .int k), (5, .int (nI q)), (4, .ref od), (3, .ref o), (2, .ref (ad2 0)), (1, .ref (ad 0)), (0, .ref b)] := hl
    refine lv_aload_n hx hb d_law_341 rfl (lv_at hl 4 rfl) ?_
    refine law_ld (q := q) (k := 1) hx hb hXs hbl hbA hw.2 (by omega) hL (by decide) (lv_at hl 6 rfl) (lv_at hl 1 rfl) d_law_342 d_law_343 d_law_345 d_law_346 d_law_347 ?_
    refine lr_ref (fs := []) (n := 1) (As := [.int (xs (q + 1))]) (rest := []) hX hw (ct_R_read N (xs (q + 1)) _ hq) k_94 mw_R_read rfl ⟨rfl, rfl, Nat.le_of_ble_eq_true rfl, Nat.le_of_ble_eq_true rfl⟩ hcl rfl hl.1 rfl (Nat.le_of_ble_eq_true rfl) d_law_348 (fun r N' H locs hq hw => ?_)
    obtain ⟨b', rfl, hq⟩ := hq
    refine lv_istore (i := 7) hx hb d_law_351 hl (Nat.le_of_ble_eq_true rfl) rfl (fun ls hl => ?_)
    have hl : lv_has ls 9 [(7, .int b'), (6, .int k), (5, .int (nI q)), (4, .ref od), (3, .ref o), (2, .ref (ad2 0)), (1, .ref (ad 0)), (0, .ref b)] := hl
    have hl' := lv_sub hl [2, 3, 4, 5, 6, 7] rfl
    refine lv_goto (tgt := 597) hx hb d_law_353 (by decide) ?_
    exact kk _ _ _ _ _ _ _ hq hw hl'
def St_write (M N : Mem) (p0 : Int32) (p1 : Int32) (p2 : Int64) (K : Mem → Mem → Prop) : Prop := wp_T_write M p0 p1 p2 (fun x M' => wp_R_write N p0 p1 p2 (fun b N' => K M' N')) ∨ wp_TX_write M p0 p1 p2 (fun j M' => (j = 0) ∧ wp_R_write N p0 p1 p2 (fun b N' => K M' N'))
def Rh_write (N : Mem) (p0 : Int32) (p1 : Int32) (p2 : Int64) (K : Mem → Mem → Prop) (cL : ClassId) (f : Nat → Int64) : Int32 → Mem → va_E → Prop := fun k M' oe => (k = 0 ∧ ∃ x : Int32, oe = oL cL (vp_updL f 0 x.toInt64) ∧ wp_R_write N p0 p1 p2 (fun b N' => K M' N')) ∨ (¬ k = 0 ∧ oe = oL cL f ∧ wp_R_write N p0 p1 p2 (fun b N' => K M' N'))
theorem hs_write {l : Launch} {D : va_G} {cA cL : ClassId} {ad tb : Nat → Nat} (hl0 : l.stackTraces = false) (M N : Mem) (p0 : Int32) (p1 : Int32) (p2 : Int64) (o : Nat) (f : Nat → Int64) (K : Mem → Mem → Prop) (h : St_write M N p0 p1 p2 K) : Hp l y_H_write ws_H_write rm_H_write D (ceC ad cA) cA cL .long tb [.ref (ad 0), .int p0, .int p1, .long p2, .ref o] M (o, oL cL f) (Rh_write N p0 p1 p2 K cL f) := by
  refine hp_write M p0 p1 p2 o f _ ?_
  rcases h with h | h
  · exact Or.inl (Ct.mono (ct_T_write M p0 p1 p2 _ h) (fun r M' hr => by
      obtain ⟨x, e, hq⟩ := hr
      exact ⟨x, e, Or.inl ⟨rfl, x, rfl, hq⟩⟩))
  · exact Or.inr (CtX.mono (cx_TX_write hl0 M p0 p1 p2 _ h) (fun j M' hr => ⟨hr.1, Or.inr ⟨by
      have hj := hr.1
      subst hj; decide, rfl, hr.2⟩⟩))
set_option maxHeartbeats 4000000 in
theorem cs_write {p : Program} {l : Launch} {e : Env} {s : State} {m : MethodId} {below : List Frame} {meth : Method} {c : Code} {b L : Nat} {xs : Nat → Int32} {QQ : State → Prop} {H : Heap} {locs : List Loc} {cells slots : Nat} {ls : Array Slot} {D : va_G} {ad ad2 : Nat → Nat} {cA cL cD : ClassId} {tb : Nat → Nat} {o od : Nat} {M N : Mem} {f : Nat → Int64} {g : Nat → UInt64} {q : Nat} {K : Mem → Mem → Prop}
    (hl0 : l.stackTraces = false) (hX : Lx p m c code 9 s #[Value.ref b] D ad ad2 cA cL cD tb o od) (hw : Lw D ad ad2 cA o od s H locs M N (oL cL f) (oD cD g)) (hXs : va_X b L xs s s.heap) (hbl : b < s.heap.size) (hl : lv_has ls 9 [(5, .int (nI q)), (4, .ref od), (3, .ref o), (2, .ref (ad2 0)), (1, .ref (ad 0)), (0, .ref b)]) (hq : q + 6 ≤ L) (hL : L < 2 ^ 31) (hcl : cells + 1 ≤ room_1.cells ∧ slots + 6 ≤ room_1.slots)
    (hS : St_write M N (xs (q + 1)) (xs (q + 2)) (lw_J (xs (q + 3)) (xs (q + 4))) K)
    (kk : ∀ (M' N' : Mem) (f' : Nat → Int64) (g' : Nat → UInt64) (H' : Heap) (locs' : List Loc) (ls' : Array Slot), K M' N' → Lw D ad ad2 cA o od s H' locs' M' N' (oL cL f') (oD cD g') → lv_has ls' 9 [(5, .int (nI q)), (4, .ref od), (3, .ref o), (2, .ref (ad2 0)), (1, .ref (ad 0)), (0, .ref b)] → W p l e room_1 s m #[Value.ref b] below meth c H' locs' (cells + 1) (slots + 6) QQ (F0 m 597 ls' [])) :
    W p l e room_1 s m #[Value.ref b] below meth c H locs cells slots QQ (F0 m 356 ls []) := by
  have hx := hX.1.1
  have hb := hX.1.2.1
  have hbA : ¬ Al s b := Nat.not_le.mpr hbl
  refine lv_aload_n hx hb d_law_356 rfl (lv_at hl 4 rfl) ?_
  refine law_ld (q := q) (k := 1) hx hb hXs hbl hbA hw.2 (by omega) hL (by decide) (lv_at hl 5 rfl) (lv_at hl 0 rfl) d_law_357 d_law_358 d_law_360 d_law_361 d_law_362 ?_
  refine law_ld (q := q) (k := 2) hx hb hXs hbl hbA hw.2 (by omega) hL (by decide) (lv_at hl 5 rfl) (lv_at hl 0 rfl) d_law_363 d_law_364 d_law_366 d_law_367 d_law_368 ?_
  refine law_ld (q := q) (k := 3) hx hb hXs hbl hbA hw.2 (by omega) hL (by decide) (lv_at hl 5 rfl) (lv_at hl 0 rfl) d_law_369 d_law_370 d_law_372 d_law_373 d_law_374 ?_
  refine lv_i2l hx hb d_law_375 rfl ?_
  refine lv_bipush (v := 32) hx hb d_law_376 (by decide) ?_
  refine lv_lshl hx hb d_law_378 rfl ?_
  refine law_ld (q := q) (k := 4) hx hb hXs hbl hbA hw.2 (by omega) hL (by decide) (lv_at hl 5 rfl) (lv_at hl 0 rfl) d_law_379 d_law_380 d_law_382 d_law_383 d_law_384 ?_
  refine lv_i2l hx hb d_law_385 rfl ?_
  refine lv_ldc2 hx hb hX.1.2.2.2.1 (hX.1.2.2.2.2 _ k_75) d_law_386 ?_
  refine lv_land hx hb d_law_389 ?_
  refine lv_lor hx hb d_law_390 ?_
  refine lv_aload_n hx hb d_law_391 rfl (lv_at hl 2 rfl) ?_
  refine lr_hl (n := 5) (As := [.ref (ad 0), .int (xs (q + 1)), .int (xs (q + 2)), .long (lw_J (xs (q + 3)) (xs (q + 4))), .ref o]) (rest := []) hX hw (hs_write hl0 M N (xs (q + 1)) (xs (q + 2)) (lw_J (xs (q + 3)) (xs (q + 4))) o f K hS) k_95 k_96 k_78 wd_H_write rfl (by decide +kernel) ⟨rfl, rfl, Nat.le_of_ble_eq_true rfl, Nat.le_of_ble_eq_true rfl⟩ rfl hl.1 rfl (Nat.le_of_ble_eq_true rfl) d_law_392 hcl (fun k M' oe H locs hq hw => ?_)
  rcases hq with ⟨rfl, x, rfl, hq⟩ | ⟨hk0, rfl, hq⟩
  · skip
    refine lv_istore (i := 6) hx hb d_law_395 hl (Nat.le_of_ble_eq_true rfl) rfl (fun ls hl => ?_)
    have hl : lv_has ls 9 [(6, .int 0), (5, .int (nI q)), (4, .ref od), (3, .ref o), (2, .ref (ad2 0)), (1, .ref (ad 0)), (0, .ref b)] := hl
    refine lv_aload_n hx hb d_law_397 rfl (lv_at hl 4 rfl) ?_
    refine law_ld (q := q) (k := 1) hx hb hXs hbl hbA hw.2 (by omega) hL (by decide) (lv_at hl 6 rfl) (lv_at hl 1 rfl) d_law_398 d_law_399 d_law_401 d_law_402 d_law_403 ?_
    refine law_ld (q := q) (k := 2) hx hb hXs hbl hbA hw.2 (by omega) hL (by decide) (lv_at hl 6 rfl) (lv_at hl 1 rfl) d_law_404 d_law_405 d_law_407 d_law_408 d_law_409 ?_
    refine law_ld (q := q) (k := 3) hx hb hXs hbl hbA hw.2 (by omega) hL (by decide) (lv_at hl 6 rfl) (lv_at hl 1 rfl) d_law_410 d_law_411 d_law_413 d_law_414 d_law_415 ?_
    refine lv_i2l hx hb d_law_416 rfl ?_
    refine lv_bipush (v := 32) hx hb d_law_417 (by decide) ?_
    refine lv_lshl hx hb d_law_419 rfl ?_
    refine law_ld (q := q) (k := 4) hx hb hXs hbl hbA hw.2 (by omega) hL (by decide) (lv_at hl 6 rfl) (lv_at hl 1 rfl) d_law_420 d_law_421 d_law_423 d_law_424 d_law_425 ?_
    refine lv_i2l hx hb d_law_426 rfl ?_
    refine lv_ldc2 hx hb hX.1.2.2.2.1 (hX.1.2.2.2.2 _ k_75) d_law_427 ?_
    refine lv_land hx hb d_law_430 ?_
    refine lv_lor hx hb d_law_431 ?_
    refine lr_ref (fs := []) (n := 3) (As := [.int (xs (q + 1)), .int (xs (q + 2)), .long (lw_J (xs (q + 3)) (xs (q + 4)))]) (rest := []) hX hw (ct_R_write N (xs (q + 1)) (xs (q + 2)) (lw_J (xs (q + 3)) (xs (q + 4))) _ hq) k_97 mw_R_write rfl ⟨rfl, rfl, Nat.le_of_ble_eq_true rfl, Nat.le_of_ble_eq_true rfl⟩ hcl rfl hl.1 rfl (Nat.le_of_ble_eq_true rfl) d_law_432 (fun r N' H locs hq hw => ?_)
    obtain ⟨b', rfl, hq⟩ := hq
    refine lv_istore (i := 7) hx hb d_law_435 hl (Nat.le_of_ble_eq_true rfl) rfl (fun ls hl => ?_)
    have hl : lv_has ls 9 [(7, .int b'), (6, .int 0), (5, .int (nI q)), (4, .ref od), (3, .ref o), (2, .ref (ad2 0)), (1, .ref (ad 0)), (0, .ref b)] := hl
    have hl' := lv_sub hl [2, 3, 4, 5, 6, 7] rfl
    refine lv_goto (tgt := 597) hx hb d_law_437 (by decide) ?_
    exact kk _ _ _ _ _ _ _ hq hw hl'
  · skip
    refine lv_istore (i := 6) hx hb d_law_395 hl (Nat.le_of_ble_eq_true rfl) rfl (fun ls hl => ?_)
    have hl : lv_has ls 9 [(6, .int k), (5, .int (nI q)), (4, .ref od), (3, .ref o), (2, .ref (ad2 0)), (1, .ref (ad 0)), (0, .ref b)] := hl
    refine lv_aload_n hx hb d_law_397 rfl (lv_at hl 4 rfl) ?_
    refine law_ld (q := q) (k := 1) hx hb hXs hbl hbA hw.2 (by omega) hL (by decide) (lv_at hl 6 rfl) (lv_at hl 1 rfl) d_law_398 d_law_399 d_law_401 d_law_402 d_law_403 ?_
    refine law_ld (q := q) (k := 2) hx hb hXs hbl hbA hw.2 (by omega) hL (by decide) (lv_at hl 6 rfl) (lv_at hl 1 rfl) d_law_404 d_law_405 d_law_407 d_law_408 d_law_409 ?_
    refine law_ld (q := q) (k := 3) hx hb hXs hbl hbA hw.2 (by omega) hL (by decide) (lv_at hl 6 rfl) (lv_at hl 1 rfl) d_law_410 d_law_411 d_law_413 d_law_414 d_law_415 ?_
    refine lv_i2l hx hb d_law_416 rfl ?_
    refine lv_bipush (v := 32) hx hb d_law_417 (by decide) ?_
    refine lv_lshl hx hb d_law_419 rfl ?_
    refine law_ld (q := q) (k := 4) hx hb hXs hbl hbA hw.2 (by omega) hL (by decide) (lv_at hl 6 rfl) (lv_at hl 1 rfl) d_law_420 d_law_421 d_law_423 d_law_424 d_law_425 ?_
    refine lv_i2l hx hb d_law_426 rfl ?_
    refine lv_ldc2 hx hb hX.1.2.2.2.1 (hX.1.2.2.2.2 _ k_75) d_law_427 ?_
    refine lv_land hx hb d_law_430 ?_
    refine lv_lor hx hb d_law_431 ?_
    refine lr_ref (fs := []) (n := 3) (As := [.int (xs (q + 1)), .int (xs (q + 2)), .long (lw_J (xs (q + 3)) (xs (q + 4)))]) (rest := []) hX hw (ct_R_write N (xs (q + 1)) (xs (q + 2)) (lw_J (xs (q + 3)) (xs (q + 4))) _ hq) k_97 mw_R_write rfl ⟨rfl, rfl, Nat.le_of_ble_eq_true rfl, Nat.le_of_ble_eq_true rfl⟩ hcl rfl hl.1 rfl (Nat.le_of_ble_eq_true rfl) d_law_432 (fun r N' H locs hq hw => ?_)
    obtain ⟨b', rfl, hq⟩ := hq
    refine lv_istore (i := 7) hx hb d_law_435 hl (Nat.le_of_ble_eq_true rfl) rfl (fun ls hl => ?_)
    have hl : lv_has ls 9 [(7, .int b'), (6, .int k), (5, .int (nI q)), (4, .ref od), (3, .ref o), (2, .ref (ad2 0)), (1, .ref (ad 0)), (0, .ref b)] := hl
    have hl' := lv_sub hl [2, 3, 4, 5, 6, 7] rfl
    refine lv_goto (tgt := 597) hx hb d_law_437 (by decide) ?_
    exact kk _ _ _ _ _ _ _ hq hw hl'
def St_keys (M N : Mem) (p0 : Int32) (K : Mem → Mem → Prop) : Prop := wp_T_keys M p0 (fun x M' => wp_R_keys N p0 (fun b N' => K M' N')) ∨ wp_TX_keys M p0 (fun j M' => (j = 0) ∧ wp_R_keys N p0 (fun b N' => K M' N'))
def Rh_keys (N : Mem) (p0 : Int32) (K : Mem → Mem → Prop) (cL : ClassId) (f : Nat → Int64) : Int32 → Mem → va_E → Prop := fun k M' oe => (k = 0 ∧ ∃ x : Int32, oe = oL cL (vp_updL f 0 x.toInt64) ∧ wp_R_keys N p0 (fun b N' => K M' N')) ∨ (¬ k = 0 ∧ oe = oL cL f ∧ wp_R_keys N p0 (fun b N' => K M' N'))
theorem hs_keys {l : Launch} {D : va_G} {cA cL : ClassId} {ad tb : Nat → Nat} (hl0 : l.stackTraces = false) (M N : Mem) (p0 : Int32) (o : Nat) (f : Nat → Int64) (K : Mem → Mem → Prop) (h : St_keys M N p0 K) : Hp l y_H_keys ws_H_keys rm_H_keys D (ceC ad cA) cA cL .long tb [.ref (ad 0), .int p0, .ref o] M (o, oL cL f) (Rh_keys N p0 K cL f) := by
  refine hp_keys M p0 o f _ ?_
  rcases h with h | h
  · exact Or.inl (Ct.mono (ct_T_keys M p0 _ h) (fun r M' hr => by
      obtain ⟨x, e, hq⟩ := hr
      exact ⟨x, e, Or.inl ⟨rfl, x, rfl, hq⟩⟩))
  · exact Or.inr (CtX.mono (cx_TX_keys hl0 M p0 _ h) (fun j M' hr => ⟨hr.1, Or.inr ⟨by
      have hj := hr.1
      subst hj; decide, rfl, hr.2⟩⟩))
set_option maxHeartbeats 4000000 in
theorem cs_keys {p : Program} {l : Launch} {e : Env} {s : State} {m : MethodId} {below : List Frame} {meth : Method} {c : Code} {b L : Nat} {xs : Nat → Int32} {QQ : State → Prop} {H : Heap} {locs : List Loc} {cells slots : Nat} {ls : Array Slot} {D : va_G} {ad ad2 : Nat → Nat} {cA cL cD : ClassId} {tb : Nat → Nat} {o od : Nat} {M N : Mem} {f : Nat → Int64} {g : Nat → UInt64} {q : Nat} {K : Mem → Mem → Prop}
    (hl0 : l.stackTraces = false) (hX : Lx p m c code 9 s #[Value.ref b] D ad ad2 cA cL cD tb o od) (hw : Lw D ad ad2 cA o od s H locs M N (oL cL f) (oD cD g)) (hXs : va_X b L xs s s.heap) (hbl : b < s.heap.size) (hl : lv_has ls 9 [(5, .int (nI q)), (4, .ref od), (3, .ref o), (2, .ref (ad2 0)), (1, .ref (ad 0)), (0, .ref b)]) (hq : q + 6 ≤ L) (hL : L < 2 ^ 31) (hcl : cells + 1 ≤ room_1.cells ∧ slots + 6 ≤ room_1.slots)
    (hS : St_keys M N (xs (q + 1)) K)
    (kk : ∀ (M' N' : Mem) (f' : Nat → Int64) (g' : Nat → UInt64) (H' : Heap) (locs' : List Loc) (ls' : Array Slot), K M' N' → Lw D ad ad2 cA o od s H' locs' M' N' (oL cL f') (oD cD g') → lv_has ls' 9 [(5, .int (nI q)), (4, .ref od), (3, .ref o), (2, .ref (ad2 0)), (1, .ref (ad 0)), (0, .ref b)] → W p l e room_1 s m #[Value.ref b] below meth c H' locs' (cells + 1) (slots + 6) QQ (F0 m 597 ls' [])) :
    W p l e room_1 s m #[Value.ref b] below meth c H locs cells slots QQ (F0 m 440 ls []) := by
  have hx := hX.1.1
  have hb := hX.1.2.1
  have hbA : ¬ Al s b := Nat.not_le.mpr hbl
  refine lv_aload_n hx hb d_law_440 rfl (lv_at hl 4 rfl) ?_
  refine law_ld (q := q) (k := 1) hx hb hXs hbl hbA hw.2 (by omega) hL (by decide) (lv_at hl 5 rfl) (lv_at hl 0 rfl) d_law_441 d_law_442 d_law_444 d_law_445 d_law_446 ?_
  refine lv_aload_n hx hb d_law_447 rfl (lv_at hl 2 rfl) ?_
  refine lr_hl (n := 3) (As := [.ref (ad 0), .int (xs (q + 1)), .ref o]) (rest := []) hX hw (hs_keys hl0 M N (xs (q + 1)) o f K hS) k_98 k_99 k_78 wd_H_keys rfl (by decide +kernel) ⟨rfl, rfl, Nat.le_of_ble_eq_true rfl, Nat.le_of_ble_eq_true rfl⟩ rfl hl.1 rfl (Nat.le_of_ble_eq_true rfl) d_law_448 hcl (fun k M' oe H locs hq hw => ?_)
  rcases hq with ⟨rfl, x, rfl, hq⟩ | ⟨hk0, rfl, hq⟩
  · skip
    refine lv_istore (i := 6) hx hb d_law_451 hl (Nat.le_of_ble_eq_true rfl) rfl (fun ls hl => ?_)
    have hl : lv_has ls 9 [(6, .int 0), (5, .int (nI q)), (4, .ref od), (3, .ref o), (2, .ref (ad2 0)), (1, .ref (ad 0)), (0, .ref b)] := hl
    refine lv_aload_n hx hb d_law_453 rfl (lv_at hl 4 rfl) ?_
    refine law_ld (q := q) (k := 1) hx hb hXs hbl hbA hw.2 (by omega) hL (by decide) (lv_at hl 6 rfl) (lv_at hl 1 rfl) d_law_454 d_law_455 d_law_457 d_law_458 d_law_459 ?_
    refine lr_ref (fs := []) (n := 1) (As := [.int (xs (q + 1))]) (rest := []) hX hw (ct_R_keys N (xs (q + 1)) _ hq) k_100 mw_R_keys rfl ⟨rfl, rfl, Nat.le_of_ble_eq_true rfl, Nat.le_of_ble_eq_true rfl⟩ hcl rfl hl.1 rfl (Nat.le_of_ble_eq_true rfl) d_law_460 (fun r N' H locs hq hw => ?_)
    obtain ⟨b', rfl, hq⟩ := hq
    refine lv_istore (i := 7) hx hb d_law_463 hl (Nat.le_of_ble_eq_true rfl) rfl (fun ls hl => ?_)
    have hl : lv_has ls 9 [(7, .int b'), (6, .int 0), (5, .int (nI q)), (4, .ref od), (3, .ref o), (2, .ref (ad2 0)), (1, .ref (ad 0)), (0, .ref b)] := hl
    have hl' := lv_sub hl [2, 3, 4, 5, 6, 7] rfl
    refine lv_goto (tgt := 597) hx hb d_law_465 (by decide) ?_
    exact kk _ _ _ _ _ _ _ hq hw hl'
  · skip
    refine lv_istore (i := 6) hx hb d_law_451 hl (Nat.le_of_ble_eq_true rfl) rfl (fun ls hl => ?_)
    have hl : lv_has ls 9 [(6, .int k), (5, .int (nI q)), (4, .ref od), (3, .ref o), (2, .ref (ad2 0)), (1, .ref (ad 0)), (0, .ref b)] := hl
    refine lv_aload_n hx hb d_law_453 rfl (lv_at hl 4 rfl) ?_
    refine law_ld (q := q) (k := 1) hx hb hXs hbl hbA hw.2 (by omega) hL (by decide) (lv_at hl 6 rfl) (lv_at hl 1 rfl) d_law_454 d_law_455 d_law_457 d_law_458 d_law_459 ?_
    refine lr_ref (fs := []) (n := 1) (As := [.int (xs (q + 1))]) (rest := []) hX hw (ct_R_keys N (xs (q + 1)) _ hq) k_100 mw_R_keys rfl ⟨rfl, rfl, Nat.le_of_ble_eq_true rfl, Nat.le_of_ble_eq_true rfl⟩ hcl rfl hl.1 rfl (Nat.le_of_ble_eq_true rfl) d_law_460 (fun r N' H locs hq hw => ?_)
    obtain ⟨b', rfl, hq⟩ := hq
    refine lv_istore (i := 7) hx hb d_law_463 hl (Nat.le_of_ble_eq_true rfl) rfl (fun ls hl => ?_)
    have hl : lv_has ls 9 [(7, .int b'), (6, .int k), (5, .int (nI q)), (4, .ref od), (3, .ref o), (2, .ref (ad2 0)), (1, .ref (ad 0)), (0, .ref b)] := hl
    have hl' := lv_sub hl [2, 3, 4, 5, 6, 7] rfl
    refine lv_goto (tgt := 597) hx hb d_law_465 (by decide) ?_
    exact kk _ _ _ _ _ _ _ hq hw hl'
def St_row (M N : Mem) (p0 : Int32) (K : Mem → Mem → Prop) : Prop := wp_T_row M p0 (fun x M' => wp_R_row N p0 (fun b N' => K M' N')) ∨ wp_TX_row M p0 (fun j M' => (j = 0) ∧ wp_R_row N p0 (fun b N' => K M' N'))
def Rh_row (N : Mem) (p0 : Int32) (K : Mem → Mem → Prop) (cL : ClassId) (f : Nat → Int64) : Int32 → Mem → va_E → Prop := fun k M' oe => (k = 0 ∧ ∃ x : Int32, oe = oL cL (vp_updL f 0 x.toInt64) ∧ wp_R_row N p0 (fun b N' => K M' N')) ∨ (¬ k = 0 ∧ oe = oL cL f ∧ wp_R_row N p0 (fun b N' => K M' N'))
theorem hs_row {l : Launch} {D : va_G} {cA cL : ClassId} {ad tb : Nat → Nat} (hl0 : l.stackTraces = false) (M N : Mem) (p0 : Int32) (o : Nat) (f : Nat → Int64) (K : Mem → Mem → Prop) (h : St_row M N p0 K) : Hp l y_H_row ws_H_row rm_H_row D (ceC ad cA) cA cL .long tb [.ref (ad 0), .int p0, .ref o] M (o, oL cL f) (Rh_row N p0 K cL f) := by
  refine hp_row M p0 o f _ ?_
  rcases h with h | h
  · exact Or.inl (Ct.mono (ct_T_row M p0 _ h) (fun r M' hr => by
      obtain ⟨x, e, hq⟩ := hr
      exact ⟨x, e, Or.inl ⟨rfl, x, rfl, hq⟩⟩))
  · exact Or.inr (CtX.mono (cx_TX_row hl0 M p0 _ h) (fun j M' hr => ⟨hr.1, Or.inr ⟨by
      have hj := hr.1
      subst hj; decide, rfl, hr.2⟩⟩))
set_option maxHeartbeats 4000000 in
theorem cs_row {p : Program} {l : Launch} {e : Env} {s : State} {m : MethodId} {below : List Frame} {meth : Method} {c : Code} {b L : Nat} {xs : Nat → Int32} {QQ : State → Prop} {H : Heap} {locs : List Loc} {cells slots : Nat} {ls : Array Slot} {D : va_G} {ad ad2 : Nat → Nat} {cA cL cD : ClassId} {tb : Nat → Nat} {o od : Nat} {M N : Mem} {f : Nat → Int64} {g : Nat → UInt64} {q : Nat} {K : Mem → Mem → Prop}
    (hl0 : l.stackTraces = false) (hX : Lx p m c code 9 s #[Value.ref b] D ad ad2 cA cL cD tb o od) (hw : Lw D ad ad2 cA o od s H locs M N (oL cL f) (oD cD g)) (hXs : va_X b L xs s s.heap) (hbl : b < s.heap.size) (hl : lv_has ls 9 [(5, .int (nI q)), (4, .ref od), (3, .ref o), (2, .ref (ad2 0)), (1, .ref (ad 0)), (0, .ref b)]) (hq : q + 6 ≤ L) (hL : L < 2 ^ 31) (hcl : cells + 1 ≤ room_1.cells ∧ slots + 6 ≤ room_1.slots)
    (hS : St_row M N (xs (q + 1)) K)
    (kk : ∀ (M' N' : Mem) (f' : Nat → Int64) (g' : Nat → UInt64) (H' : Heap) (locs' : List Loc) (ls' : Array Slot), K M' N' → Lw D ad ad2 cA o od s H' locs' M' N' (oL cL f') (oD cD g') → lv_has ls' 9 [(5, .int (nI q)), (4, .ref od), (3, .ref o), (2, .ref (ad2 0)), (1, .ref (ad 0)), (0, .ref b)] → W p l e room_1 s m #[Value.ref b] below meth c H' locs' (cells + 1) (slots + 6) QQ (F0 m 597 ls' [])) :
    W p l e room_1 s m #[Value.ref b] below meth c H locs cells slots QQ (F0 m 468 ls []) := by
  have hx := hX.1.1
  have hb := hX.1.2.1
  have hbA : ¬ Al s b := Nat.not_le.mpr hbl
  refine lv_aload_n hx hb d_law_468 rfl (lv_at hl 4 rfl) ?_
  refine law_ld (q := q) (k := 1) hx hb hXs hbl hbA hw.2 (by omega) hL (by decide) (lv_at hl 5 rfl) (lv_at hl 0 rfl) d_law_469 d_law_470 d_law_472 d_law_473 d_law_474 ?_
  refine lv_aload_n hx hb d_law_475 rfl (lv_at hl 2 rfl) ?_
  refine lr_hl (n := 3) (As := [.ref (ad 0), .int (xs (q + 1)), .ref o]) (rest := []) hX hw (hs_row hl0 M N (xs (q + 1)) o f K hS) k_101 k_102 k_78 wd_H_row rfl (by decide +kernel) ⟨rfl, rfl, Nat.le_of_ble_eq_true rfl, Nat.le_of_ble_eq_true rfl⟩ rfl hl.1 rfl (Nat.le_of_ble_eq_true rfl) d_law_476 hcl (fun k M' oe H locs hq hw => ?_)
  rcases hq with ⟨rfl, x, rfl, hq⟩ | ⟨hk0, rfl, hq⟩
  · skip
    refine lv_istore (i := 6) hx hb d_law_479 hl (Nat.le_of_ble_eq_true rfl) rfl (fun ls hl => ?_)
    have hl : lv_has ls 9 [(6, .int 0), (5, .int (nI q)), (4, .ref od), (3, .ref o), (2, .ref (ad2 0)), (1, .ref (ad 0)), (0, .ref b)] := hl
    refine lv_aload_n hx hb d_law_481 rfl (lv_at hl 4 rfl) ?_
    refine law_ld (q := q) (k := 1) hx hb hXs hbl hbA hw.2 (by omega) hL (by decide) (lv_at hl 6 rfl) (lv_at hl 1 rfl) d_law_482 d_law_483 d_law_485 d_law_486 d_law_487 ?_
    refine lr_ref (fs := []) (n := 1) (As := [.int (xs (q + 1))]) (rest := []) hX hw (ct_R_row N (xs (q + 1)) _ hq) k_103 mw_R_row rfl ⟨rfl, rfl, Nat.le_of_ble_eq_true rfl, Nat.le_of_ble_eq_true rfl⟩ hcl rfl hl.1 rfl (Nat.le_of_ble_eq_true rfl) d_law_488 (fun r N' H locs hq hw => ?_)
    obtain ⟨b', rfl, hq⟩ := hq
    refine lv_istore (i := 7) hx hb d_law_491 hl (Nat.le_of_ble_eq_true rfl) rfl (fun ls hl => ?_)
    have hl : lv_has ls 9 [(7, .int b'), (6, .int 0), (5, .int (nI q)), (4, .ref od), (3, .ref o), (2, .ref (ad2 0)), (1, .ref (ad 0)), (0, .ref b)] := hl
    have hl' := lv_sub hl [2, 3, 4, 5, 6, 7] rfl
    refine lv_goto (tgt := 597) hx hb d_law_493 (by decide) ?_
    exact kk _ _ _ _ _ _ _ hq hw hl'
  · skip
    refine lv_istore (i := 6) hx hb d_law_479 hl (Nat.le_of_ble_eq_true rfl) rfl (fun ls hl => ?_)
    have hl : lv_has ls 9 [(6, .int k), (5, .int (nI q)), (4, .ref od), (3, .ref o), (2, .ref (ad2 0)), (1, .ref (ad 0)), (0, .ref b)] := hl
    refine lv_aload_n hx hb d_law_481 rfl (lv_at hl 4 rfl) ?_
    refine law_ld (q := q) (k := 1) hx hb hXs hbl hbA hw.2 (by omega) hL (by decide) (lv_at hl 6 rfl) (lv_at hl 1 rfl) d_law_482 d_law_483 d_law_485 d_law_486 d_law_487 ?_
    refine lr_ref (fs := []) (n := 1) (As := [.int (xs (q + 1))]) (rest := []) hX hw (ct_R_row N (xs (q + 1)) _ hq) k_103 mw_R_row rfl ⟨rfl, rfl, Nat.le_of_ble_eq_true rfl, Nat.le_of_ble_eq_true rfl⟩ hcl rfl hl.1 rfl (Nat.le_of_ble_eq_true rfl) d_law_488 (fun r N' H locs hq hw => ?_)
    obtain ⟨b', rfl, hq⟩ := hq
    refine lv_istore (i := 7) hx hb d_law_491 hl (Nat.le_of_ble_eq_true rfl) rfl (fun ls hl => ?_)
    have hl : lv_has ls 9 [(7, .int b'), (6, .int k), (5, .int (nI q)), (4, .ref od), (3, .ref o), (2, .ref (ad2 0)), (1, .ref (ad 0)), (0, .ref b)] := hl
    have hl' := lv_sub hl [2, 3, 4, 5, 6, 7] rfl
    refine lv_goto (tgt := 597) hx hb d_law_493 (by decide) ?_
    exact kk _ _ _ _ _ _ _ hq hw hl'
def St_pixel (M N : Mem) (p0 : Int32) (K : Mem → Mem → Prop) : Prop := wp_T_pixel M p0 (fun x => wp_R_pixel N p0 (fun b N' => K M N')) ∨ wp_TX_pixel M p0 (fun j M' => (j = 1) ∧ wp_R_pixel N p0 (fun b N' => K M' N'))
def Rh_pixel (N : Mem) (p0 : Int32) (K : Mem → Mem → Prop) (cL : ClassId) (f : Nat → Int64) : Int32 → Mem → va_E → Prop := fun k M' oe => (k = 0 ∧ ∃ x : Int32, oe = oL cL (vp_updL f 0 x.toInt64) ∧ wp_R_pixel N p0 (fun b N' => K M' N')) ∨ (¬ k = 0 ∧ oe = oL cL f ∧ wp_R_pixel N p0 (fun b N' => K M' N'))
theorem hs_pixel {l : Launch} {D : va_G} {cA cL : ClassId} {ad tb : Nat → Nat} (hl0 : l.stackTraces = false) (M N : Mem) (p0 : Int32) (o : Nat) (f : Nat → Int64) (K : Mem → Mem → Prop) (h : St_pixel M N p0 K) : Hp l y_H_pixel ws_H_pixel rm_H_pixel D (ceC ad cA) cA cL .long tb [.ref (ad 0), .int p0, .ref o] M (o, oL cL f) (Rh_pixel N p0 K cL f) := by
  refine hp_pixel M p0 o f _ ?_
  rcases h with h | h
  · exact Or.inl (Ct.mono (ct_T_pixel M p0 _ h) (fun r M' hr => by
      obtain ⟨rfl, x, e, hq⟩ := hr
      exact ⟨x, e, Or.inl ⟨rfl, x, rfl, hq⟩⟩))
  · exact Or.inr (CtX.mono (cx_TX_pixel hl0 M p0 _ h) (fun j M' hr => ⟨hr.1, Or.inr ⟨by
      have hj := hr.1
      subst hj; decide, rfl, hr.2⟩⟩))
set_option maxHeartbeats 4000000 in
theorem cs_pixel {p : Program} {l : Launch} {e : Env} {s : State} {m : MethodId} {below : List Frame} {meth : Method} {c : Code} {b L : Nat} {xs : Nat → Int32} {QQ : State → Prop} {H : Heap} {locs : List Loc} {cells slots : Nat} {ls : Array Slot} {D : va_G} {ad ad2 : Nat → Nat} {cA cL cD : ClassId} {tb : Nat → Nat} {o od : Nat} {M N : Mem} {f : Nat → Int64} {g : Nat → UInt64} {q : Nat} {K : Mem → Mem → Prop}
    (hl0 : l.stackTraces = false) (hX : Lx p m c code 9 s #[Value.ref b] D ad ad2 cA cL cD tb o od) (hw : Lw D ad ad2 cA o od s H locs M N (oL cL f) (oD cD g)) (hXs : va_X b L xs s s.heap) (hbl : b < s.heap.size) (hl : lv_has ls 9 [(5, .int (nI q)), (4, .ref od), (3, .ref o), (2, .ref (ad2 0)), (1, .ref (ad 0)), (0, .ref b)]) (hq : q + 6 ≤ L) (hL : L < 2 ^ 31) (hcl : cells + 1 ≤ room_1.cells ∧ slots + 6 ≤ room_1.slots)
    (hS : St_pixel M N (xs (q + 1)) K)
    (kk : ∀ (M' N' : Mem) (f' : Nat → Int64) (g' : Nat → UInt64) (H' : Heap) (locs' : List Loc) (ls' : Array Slot), K M' N' → Lw D ad ad2 cA o od s H' locs' M' N' (oL cL f') (oD cD g') → lv_has ls' 9 [(5, .int (nI q)), (4, .ref od), (3, .ref o), (2, .ref (ad2 0)), (1, .ref (ad 0)), (0, .ref b)] → W p l e room_1 s m #[Value.ref b] below meth c H' locs' (cells + 1) (slots + 6) QQ (F0 m 597 ls' [])) :
    W p l e room_1 s m #[Value.ref b] below meth c H locs cells slots QQ (F0 m 496 ls []) := by
  have hx := hX.1.1
  have hb := hX.1.2.1
  have hbA : ¬ Al s b := Nat.not_le.mpr hbl
  refine lv_aload_n hx hb d_law_496 rfl (lv_at hl 4 rfl) ?_
  refine law_ld (q := q) (k := 1) hx hb hXs hbl hbA hw.2 (by omega) hL (by decide) (lv_at hl 5 rfl) (lv_at hl 0 rfl) d_law_497 d_law_498 d_law_500 d_law_501 d_law_502 ?_
  refine lv_aload_n hx hb d_law_503 rfl (lv_at hl 2 rfl) ?_
  refine lr_hl (n := 3) (As := [.ref (ad 0), .int (xs (q + 1)), .ref o]) (rest := []) hX hw (hs_pixel hl0 M N (xs (q + 1)) o f K hS) k_104 k_105 k_78 wd_H_pixel rfl (by decide +kernel) ⟨rfl, rfl, Nat.le_of_ble_eq_true rfl, Nat.le_of_ble_eq_true rfl⟩ rfl hl.1 rfl (Nat.le_of_ble_eq_true rfl) d_law_504 hcl (fun k M' oe H locs hq hw => ?_)
  rcases hq with ⟨rfl, x, rfl, hq⟩ | ⟨hk0, rfl, hq⟩
  · skip
    refine lv_istore (i := 6) hx hb d_law_507 hl (Nat.le_of_ble_eq_true rfl) rfl (fun ls hl => ?_)
    have hl : lv_has ls 9 [(6, .int 0), (5, .int (nI q)), (4, .ref od), (3, .ref o), (2, .ref (ad2 0)), (1, .ref (ad 0)), (0, .ref b)] := hl
    refine lv_aload_n hx hb d_law_509 rfl (lv_at hl 4 rfl) ?_
    refine law_ld (q := q) (k := 1) hx hb hXs hbl hbA hw.2 (by omega) hL (by decide) (lv_at hl 6 rfl) (lv_at hl 1 rfl) d_law_510 d_law_511 d_law_513 d_law_514 d_law_515 ?_
    refine lr_ref (fs := []) (n := 1) (As := [.int (xs (q + 1))]) (rest := []) hX hw (ct_R_pixel N (xs (q + 1)) _ hq) k_106 mw_R_pixel rfl ⟨rfl, rfl, Nat.le_of_ble_eq_true rfl, Nat.le_of_ble_eq_true rfl⟩ hcl rfl hl.1 rfl (Nat.le_of_ble_eq_true rfl) d_law_516 (fun r N' H locs hq hw => ?_)
    obtain ⟨b', rfl, hq⟩ := hq
    refine lv_istore (i := 7) hx hb d_law_519 hl (Nat.le_of_ble_eq_true rfl) rfl (fun ls hl => ?_)
    have hl : lv_has ls 9 [(7, .int b'), (6, .int 0), (5, .int (nI q)), (4, .ref od), (3, .ref o), (2, .ref (ad2 0)), (1, .ref (ad 0)), (0, .ref b)] := hl
    have hl' := lv_sub hl [2, 3, 4, 5, 6, 7] rfl
    refine lv_goto (tgt := 597) hx hb d_law_521 (by decide) ?_
    exact kk _ _ _ _ _ _ _ hq hw hl'
  · skip
    refine lv_istore (i := 6) hx hb d_law_507 hl (Nat.le_of_ble_eq_true rfl) rfl (fun ls hl => ?_)
    have hl : lv_has ls 9 [(6, .int k), (5, .int (nI q)), (4, .ref od), (3, .ref o), (2, .ref (ad2 0)), (1, .ref (ad 0)), (0, .ref b)] := hl
    refine lv_aload_n hx hb d_law_509 rfl (lv_at hl 4 rfl) ?_
    refine law_ld (q := q) (k := 1) hx hb hXs hbl hbA hw.2 (by omega) hL (by decide) (lv_at hl 6 rfl) (lv_at hl 1 rfl) d_law_510 d_law_511 d_law_513 d_law_514 d_law_515 ?_
    refine lr_ref (fs := []) (n := 1) (As := [.int (xs (q + 1))]) (rest := []) hX hw (ct_R_pixel N (xs (q + 1)) _ hq) k_106 mw_R_pixel rfl ⟨rfl, rfl, Nat.le_of_ble_eq_true rfl, Nat.le_of_ble_eq_true rfl⟩ hcl rfl hl.1 rfl (Nat.le_of_ble_eq_true rfl) d_law_516 (fun r N' H locs hq hw => ?_)
    obtain ⟨b', rfl, hq⟩ := hq
    refine lv_istore (i := 7) hx hb d_law_519 hl (Nat.le_of_ble_eq_true rfl) rfl (fun ls hl => ?_)
    have hl : lv_has ls 9 [(7, .int b'), (6, .int k), (5, .int (nI q)), (4, .ref od), (3, .ref o), (2, .ref (ad2 0)), (1, .ref (ad 0)), (0, .ref b)] := hl
    have hl' := lv_sub hl [2, 3, 4, 5, 6, 7] rfl
    refine lv_goto (tgt := 597) hx hb d_law_521 (by decide) ?_
    exact kk _ _ _ _ _ _ _ hq hw hl'
def St_count (M N : Mem) (p0 : Int32) (K : Mem → Mem → Prop) : Prop := wp_T_count M p0 (fun x => wp_R_count N p0 (fun b N' => N' 0 0 = 0 ∧ x = b ∧ K M N')) ∨ wp_TX_count M p0 (fun j M' => (j = 0) ∧ wp_R_count N p0 (fun b N' => N' 0 0 = hk_H_count j ∧ K M' N'))
def Rh_count (N : Mem) (p0 : Int32) (K : Mem → Mem → Prop) (cL : ClassId) (f : Nat → Int64) : Int32 → Mem → va_E → Prop := fun k M' oe => (k = 0 ∧ ∃ x : Int32, oe = oL cL (vp_updL f 0 x.toInt64) ∧ wp_R_count N p0 (fun b N' => N' 0 0 = 0 ∧ x = b ∧ K M' N')) ∨ (¬ k = 0 ∧ oe = oL cL f ∧ wp_R_count N p0 (fun b N' => N' 0 0 = k ∧ K M' N'))
theorem hs_count {l : Launch} {D : va_G} {cA cL : ClassId} {ad tb : Nat → Nat} (hl0 : l.stackTraces = false) (M N : Mem) (p0 : Int32) (o : Nat) (f : Nat → Int64) (K : Mem → Mem → Prop) (h : St_count M N p0 K) : Hp l y_H_count ws_H_count rm_H_count D (ceC ad cA) cA cL .long tb [.ref (ad 0), .int p0, .ref o] M (o, oL cL f) (Rh_count N p0 K cL f) := by
  refine hp_count M p0 o f _ ?_
  rcases h with h | h
  · exact Or.inl (Ct.mono (ct_T_count M p0 _ h) (fun r M' hr => by
      obtain ⟨rfl, x, e, hq⟩ := hr
      exact ⟨x, e, Or.inl ⟨rfl, x, rfl, hq⟩⟩))
  · exact Or.inr (CtX.mono (cx_TX_count hl0 M p0 _ h) (fun j M' hr => ⟨hr.1, Or.inr ⟨by
      have hj := hr.1
      subst hj; decide, rfl, hr.2⟩⟩))
set_option maxHeartbeats 4000000 in
theorem cs_count {p : Program} {l : Launch} {e : Env} {s : State} {m : MethodId} {below : List Frame} {meth : Method} {c : Code} {b L : Nat} {xs : Nat → Int32} {QQ : State → Prop} {H : Heap} {locs : List Loc} {cells slots : Nat} {ls : Array Slot} {D : va_G} {ad ad2 : Nat → Nat} {cA cL cD : ClassId} {tb : Nat → Nat} {o od : Nat} {M N : Mem} {f : Nat → Int64} {g : Nat → UInt64} {q : Nat} {K : Mem → Mem → Prop}
    (hl0 : l.stackTraces = false) (hX : Lx p m c code 9 s #[Value.ref b] D ad ad2 cA cL cD tb o od) (hw : Lw D ad ad2 cA o od s H locs M N (oL cL f) (oD cD g)) (hXs : va_X b L xs s s.heap) (hbl : b < s.heap.size) (hl : lv_has ls 9 [(5, .int (nI q)), (4, .ref od), (3, .ref o), (2, .ref (ad2 0)), (1, .ref (ad 0)), (0, .ref b)]) (hq : q + 6 ≤ L) (hL : L < 2 ^ 31) (hcl : cells + 1 ≤ room_1.cells ∧ slots + 6 ≤ room_1.slots)
    (hS : St_count M N (xs (q + 1)) K)
    (kk : ∀ (M' N' : Mem) (f' : Nat → Int64) (g' : Nat → UInt64) (H' : Heap) (locs' : List Loc) (ls' : Array Slot), K M' N' → Lw D ad ad2 cA o od s H' locs' M' N' (oL cL f') (oD cD g') → lv_has ls' 9 [(5, .int (nI q)), (4, .ref od), (3, .ref o), (2, .ref (ad2 0)), (1, .ref (ad 0)), (0, .ref b)] → W p l e room_1 s m #[Value.ref b] below meth c H' locs' (cells + 1) (slots + 6) QQ (F0 m 597 ls' [])) :
    W p l e room_1 s m #[Value.ref b] below meth c H locs cells slots QQ (F0 m 524 ls []) := by
  have hx := hX.1.1
  have hb := hX.1.2.1
  have hbA : ¬ Al s b := Nat.not_le.mpr hbl
  refine lv_aload_n hx hb d_law_524 rfl (lv_at hl 4 rfl) ?_
  refine law_ld (q := q) (k := 1) hx hb hXs hbl hbA hw.2 (by omega) hL (by decide) (lv_at hl 5 rfl) (lv_at hl 0 rfl) d_law_525 d_law_526 d_law_528 d_law_529 d_law_530 ?_
  refine lv_aload_n hx hb d_law_531 rfl (lv_at hl 2 rfl) ?_
  refine lr_hl (n := 3) (As := [.ref (ad 0), .int (xs (q + 1)), .ref o]) (rest := []) hX hw (hs_count hl0 M N (xs (q + 1)) o f K hS) k_107 k_108 k_78 wd_H_count rfl (by decide +kernel) ⟨rfl, rfl, Nat.le_of_ble_eq_true rfl, Nat.le_of_ble_eq_true rfl⟩ rfl hl.1 rfl (Nat.le_of_ble_eq_true rfl) d_law_532 hcl (fun k M' oe H locs hq hw => ?_)
  rcases hq with ⟨rfl, x, rfl, hq⟩ | ⟨hk0, rfl, hq⟩
  · skip
    refine lv_istore (i := 6) hx hb d_law_535 hl (Nat.le_of_ble_eq_true rfl) rfl (fun ls hl => ?_)
    have hl : lv_has ls 9 [(6, .int 0), (5, .int (nI q)), (4, .ref od), (3, .ref o), (2, .ref (ad2 0)), (1, .ref (ad 0)), (0, .ref b)] := hl
    refine lv_aload_n hx hb d_law_537 rfl (lv_at hl 4 rfl) ?_
    refine law_ld (q := q) (k := 1) hx hb hXs hbl hbA hw.2 (by omega) hL (by decide) (lv_at hl 6 rfl) (lv_at hl 1 rfl) d_law_538 d_law_539 d_law_541 d_law_542 d_law_543 ?_
    refine lr_ref (fs := []) (n := 1) (As := [.int (xs (q + 1))]) (rest := []) hX hw (ct_R_count N (xs (q + 1)) _ hq) k_109 mw_R_count rfl ⟨rfl, rfl, Nat.le_of_ble_eq_true rfl, Nat.le_of_ble_eq_true rfl⟩ hcl rfl hl.1 rfl (Nat.le_of_ble_eq_true rfl) d_law_544 (fun r N' H locs hq hw => ?_)
    obtain ⟨b', rfl, hq⟩ := hq
    refine lv_istore (i := 7) hx hb d_law_547 hl (Nat.le_of_ble_eq_true rfl) rfl (fun ls hl => ?_)
    have hl : lv_has ls 9 [(7, .int b'), (6, .int 0), (5, .int (nI q)), (4, .ref od), (3, .ref o), (2, .ref (ad2 0)), (1, .ref (ad 0)), (0, .ref b)] := hl
    refine lv_aload_n hx hb d_law_549 rfl (lv_at hl 5 rfl) ?_
    refine lr_ref (fs := []) (n := 0) (As := []) (rest := []) hX hw (ct_R_thrown N' (fun t => t = N' 0 0) rfl) k_110 mw_R_thrown rfl ⟨rfl, rfl, Nat.le_of_ble_eq_true rfl, Nat.le_of_ble_eq_true rfl⟩ hcl rfl hl.1 rfl (Nat.le_of_ble_eq_true rfl) d_law_550 (fun r N2 H locs ht hw2 => ?_)
    obtain ⟨rfl, t, rfl, rfl⟩ := ht
    have hw := hw2
    refine lv_iload hx hb d_law_553 (lv_at hl 1 rfl) ?_
    refine lv_icmp_eq (tgt := 560) hx hb d_law_555 (by decide) (fun _ => ?_) (fun hc => absurd hq.1 hc)
    refine lv_iload hx hb d_law_560 (lv_at hl 1 rfl) ?_
    refine lv_if_ne (tgt := 577) hx hb d_law_562 (by decide) (fun hc => absurd rfl hc) (fun _ => ?_)
    refine lv_aload_n hx hb d_law_565 rfl (lv_at hl 4 rfl) ?_
    refine lv_iconst (v := 0) hx hb d_law_566 (by decide) ?_
    refine va_lald hx hb hX.2.2.1 hw.1 27 0 rfl rfl vp_in01 d_law_567 ?_
    refine lv_iload hx hb d_law_568 (lv_at hl 0 rfl) ?_
    refine lv_i2l hx hb d_law_570 rfl ?_
    refine lw_lcmp hx hb d_law_571 ?_
    obtain ⟨hq0, rfl, hq⟩ := hq
    rw [updL_0, lcmp_same]
    refine lv_if_eq (tgt := 577) hx hb d_law_572 (by decide) (fun _ => ?_) (fun hc => absurd rfl hc)
    have hl' := lv_sub hl [2, 3, 4, 5, 6, 7] rfl
    refine lv_goto (tgt := 597) hx hb d_law_577 (by decide) ?_
    exact kk _ _ _ _ _ _ _ hq hw hl'
  · skip
    refine lv_istore (i := 6) hx hb d_law_535 hl (Nat.le_of_ble_eq_true rfl) rfl (fun ls hl => ?_)
    have hl : lv_has ls 9 [(6, .int k), (5, .int (nI q)), (4, .ref od), (3, .ref o), (2, .ref (ad2 0)), (1, .ref (ad 0)), (0, .ref b)] := hl
    refine lv_aload_n hx hb d_law_537 rfl (lv_at hl 4 rfl) ?_
    refine law_ld (q := q) (k := 1) hx hb hXs hbl hbA hw.2 (by omega) hL (by decide) (lv_at hl 6 rfl) (lv_at hl 1 rfl) d_law_538 d_law_539 d_law_541 d_law_542 d_law_543 ?_
    refine lr_ref (fs := []) (n := 1) (As := [.int (xs (q + 1))]) (rest := []) hX hw (ct_R_count N (xs (q + 1)) _ hq) k_109 mw_R_count rfl ⟨rfl, rfl, Nat.le_of_ble_eq_true rfl, Nat.le_of_ble_eq_true rfl⟩ hcl rfl hl.1 rfl (Nat.le_of_ble_eq_true rfl) d_law_544 (fun r N' H locs hq hw => ?_)
    obtain ⟨b', rfl, hq⟩ := hq
    refine lv_istore (i := 7) hx hb d_law_547 hl (Nat.le_of_ble_eq_true rfl) rfl (fun ls hl => ?_)
    have hl : lv_has ls 9 [(7, .int b'), (6, .int k), (5, .int (nI q)), (4, .ref od), (3, .ref o), (2, .ref (ad2 0)), (1, .ref (ad 0)), (0, .ref b)] := hl
    refine lv_aload_n hx hb d_law_549 rfl (lv_at hl 5 rfl) ?_
    refine lr_ref (fs := []) (n := 0) (As := []) (rest := []) hX hw (ct_R_thrown N' (fun t => t = N' 0 0) rfl) k_110 mw_R_thrown rfl ⟨rfl, rfl, Nat.le_of_ble_eq_true rfl, Nat.le_of_ble_eq_true rfl⟩ hcl rfl hl.1 rfl (Nat.le_of_ble_eq_true rfl) d_law_550 (fun r N2 H locs ht hw2 => ?_)
    obtain ⟨rfl, t, rfl, rfl⟩ := ht
    have hw := hw2
    refine lv_iload hx hb d_law_553 (lv_at hl 1 rfl) ?_
    refine lv_icmp_eq (tgt := 560) hx hb d_law_555 (by decide) (fun _ => ?_) (fun hc => absurd hq.1 hc)
    refine lv_iload hx hb d_law_560 (lv_at hl 1 rfl) ?_
    refine lv_if_ne (tgt := 577) hx hb d_law_562 (by decide) (fun _ => ?_) (fun hc => absurd hc hk0)
    have hl' := lv_sub hl [2, 3, 4, 5, 6, 7] rfl
    refine lv_goto (tgt := 597) hx hb d_law_577 (by decide) ?_
    exact kk _ _ _ _ _ _ _ hq.2 hw hl'
def St_speed (M N : Mem)  (K : Mem → Mem → Prop) : Prop := wp_T_speed M (fun x => wp_R_speed N (fun b N' => K M N')) ∨ wp_TX_speed M (fun j M' => (j = 4) ∧ wp_R_speed N (fun b N' => K M' N'))
def Rh_speed (N : Mem)  (K : Mem → Mem → Prop) (cD : ClassId) (g : Nat → UInt64) : Int32 → Mem → va_E → Prop := fun k M' oe => (k = 0 ∧ ∃ x : UInt64, oe = oD cD (vf_upd g 0 x) ∧ wp_R_speed N (fun b N' => K M' N')) ∨ (¬ k = 0 ∧ oe = oD cD g ∧ wp_R_speed N (fun b N' => K M' N'))
theorem hs_speed {l : Launch} {D : va_G} {cA cD : ClassId} {ad tb : Nat → Nat} (hl0 : l.stackTraces = false) (M N : Mem)  (od : Nat) (g : Nat → UInt64) (K : Mem → Mem → Prop) (h : St_speed M N K) : Hp l y_H_speed ws_H_speed rm_H_speed D (ceC ad cA) cA cD .double tb [.ref (ad 0), .ref od] M (od, oD cD g) (Rh_speed N K cD g) := by
  refine hp_speed M od g _ ?_
  rcases h with h | h
  · exact Or.inl (Ct.mono (ct_T_speed M _ h) (fun r M' hr => by
      obtain ⟨rfl, x, e, hq⟩ := hr
      exact ⟨x, e, Or.inl ⟨rfl, x, rfl, hq⟩⟩))
  · exact Or.inr (CtX.mono (cx_TX_speed hl0 M _ h) (fun j M' hr => ⟨hr.1, Or.inr ⟨by
      have hj := hr.1
      subst hj; decide, rfl, hr.2⟩⟩))
set_option maxHeartbeats 4000000 in
theorem cs_speed {p : Program} {l : Launch} {e : Env} {s : State} {m : MethodId} {below : List Frame} {meth : Method} {c : Code} {b L : Nat} {xs : Nat → Int32} {QQ : State → Prop} {H : Heap} {locs : List Loc} {cells slots : Nat} {ls : Array Slot} {D : va_G} {ad ad2 : Nat → Nat} {cA cL cD : ClassId} {tb : Nat → Nat} {o od : Nat} {M N : Mem} {f : Nat → Int64} {g : Nat → UInt64} {q : Nat} {K : Mem → Mem → Prop}
    (hl0 : l.stackTraces = false) (hX : Lx p m c code 9 s #[Value.ref b] D ad ad2 cA cL cD tb o od) (hw : Lw D ad ad2 cA o od s H locs M N (oL cL f) (oD cD g)) (hXs : va_X b L xs s s.heap) (hbl : b < s.heap.size) (hl : lv_has ls 9 [(5, .int (nI q)), (4, .ref od), (3, .ref o), (2, .ref (ad2 0)), (1, .ref (ad 0)), (0, .ref b)]) (hq : q + 6 ≤ L) (hL : L < 2 ^ 31) (hcl : cells + 1 ≤ room_1.cells ∧ slots + 6 ≤ room_1.slots)
    (hS : St_speed M N K)
    (kk : ∀ (M' N' : Mem) (f' : Nat → Int64) (g' : Nat → UInt64) (H' : Heap) (locs' : List Loc) (ls' : Array Slot), K M' N' → Lw D ad ad2 cA o od s H' locs' M' N' (oL cL f') (oD cD g') → lv_has ls' 9 [(5, .int (nI q)), (4, .ref od), (3, .ref o), (2, .ref (ad2 0)), (1, .ref (ad 0)), (0, .ref b)] → W p l e room_1 s m #[Value.ref b] below meth c H' locs' (cells + 1) (slots + 6) QQ (F0 m 597 ls' [])) :
    W p l e room_1 s m #[Value.ref b] below meth c H locs cells slots QQ (F0 m 580 ls []) := by
  have hx := hX.1.1
  have hb := hX.1.2.1
  have hbA : ¬ Al s b := Nat.not_le.mpr hbl
  refine lv_aload_n hx hb d_law_580 rfl (lv_at hl 4 rfl) ?_
  refine lv_aload hx hb d_law_581 (lv_at hl 1 rfl) ?_
  refine lr_hd (n := 2) (As := [.ref (ad 0), .ref od]) (rest := []) hX hw (hs_speed hl0 M N od g K hS) k_111 k_112 k_78 wd_H_speed rfl (by decide +kernel) ⟨rfl, rfl, Nat.le_of_ble_eq_true rfl, Nat.le_of_ble_eq_true rfl⟩ rfl hl.1 rfl (Nat.le_of_ble_eq_true rfl) d_law_583 hcl (fun k M' oe H locs hq hw => ?_)
  rcases hq with ⟨rfl, x, rfl, hq⟩ | ⟨hk0, rfl, hq⟩
  · skip
    refine lv_istore (i := 6) hx hb d_law_586 hl (Nat.le_of_ble_eq_true rfl) rfl (fun ls hl => ?_)
    have hl : lv_has ls 9 [(6, .int 0), (5, .int (nI q)), (4, .ref od), (3, .ref o), (2, .ref (ad2 0)), (1, .ref (ad 0)), (0, .ref b)] := hl
    refine lv_aload_n hx hb d_law_588 rfl (lv_at hl 4 rfl) ?_
    refine lr_ref (fs := []) (n := 0) (As := []) (rest := []) hX hw (ct_R_speed N _ hq) k_113 mw_R_speed rfl ⟨rfl, rfl, Nat.le_of_ble_eq_true rfl, Nat.le_of_ble_eq_true rfl⟩ hcl rfl hl.1 rfl (Nat.le_of_ble_eq_true rfl) d_law_589 (fun r N' H locs hq hw => ?_)
    obtain ⟨b', rfl, hq⟩ := hq
    refine lv_dstore (i := 7) hx hb d_law_592 hl (Nat.le_of_ble_eq_true rfl) rfl (fun ls hl => ?_)
    have hl : lv_has ls 9 [(7, .double b'), (6, .int 0), (5, .int (nI q)), (4, .ref od), (3, .ref o), (2, .ref (ad2 0)), (1, .ref (ad 0)), (0, .ref b)] := hl
    have hl' := lv_sub hl [2, 3, 4, 5, 6, 7] rfl
    refine lv_goto (tgt := 597) hx hb d_law_594 (by decide) ?_
    exact kk _ _ _ _ _ _ _ hq hw hl'
  · skip
    refine lv_istore (i := 6) hx hb d_law_586 hl (Nat.le_of_ble_eq_true rfl) rfl (fun ls hl => ?_)
    have hl : lv_has ls 9 [(6, .int k), (5, .int (nI q)), (4, .ref od), (3, .ref o), (2, .ref (ad2 0)), (1, .ref (ad 0)), (0, .ref b)] := hl
    refine lv_aload_n hx hb d_law_588 rfl (lv_at hl 4 rfl) ?_
    refine lr_ref (fs := []) (n := 0) (As := []) (rest := []) hX hw (ct_R_speed N _ hq) k_113 mw_R_speed rfl ⟨rfl, rfl, Nat.le_of_ble_eq_true rfl, Nat.le_of_ble_eq_true rfl⟩ hcl rfl hl.1 rfl (Nat.le_of_ble_eq_true rfl) d_law_589 (fun r N' H locs hq hw => ?_)
    obtain ⟨b', rfl, hq⟩ := hq
    refine lv_dstore (i := 7) hx hb d_law_592 hl (Nat.le_of_ble_eq_true rfl) rfl (fun ls hl => ?_)
    have hl : lv_has ls 9 [(7, .double b'), (6, .int k), (5, .int (nI q)), (4, .ref od), (3, .ref o), (2, .ref (ad2 0)), (1, .ref (ad 0)), (0, .ref b)] := hl
    have hl' := lv_sub hl [2, 3, 4, 5, 6, 7] rfl
    refine lv_goto (tgt := 597) hx hb d_law_594 (by decide) ?_
    exact kk _ _ _ _ _ _ _ hq hw hl'
/-- a call of the script -/
def Step (M N : Mem) (a : Nat → Int32) (K : Mem → Mem → Prop) : Prop := (a 0 &&& 15 = 0 → St_rom M N (a 1) (a 2) (a 3) (lw_J (a 4) (a 5)) K) ∧ (a 0 &&& 15 = 1 → St_insert M N (a 1) K) ∧ (a 0 &&& 15 = 2 → St_run M N (a 1) K) ∧ (a 0 &&& 15 = 3 → St_set M N (a 1) (a 2) K) ∧ (a 0 &&& 15 = 4 → St_register M N (a 1) K) ∧ (a 0 &&& 15 = 5 → St_read M N (a 1) K) ∧ (a 0 &&& 15 = 6 → St_write M N (a 1) (a 2) (lw_J (a 3) (a 4)) K) ∧ (a 0 &&& 15 = 7 → St_keys M N (a 1) K) ∧ (a 0 &&& 15 = 8 → St_row M N (a 1) K) ∧ (a 0 &&& 15 = 9 → St_pixel M N (a 1) K) ∧ (a 0 &&& 15 = 10 → St_count M N (a 1) K) ∧ (a 0 &&& 15 = 11 → St_speed M N K) ∧ (¬ a 0 &&& 15 = 0 ∧ ¬ a 0 &&& 15 = 1 ∧ ¬ a 0 &&& 15 = 2 ∧ ¬ a 0 &&& 15 = 3 ∧ ¬ a 0 &&& 15 = 4 ∧ ¬ a 0 &&& 15 = 5 ∧ ¬ a 0 &&& 15 = 6 ∧ ¬ a 0 &&& 15 = 7 ∧ ¬ a 0 &&& 15 = 8 ∧ ¬ a 0 &&& 15 = 9 ∧ ¬ a 0 &&& 15 = 10 ∧ ¬ a 0 &&& 15 = 11 → K M N)
