theorem d_Q_adjustDecimal_0 : decode b_Q_adjustDecimal 0 = .ok (.aload_n 0, 1) := by decide +kernel
theorem d_Q_adjustDecimal_1 : decode b_Q_adjustDecimal 1 = .ok (.getfield 7, 3) := by decide +kernel
theorem d_Q_adjustDecimal_4 : decode b_Q_adjustDecimal 4 = .ok (.bipush 7, 2) := by decide +kernel
theorem d_Q_adjustDecimal_6 : decode b_Q_adjustDecimal 6 = .ok (.iaload, 1) := by decide +kernel
theorem d_Q_adjustDecimal_7 : decode b_Q_adjustDecimal 7 = .ok (.istore_n 1, 1) := by decide +kernel
theorem d_Q_adjustDecimal_8 : decode b_Q_adjustDecimal 8 = .ok (.aload_n 0, 1) := by decide +kernel
theorem d_Q_adjustDecimal_9 : decode b_Q_adjustDecimal 9 = .ok (.getfield 7, 3) := by decide +kernel
theorem d_Q_adjustDecimal_12 : decode b_Q_adjustDecimal 12 = .ok (.bipush 6, 2) := by decide +kernel
theorem d_Q_adjustDecimal_14 : decode b_Q_adjustDecimal 14 = .ok (.iaload, 1) := by decide +kernel
theorem d_Q_adjustDecimal_15 : decode b_Q_adjustDecimal 15 = .ok (.istore_n 2, 1) := by decide +kernel
theorem d_Q_adjustDecimal_16 : decode b_Q_adjustDecimal 16 = .ok (.iload_n 2, 1) := by decide +kernel
theorem d_Q_adjustDecimal_17 : decode b_Q_adjustDecimal 17 = .ok (.bipush 16, 2) := by decide +kernel
theorem d_Q_adjustDecimal_19 : decode b_Q_adjustDecimal 19 = .ok (.iand, 1) := by decide +kernel
theorem d_Q_adjustDecimal_20 : decode b_Q_adjustDecimal 20 = .ok (.ifCond .eq 7, 3) := by decide +kernel
theorem d_Q_adjustDecimal_23 : decode b_Q_adjustDecimal 23 = .ok (.iconst 1, 1) := by decide +kernel
theorem d_Q_adjustDecimal_24 : decode b_Q_adjustDecimal 24 = .ok (.goto 4, 3) := by decide +kernel
theorem d_Q_adjustDecimal_27 : decode b_Q_adjustDecimal 27 = .ok (.iconst 0, 1) := by decide +kernel
theorem d_Q_adjustDecimal_28 : decode b_Q_adjustDecimal 28 = .ok (.istore_n 3, 1) := by decide +kernel
theorem d_Q_adjustDecimal_29 : decode b_Q_adjustDecimal 29 = .ok (.iload_n 2, 1) := by decide +kernel
theorem d_Q_adjustDecimal_30 : decode b_Q_adjustDecimal 30 = .ok (.bipush 32, 2) := by decide +kernel
theorem d_Q_adjustDecimal_32 : decode b_Q_adjustDecimal 32 = .ok (.iand, 1) := by decide +kernel
theorem d_Q_adjustDecimal_33 : decode b_Q_adjustDecimal 33 = .ok (.ifCond .eq 7, 3) := by decide +kernel
theorem d_Q_adjustDecimal_36 : decode b_Q_adjustDecimal 36 = .ok (.iconst 1, 1) := by decide +kernel
theorem d_Q_adjustDecimal_37 : decode b_Q_adjustDecimal 37 = .ok (.goto 4, 3) := by decide +kernel
theorem d_Q_adjustDecimal_40 : decode b_Q_adjustDecimal 40 = .ok (.iconst 0, 1) := by decide +kernel
theorem d_Q_adjustDecimal_41 : decode b_Q_adjustDecimal 41 = .ok (.istore 4, 2) := by decide +kernel
theorem d_Q_adjustDecimal_43 : decode b_Q_adjustDecimal 43 = .ok (.iload_n 2, 1) := by decide +kernel
theorem d_Q_adjustDecimal_44 : decode b_Q_adjustDecimal 44 = .ok (.bipush 64, 2) := by decide +kernel
theorem d_Q_adjustDecimal_46 : decode b_Q_adjustDecimal 46 = .ok (.iand, 1) := by decide +kernel
theorem d_Q_adjustDecimal_47 : decode b_Q_adjustDecimal 47 = .ok (.ifCond .eq 30, 3) := by decide +kernel
theorem d_Q_adjustDecimal_50 : decode b_Q_adjustDecimal 50 = .ok (.iload_n 3, 1) := by decide +kernel
theorem d_Q_adjustDecimal_51 : decode b_Q_adjustDecimal 51 = .ok (.ifCond .eq 8, 3) := by decide +kernel
theorem d_Q_adjustDecimal_54 : decode b_Q_adjustDecimal 54 = .ok (.bipush (-96), 2) := by decide +kernel
theorem d_Q_adjustDecimal_56 : decode b_Q_adjustDecimal 56 = .ok (.goto 4, 3) := by decide +kernel
theorem d_Q_adjustDecimal_59 : decode b_Q_adjustDecimal 59 = .ok (.iconst 0, 1) := by decide +kernel
theorem d_Q_adjustDecimal_60 : decode b_Q_adjustDecimal 60 = .ok (.iload 4, 2) := by decide +kernel
theorem d_Q_adjustDecimal_62 : decode b_Q_adjustDecimal 62 = .ok (.ifCond .eq 8, 3) := by decide +kernel
theorem d_Q_adjustDecimal_65 : decode b_Q_adjustDecimal 65 = .ok (.bipush (-6), 2) := by decide +kernel
theorem d_Q_adjustDecimal_67 : decode b_Q_adjustDecimal 67 = .ok (.goto 4, 3) := by decide +kernel
theorem d_Q_adjustDecimal_70 : decode b_Q_adjustDecimal 70 = .ok (.iconst 0, 1) := by decide +kernel
theorem d_Q_adjustDecimal_71 : decode b_Q_adjustDecimal 71 = .ok (.iadd, 1) := by decide +kernel
theorem d_Q_adjustDecimal_72 : decode b_Q_adjustDecimal 72 = .ok (.istore 5, 2) := by decide +kernel
theorem d_Q_adjustDecimal_74 : decode b_Q_adjustDecimal 74 = .ok (.goto 53, 3) := by decide +kernel
theorem d_Q_adjustDecimal_77 : decode b_Q_adjustDecimal 77 = .ok (.iload_n 3, 1) := by decide +kernel
theorem d_Q_adjustDecimal_78 : decode b_Q_adjustDecimal 78 = .ok (.ifCond .ne 10, 3) := by decide +kernel
theorem d_Q_adjustDecimal_81 : decode b_Q_adjustDecimal 81 = .ok (.iload_n 1, 1) := by decide +kernel
theorem d_Q_adjustDecimal_82 : decode b_Q_adjustDecimal 82 = .ok (.sipush 153, 3) := by decide +kernel
theorem d_Q_adjustDecimal_85 : decode b_Q_adjustDecimal 85 = .ok (.if_icmp .le 7, 3) := by decide +kernel
theorem d_Q_adjustDecimal_88 : decode b_Q_adjustDecimal 88 = .ok (.iconst 1, 1) := by decide +kernel
theorem d_Q_adjustDecimal_89 : decode b_Q_adjustDecimal 89 = .ok (.goto 4, 3) := by decide +kernel
theorem d_Q_adjustDecimal_92 : decode b_Q_adjustDecimal 92 = .ok (.iconst 0, 1) := by decide +kernel
theorem d_Q_adjustDecimal_93 : decode b_Q_adjustDecimal 93 = .ok (.istore_n 3, 1) := by decide +kernel
theorem d_Q_adjustDecimal_94 : decode b_Q_adjustDecimal 94 = .ok (.iload_n 3, 1) := by decide +kernel
theorem d_Q_adjustDecimal_95 : decode b_Q_adjustDecimal 95 = .ok (.ifCond .eq 8, 3) := by decide +kernel
theorem d_Q_adjustDecimal_98 : decode b_Q_adjustDecimal 98 = .ok (.bipush 96, 2) := by decide +kernel
theorem d_Q_adjustDecimal_100 : decode b_Q_adjustDecimal 100 = .ok (.goto 4, 3) := by decide +kernel
theorem d_Q_adjustDecimal_103 : decode b_Q_adjustDecimal 103 = .ok (.iconst 0, 1) := by decide +kernel
theorem d_Q_adjustDecimal_104 : decode b_Q_adjustDecimal 104 = .ok (.iload 4, 2) := by decide +kernel
theorem d_Q_adjustDecimal_106 : decode b_Q_adjustDecimal 106 = .ok (.ifCond .ne 12, 3) := by decide +kernel
theorem d_Q_adjustDecimal_109 : decode b_Q_adjustDecimal 109 = .ok (.iload_n 1, 1) := by decide +kernel
theorem d_Q_adjustDecimal_110 : decode b_Q_adjustDecimal 110 = .ok (.bipush 15, 2) := by decide +kernel
theorem d_Q_adjustDecimal_112 : decode b_Q_adjustDecimal 112 = .ok (.iand, 1) := by decide +kernel
theorem d_Q_adjustDecimal_113 : decode b_Q_adjustDecimal 113 = .ok (.bipush 9, 2) := by decide +kernel
theorem d_Q_adjustDecimal_115 : decode b_Q_adjustDecimal 115 = .ok (.if_icmp .le 8, 3) := by decide +kernel
theorem d_Q_adjustDecimal_118 : decode b_Q_adjustDecimal 118 = .ok (.bipush 6, 2) := by decide +kernel
theorem d_Q_adjustDecimal_120 : decode b_Q_adjustDecimal 120 = .ok (.goto 4, 3) := by decide +kernel
theorem d_Q_adjustDecimal_123 : decode b_Q_adjustDecimal 123 = .ok (.iconst 0, 1) := by decide +kernel
theorem d_Q_adjustDecimal_124 : decode b_Q_adjustDecimal 124 = .ok (.iadd, 1) := by decide +kernel
theorem d_Q_adjustDecimal_125 : decode b_Q_adjustDecimal 125 = .ok (.istore 5, 2) := by decide +kernel
theorem d_Q_adjustDecimal_127 : decode b_Q_adjustDecimal 127 = .ok (.aload_n 0, 1) := by decide +kernel
theorem d_Q_adjustDecimal_128 : decode b_Q_adjustDecimal 128 = .ok (.getfield 7, 3) := by decide +kernel
theorem d_Q_adjustDecimal_131 : decode b_Q_adjustDecimal 131 = .ok (.bipush 7, 2) := by decide +kernel
theorem d_Q_adjustDecimal_133 : decode b_Q_adjustDecimal 133 = .ok (.iload_n 1, 1) := by decide +kernel
theorem d_Q_adjustDecimal_134 : decode b_Q_adjustDecimal 134 = .ok (.iload 5, 2) := by decide +kernel
theorem d_Q_adjustDecimal_136 : decode b_Q_adjustDecimal 136 = .ok (.iadd, 1) := by decide +kernel
theorem d_Q_adjustDecimal_137 : decode b_Q_adjustDecimal 137 = .ok (.sipush 255, 3) := by decide +kernel
theorem d_Q_adjustDecimal_140 : decode b_Q_adjustDecimal 140 = .ok (.iand, 1) := by decide +kernel
theorem d_Q_adjustDecimal_141 : decode b_Q_adjustDecimal 141 = .ok (.iastore, 1) := by decide +kernel
theorem d_Q_adjustDecimal_142 : decode b_Q_adjustDecimal 142 = .ok (.aload_n 0, 1) := by decide +kernel
theorem d_Q_adjustDecimal_143 : decode b_Q_adjustDecimal 143 = .ok (.getfield 7, 3) := by decide +kernel
theorem d_Q_adjustDecimal_146 : decode b_Q_adjustDecimal 146 = .ok (.bipush 6, 2) := by decide +kernel
theorem d_Q_adjustDecimal_148 : decode b_Q_adjustDecimal 148 = .ok (.aload_n 0, 1) := by decide +kernel
theorem d_Q_adjustDecimal_149 : decode b_Q_adjustDecimal 149 = .ok (.getfield 7, 3) := by decide +kernel
theorem d_Q_adjustDecimal_152 : decode b_Q_adjustDecimal 152 = .ok (.bipush 7, 2) := by decide +kernel
theorem d_Q_adjustDecimal_154 : decode b_Q_adjustDecimal 154 = .ok (.iaload, 1) := by decide +kernel
theorem d_Q_adjustDecimal_155 : decode b_Q_adjustDecimal 155 = .ok (.invokestatic 180, 3) := by decide +kernel
theorem d_Q_adjustDecimal_158 : decode b_Q_adjustDecimal 158 = .ok (.iload_n 2, 1) := by decide +kernel
theorem d_Q_adjustDecimal_159 : decode b_Q_adjustDecimal 159 = .ok (.bipush 64, 2) := by decide +kernel
theorem d_Q_adjustDecimal_161 : decode b_Q_adjustDecimal 161 = .ok (.iand, 1) := by decide +kernel
theorem d_Q_adjustDecimal_162 : decode b_Q_adjustDecimal 162 = .ok (.ior, 1) := by decide +kernel
theorem d_Q_adjustDecimal_163 : decode b_Q_adjustDecimal 163 = .ok (.iload_n 3, 1) := by decide +kernel
theorem d_Q_adjustDecimal_164 : decode b_Q_adjustDecimal 164 = .ok (.ifCond .eq 8, 3) := by decide +kernel
theorem d_Q_adjustDecimal_167 : decode b_Q_adjustDecimal 167 = .ok (.bipush 16, 2) := by decide +kernel
theorem d_Q_adjustDecimal_169 : decode b_Q_adjustDecimal 169 = .ok (.goto 4, 3) := by decide +kernel
theorem d_Q_adjustDecimal_172 : decode b_Q_adjustDecimal 172 = .ok (.iconst 0, 1) := by decide +kernel
theorem d_Q_adjustDecimal_173 : decode b_Q_adjustDecimal 173 = .ok (.ior, 1) := by decide +kernel
theorem d_Q_adjustDecimal_174 : decode b_Q_adjustDecimal 174 = .ok (.iastore, 1) := by decide +kernel
theorem d_Q_adjustDecimal_175 : decode b_Q_adjustDecimal 175 = .ok (.return_, 1) := by decide +kernel
theorem d_Q_shifted_0 : decode b_Q_shifted 0 = .ok (.aload_n 0, 1) := by decide +kernel
theorem d_Q_shifted_1 : decode b_Q_shifted 1 = .ok (.getfield 7, 3) := by decide +kernel
theorem d_Q_shifted_4 : decode b_Q_shifted 4 = .ok (.bipush 6, 2) := by decide +kernel
theorem d_Q_shifted_6 : decode b_Q_shifted 6 = .ok (.iaload, 1) := by decide +kernel
theorem d_Q_shifted_7 : decode b_Q_shifted 7 = .ok (.bipush 16, 2) := by decide +kernel
theorem d_Q_shifted_9 : decode b_Q_shifted 9 = .ok (.iand, 1) := by decide +kernel
theorem d_Q_shifted_10 : decode b_Q_shifted 10 = .ok (.ifCond .eq 7, 3) := by decide +kernel
theorem d_Q_shifted_13 : decode b_Q_shifted 13 = .ok (.iconst 1, 1) := by decide +kernel
theorem d_Q_shifted_14 : decode b_Q_shifted 14 = .ok (.goto 4, 3) := by decide +kernel
theorem d_Q_shifted_17 : decode b_Q_shifted 17 = .ok (.iconst 0, 1) := by decide +kernel
theorem d_Q_shifted_18 : decode b_Q_shifted 18 = .ok (.istore_n 3, 1) := by decide +kernel
theorem d_Q_shifted_19 : decode b_Q_shifted 19 = .ok (.iload_n 1, 1) := by decide +kernel
theorem d_Q_shifted_20 : decode b_Q_shifted 20 = .ok (.ifCond .eq 13, 3) := by decide +kernel
theorem d_Q_shifted_23 : decode b_Q_shifted 23 = .ok (.iload_n 1, 1) := by decide +kernel
theorem d_Q_shifted_24 : decode b_Q_shifted 24 = .ok (.iconst 2, 1) := by decide +kernel
theorem d_Q_shifted_25 : decode b_Q_shifted 25 = .ok (.if_icmp .eq 8, 3) := by decide +kernel
theorem d_Q_shifted_28 : decode b_Q_shifted 28 = .ok (.iload_n 1, 1) := by decide +kernel
theorem d_Q_shifted_29 : decode b_Q_shifted 29 = .ok (.iconst 4, 1) := by decide +kernel
theorem d_Q_shifted_30 : decode b_Q_shifted 30 = .ok (.if_icmp .ne 7, 3) := by decide +kernel
theorem d_Q_shifted_33 : decode b_Q_shifted 33 = .ok (.iconst 1, 1) := by decide +kernel
theorem d_Q_shifted_34 : decode b_Q_shifted 34 = .ok (.goto 4, 3) := by decide +kernel
theorem d_Q_shifted_37 : decode b_Q_shifted 37 = .ok (.iconst 0, 1) := by decide +kernel
theorem d_Q_shifted_38 : decode b_Q_shifted 38 = .ok (.istore 4, 2) := by decide +kernel
theorem d_Q_shifted_40 : decode b_Q_shifted 40 = .ok (.iload 4, 2) := by decide +kernel
theorem d_Q_shifted_42 : decode b_Q_shifted 42 = .ok (.ifCond .eq 10, 3) := by decide +kernel
theorem d_Q_shifted_45 : decode b_Q_shifted 45 = .ok (.iload_n 2, 1) := by decide +kernel
theorem d_Q_shifted_46 : decode b_Q_shifted 46 = .ok (.bipush 7, 2) := by decide +kernel
theorem d_Q_shifted_48 : decode b_Q_shifted 48 = .ok (.ishr, 1) := by decide +kernel
theorem d_Q_shifted_49 : decode b_Q_shifted 49 = .ok (.goto 6, 3) := by decide +kernel
theorem d_Q_shifted_52 : decode b_Q_shifted 52 = .ok (.iload_n 2, 1) := by decide +kernel
theorem d_Q_shifted_53 : decode b_Q_shifted 53 = .ok (.iconst 1, 1) := by decide +kernel
theorem d_Q_shifted_54 : decode b_Q_shifted 54 = .ok (.iand, 1) := by decide +kernel
theorem d_Q_shifted_55 : decode b_Q_shifted 55 = .ok (.istore 5, 2) := by decide +kernel
theorem d_Q_shifted_57 : decode b_Q_shifted 57 = .ok (.iload_n 1, 1) := by decide +kernel
theorem d_Q_shifted_58 : decode b_Q_shifted 58 = .ok (.tableswitch 127 0 6 #[42, 53, 67, 77, 90, 98, 112], 42) := by decide +kernel
theorem d_Q_shifted_100 : decode b_Q_shifted 100 = .ok (.iload_n 2, 1) := by decide +kernel
theorem d_Q_shifted_101 : decode b_Q_shifted 101 = .ok (.iconst 1, 1) := by decide +kernel
theorem d_Q_shifted_102 : decode b_Q_shifted 102 = .ok (.ishl, 1) := by decide +kernel
theorem d_Q_shifted_103 : decode b_Q_shifted 103 = .ok (.iload 5, 2) := by decide +kernel
theorem d_Q_shifted_105 : decode b_Q_shifted 105 = .ok (.ior, 1) := by decide +kernel
theorem d_Q_shifted_106 : decode b_Q_shifted 106 = .ok (.istore 6, 2) := by decide +kernel
theorem d_Q_shifted_108 : decode b_Q_shifted 108 = .ok (.goto 82, 3) := by decide +kernel
theorem d_Q_shifted_111 : decode b_Q_shifted 111 = .ok (.iload_n 2, 1) := by decide +kernel
theorem d_Q_shifted_112 : decode b_Q_shifted 112 = .ok (.iconst 1, 1) := by decide +kernel
theorem d_Q_shifted_113 : decode b_Q_shifted 113 = .ok (.ishr, 1) := by decide +kernel
theorem d_Q_shifted_114 : decode b_Q_shifted 114 = .ok (.iload 5, 2) := by decide +kernel
theorem d_Q_shifted_116 : decode b_Q_shifted 116 = .ok (.bipush 7, 2) := by decide +kernel
theorem d_Q_shifted_118 : decode b_Q_shifted 118 = .ok (.ishl, 1) := by decide +kernel
theorem d_Q_shifted_119 : decode b_Q_shifted 119 = .ok (.ior, 1) := by decide +kernel
theorem d_Q_shifted_120 : decode b_Q_shifted 120 = .ok (.istore 6, 2) := by decide +kernel
theorem d_Q_shifted_122 : decode b_Q_shifted 122 = .ok (.goto 68, 3) := by decide +kernel
theorem d_Q_shifted_125 : decode b_Q_shifted 125 = .ok (.iload_n 2, 1) := by decide +kernel
theorem d_Q_shifted_126 : decode b_Q_shifted 126 = .ok (.iconst 1, 1) := by decide +kernel
theorem d_Q_shifted_127 : decode b_Q_shifted 127 = .ok (.ishl, 1) := by decide +kernel
theorem d_Q_shifted_128 : decode b_Q_shifted 128 = .ok (.iload_n 3, 1) := by decide +kernel
theorem d_Q_shifted_129 : decode b_Q_shifted 129 = .ok (.ior, 1) := by decide +kernel
theorem d_Q_shifted_130 : decode b_Q_shifted 130 = .ok (.istore 6, 2) := by decide +kernel
theorem d_Q_shifted_132 : decode b_Q_shifted 132 = .ok (.goto 58, 3) := by decide +kernel
theorem d_Q_shifted_135 : decode b_Q_shifted 135 = .ok (.iload_n 2, 1) := by decide +kernel
theorem d_Q_shifted_136 : decode b_Q_shifted 136 = .ok (.iconst 1, 1) := by decide +kernel
theorem d_Q_shifted_137 : decode b_Q_shifted 137 = .ok (.ishr, 1) := by decide +kernel
theorem d_Q_shifted_138 : decode b_Q_shifted 138 = .ok (.iload_n 3, 1) := by decide +kernel
theorem d_Q_shifted_139 : decode b_Q_shifted 139 = .ok (.bipush 7, 2) := by decide +kernel
theorem d_Q_shifted_141 : decode b_Q_shifted 141 = .ok (.ishl, 1) := by decide +kernel
theorem d_Q_shifted_142 : decode b_Q_shifted 142 = .ok (.ior, 1) := by decide +kernel
theorem d_Q_shifted_143 : decode b_Q_shifted 143 = .ok (.istore 6, 2) := by decide +kernel
theorem d_Q_shifted_145 : decode b_Q_shifted 145 = .ok (.goto 45, 3) := by decide +kernel
theorem d_Q_shifted_148 : decode b_Q_shifted 148 = .ok (.iload_n 2, 1) := by decide +kernel
theorem d_Q_shifted_149 : decode b_Q_shifted 149 = .ok (.iconst 1, 1) := by decide +kernel
theorem d_Q_shifted_150 : decode b_Q_shifted 150 = .ok (.ishl, 1) := by decide +kernel
theorem d_Q_shifted_151 : decode b_Q_shifted 151 = .ok (.istore 6, 2) := by decide +kernel
theorem d_Q_shifted_153 : decode b_Q_shifted 153 = .ok (.goto 37, 3) := by decide +kernel
theorem d_Q_shifted_156 : decode b_Q_shifted 156 = .ok (.iload_n 2, 1) := by decide +kernel
theorem d_Q_shifted_157 : decode b_Q_shifted 157 = .ok (.iconst 1, 1) := by decide +kernel
theorem d_Q_shifted_158 : decode b_Q_shifted 158 = .ok (.ishr, 1) := by decide +kernel
theorem d_Q_shifted_159 : decode b_Q_shifted 159 = .ok (.iload_n 2, 1) := by decide +kernel
theorem d_Q_shifted_160 : decode b_Q_shifted 160 = .ok (.sipush 128, 3) := by decide +kernel
theorem d_Q_shifted_163 : decode b_Q_shifted 163 = .ok (.iand, 1) := by decide +kernel
theorem d_Q_shifted_164 : decode b_Q_shifted 164 = .ok (.ior, 1) := by decide +kernel
theorem d_Q_shifted_165 : decode b_Q_shifted 165 = .ok (.istore 6, 2) := by decide +kernel
theorem d_Q_shifted_167 : decode b_Q_shifted 167 = .ok (.goto 23, 3) := by decide +kernel
theorem d_Q_shifted_170 : decode b_Q_shifted 170 = .ok (.iload_n 2, 1) := by decide +kernel
theorem d_Q_shifted_171 : decode b_Q_shifted 171 = .ok (.iconst 4, 1) := by decide +kernel
theorem d_Q_shifted_172 : decode b_Q_shifted 172 = .ok (.ishr, 1) := by decide +kernel
theorem d_Q_shifted_173 : decode b_Q_shifted 173 = .ok (.iload_n 2, 1) := by decide +kernel
theorem d_Q_shifted_174 : decode b_Q_shifted 174 = .ok (.iconst 4, 1) := by decide +kernel
theorem d_Q_shifted_175 : decode b_Q_shifted 175 = .ok (.ishl, 1) := by decide +kernel
theorem d_Q_shifted_176 : decode b_Q_shifted 176 = .ok (.ior, 1) := by decide +kernel
theorem d_Q_shifted_177 : decode b_Q_shifted 177 = .ok (.istore 6, 2) := by decide +kernel
theorem d_Q_shifted_179 : decode b_Q_shifted 179 = .ok (.iconst 0, 1) := by decide +kernel
theorem d_Q_shifted_180 : decode b_Q_shifted 180 = .ok (.istore 5, 2) := by decide +kernel
theorem d_Q_shifted_182 : decode b_Q_shifted 182 = .ok (.goto 8, 3) := by decide +kernel
theorem d_Q_shifted_185 : decode b_Q_shifted 185 = .ok (.iload_n 2, 1) := by decide +kernel
theorem d_Q_shifted_186 : decode b_Q_shifted 186 = .ok (.iconst 1, 1) := by decide +kernel
theorem d_Q_shifted_187 : decode b_Q_shifted 187 = .ok (.ishr, 1) := by decide +kernel
theorem d_Q_shifted_188 : decode b_Q_shifted 188 = .ok (.istore 6, 2) := by decide +kernel
theorem d_Q_shifted_190 : decode b_Q_shifted 190 = .ok (.aload_n 0, 1) := by decide +kernel
theorem d_Q_shifted_191 : decode b_Q_shifted 191 = .ok (.getfield 7, 3) := by decide +kernel
theorem d_Q_shifted_194 : decode b_Q_shifted 194 = .ok (.bipush 6, 2) := by decide +kernel
theorem d_Q_shifted_196 : decode b_Q_shifted 196 = .ok (.iload 6, 2) := by decide +kernel
theorem d_Q_shifted_198 : decode b_Q_shifted 198 = .ok (.sipush 255, 3) := by decide +kernel
theorem d_Q_shifted_201 : decode b_Q_shifted 201 = .ok (.iand, 1) := by decide +kernel
theorem d_Q_shifted_202 : decode b_Q_shifted 202 = .ok (.invokestatic 180, 3) := by decide +kernel
theorem d_Q_shifted_205 : decode b_Q_shifted 205 = .ok (.iload 5, 2) := by decide +kernel
theorem d_Q_shifted_207 : decode b_Q_shifted 207 = .ok (.ifCond .eq 8, 3) := by decide +kernel
theorem d_Q_shifted_210 : decode b_Q_shifted 210 = .ok (.bipush 16, 2) := by decide +kernel
theorem d_Q_shifted_212 : decode b_Q_shifted 212 = .ok (.goto 4, 3) := by decide +kernel
theorem d_Q_shifted_215 : decode b_Q_shifted 215 = .ok (.iconst 0, 1) := by decide +kernel
theorem d_Q_shifted_216 : decode b_Q_shifted 216 = .ok (.ior, 1) := by decide +kernel
theorem d_Q_shifted_217 : decode b_Q_shifted 217 = .ok (.iastore, 1) := by decide +kernel
theorem d_Q_shifted_218 : decode b_Q_shifted 218 = .ok (.iload 6, 2) := by decide +kernel
theorem d_Q_shifted_220 : decode b_Q_shifted 220 = .ok (.sipush 255, 3) := by decide +kernel
theorem d_Q_shifted_223 : decode b_Q_shifted 223 = .ok (.iand, 1) := by decide +kernel
theorem d_Q_shifted_224 : decode b_Q_shifted 224 = .ok (.ireturn, 1) := by decide +kernel
theorem d_Q_changeA_0 : decode b_Q_changeA 0 = .ok (.aload_n 0, 1) := by decide +kernel
theorem d_Q_changeA_1 : decode b_Q_changeA 1 = .ok (.getfield 7, 3) := by decide +kernel
theorem d_Q_changeA_4 : decode b_Q_changeA 4 = .ok (.bipush 6, 2) := by decide +kernel
theorem d_Q_changeA_6 : decode b_Q_changeA 6 = .ok (.iaload, 1) := by decide +kernel
theorem d_Q_changeA_7 : decode b_Q_changeA 7 = .ok (.istore_n 2, 1) := by decide +kernel
theorem d_Q_changeA_8 : decode b_Q_changeA 8 = .ok (.iload_n 1, 1) := by decide +kernel
theorem d_Q_changeA_9 : decode b_Q_changeA 9 = .ok (.tableswitch 104 4 7 #[31, 38, 68, 86], 31) := by decide +kernel
theorem d_Q_changeA_40 : decode b_Q_changeA 40 = .ok (.aload_n 0, 1) := by decide +kernel
theorem d_Q_changeA_41 : decode b_Q_changeA 41 = .ok (.invokevirtual 200, 3) := by decide +kernel
theorem d_Q_changeA_44 : decode b_Q_changeA 44 = .ok (.goto 100, 3) := by decide +kernel
theorem d_Q_changeA_47 : decode b_Q_changeA 47 = .ok (.aload_n 0, 1) := by decide +kernel
theorem d_Q_changeA_48 : decode b_Q_changeA 48 = .ok (.getfield 7, 3) := by decide +kernel
theorem d_Q_changeA_51 : decode b_Q_changeA 51 = .ok (.bipush 7, 2) := by decide +kernel
theorem d_Q_changeA_53 : decode b_Q_changeA 53 = .ok (.dup2, 1) := by decide +kernel
theorem d_Q_changeA_54 : decode b_Q_changeA 54 = .ok (.iaload, 1) := by decide +kernel
theorem d_Q_changeA_55 : decode b_Q_changeA 55 = .ok (.sipush 255, 3) := by decide +kernel
theorem d_Q_changeA_58 : decode b_Q_changeA 58 = .ok (.ixor, 1) := by decide +kernel
theorem d_Q_changeA_59 : decode b_Q_changeA 59 = .ok (.iastore, 1) := by decide +kernel
theorem d_Q_changeA_60 : decode b_Q_changeA 60 = .ok (.aload_n 0, 1) := by decide +kernel
theorem d_Q_changeA_61 : decode b_Q_changeA 61 = .ok (.getfield 7, 3) := by decide +kernel
theorem d_Q_changeA_64 : decode b_Q_changeA 64 = .ok (.bipush 6, 2) := by decide +kernel
theorem d_Q_changeA_66 : decode b_Q_changeA 66 = .ok (.iload_n 2, 1) := by decide +kernel
theorem d_Q_changeA_67 : decode b_Q_changeA 67 = .ok (.bipush 64, 2) := by decide +kernel
theorem d_Q_changeA_69 : decode b_Q_changeA 69 = .ok (.ior, 1) := by decide +kernel
theorem d_Q_changeA_70 : decode b_Q_changeA 70 = .ok (.bipush 32, 2) := by decide +kernel
theorem d_Q_changeA_72 : decode b_Q_changeA 72 = .ok (.ior, 1) := by decide +kernel
theorem d_Q_changeA_73 : decode b_Q_changeA 73 = .ok (.iastore, 1) := by decide +kernel
theorem d_Q_changeA_74 : decode b_Q_changeA 74 = .ok (.goto 70, 3) := by decide +kernel
theorem d_Q_changeA_77 : decode b_Q_changeA 77 = .ok (.aload_n 0, 1) := by decide +kernel
theorem d_Q_changeA_78 : decode b_Q_changeA 78 = .ok (.getfield 7, 3) := by decide +kernel
theorem d_Q_changeA_81 : decode b_Q_changeA 81 = .ok (.bipush 6, 2) := by decide +kernel
theorem d_Q_changeA_83 : decode b_Q_changeA 83 = .ok (.iload_n 2, 1) := by decide +kernel
theorem d_Q_changeA_84 : decode b_Q_changeA 84 = .ok (.sipush 128, 3) := by decide +kernel
theorem d_Q_changeA_87 : decode b_Q_changeA 87 = .ok (.iand, 1) := by decide +kernel
theorem d_Q_changeA_88 : decode b_Q_changeA 88 = .ok (.bipush 16, 2) := by decide +kernel
theorem d_Q_changeA_90 : decode b_Q_changeA 90 = .ok (.ior, 1) := by decide +kernel
theorem d_Q_changeA_91 : decode b_Q_changeA 91 = .ok (.iastore, 1) := by decide +kernel
theorem d_Q_changeA_92 : decode b_Q_changeA 92 = .ok (.goto 52, 3) := by decide +kernel
theorem d_Q_changeA_95 : decode b_Q_changeA 95 = .ok (.aload_n 0, 1) := by decide +kernel
theorem d_Q_changeA_96 : decode b_Q_changeA 96 = .ok (.getfield 7, 3) := by decide +kernel
theorem d_Q_changeA_99 : decode b_Q_changeA 99 = .ok (.bipush 6, 2) := by decide +kernel
theorem d_Q_changeA_101 : decode b_Q_changeA 101 = .ok (.iload_n 2, 1) := by decide +kernel
theorem d_Q_changeA_102 : decode b_Q_changeA 102 = .ok (.sipush 144, 3) := by decide +kernel
theorem d_Q_changeA_105 : decode b_Q_changeA 105 = .ok (.iand, 1) := by decide +kernel
theorem d_Q_changeA_106 : decode b_Q_changeA 106 = .ok (.bipush 16, 2) := by decide +kernel
theorem d_Q_changeA_108 : decode b_Q_changeA 108 = .ok (.ixor, 1) := by decide +kernel
theorem d_Q_changeA_109 : decode b_Q_changeA 109 = .ok (.iastore, 1) := by decide +kernel
theorem d_Q_changeA_110 : decode b_Q_changeA 110 = .ok (.goto 34, 3) := by decide +kernel
theorem d_Q_changeA_113 : decode b_Q_changeA 113 = .ok (.aload_n 0, 1) := by decide +kernel
theorem d_Q_changeA_114 : decode b_Q_changeA 114 = .ok (.getfield 7, 3) := by decide +kernel
theorem d_Q_changeA_117 : decode b_Q_changeA 117 = .ok (.bipush 7, 2) := by decide +kernel
theorem d_Q_changeA_119 : decode b_Q_changeA 119 = .ok (.aload_n 0, 1) := by decide +kernel
theorem d_Q_changeA_120 : decode b_Q_changeA 120 = .ok (.iload_n 1, 1) := by decide +kernel
theorem d_Q_changeA_121 : decode b_Q_changeA 121 = .ok (.aload_n 0, 1) := by decide +kernel
theorem d_Q_changeA_122 : decode b_Q_changeA 122 = .ok (.getfield 7, 3) := by decide +kernel
theorem d_Q_changeA_125 : decode b_Q_changeA 125 = .ok (.bipush 7, 2) := by decide +kernel
theorem d_Q_changeA_127 : decode b_Q_changeA 127 = .ok (.iaload, 1) := by decide +kernel
theorem d_Q_changeA_128 : decode b_Q_changeA 128 = .ok (.invokevirtual 177, 3) := by decide +kernel
theorem d_Q_changeA_131 : decode b_Q_changeA 131 = .ok (.iastore, 1) := by decide +kernel
theorem d_Q_changeA_132 : decode b_Q_changeA 132 = .ok (.aload_n 0, 1) := by decide +kernel
theorem d_Q_changeA_133 : decode b_Q_changeA 133 = .ok (.getfield 7, 3) := by decide +kernel
theorem d_Q_changeA_136 : decode b_Q_changeA 136 = .ok (.bipush 6, 2) := by decide +kernel
theorem d_Q_changeA_138 : decode b_Q_changeA 138 = .ok (.dup2, 1) := by decide +kernel
theorem d_Q_changeA_139 : decode b_Q_changeA 139 = .ok (.iaload, 1) := by decide +kernel
theorem d_Q_changeA_140 : decode b_Q_changeA 140 = .ok (.bipush 16, 2) := by decide +kernel
theorem d_Q_changeA_142 : decode b_Q_changeA 142 = .ok (.iand, 1) := by decide +kernel
theorem d_Q_changeA_143 : decode b_Q_changeA 143 = .ok (.iastore, 1) := by decide +kernel
theorem d_Q_changeA_144 : decode b_Q_changeA 144 = .ok (.return_, 1) := by decide +kernel
theorem d_Q_doLow_0 : decode b_Q_doLow 0 = .ok (.iload_n 1, 1) := by decide +kernel
theorem d_Q_doLow_1 : decode b_Q_doLow 1 = .ok (.iconst 1, 1) := by decide +kernel
theorem d_Q_doLow_2 : decode b_Q_doLow 2 = .ok (.ishr, 1) := by decide +kernel
theorem d_Q_doLow_3 : decode b_Q_doLow 3 = .ok (.istore_n 3, 1) := by decide +kernel
theorem d_Q_doLow_4 : decode b_Q_doLow 4 = .ok (.iload_n 1, 1) := by decide +kernel
theorem d_Q_doLow_5 : decode b_Q_doLow 5 = .ok (.iconst 1, 1) := by decide +kernel
theorem d_Q_doLow_6 : decode b_Q_doLow 6 = .ok (.iand, 1) := by decide +kernel
theorem d_Q_doLow_7 : decode b_Q_doLow 7 = .ok (.ifCond .eq 7, 3) := by decide +kernel
theorem d_Q_doLow_10 : decode b_Q_doLow 10 = .ok (.iconst 1, 1) := by decide +kernel
theorem d_Q_doLow_11 : decode b_Q_doLow 11 = .ok (.goto 4, 3) := by decide +kernel
theorem d_Q_doLow_14 : decode b_Q_doLow 14 = .ok (.iconst 0, 1) := by decide +kernel
theorem d_Q_doLow_15 : decode b_Q_doLow 15 = .ok (.istore 4, 2) := by decide +kernel
theorem d_Q_doLow_17 : decode b_Q_doLow 17 = .ok (.iload_n 2, 1) := by decide +kernel
theorem d_Q_doLow_18 : decode b_Q_doLow 18 = .ok (.tableswitch 277 0 6 #[42, 124, 153, 197, 231, 248, 265], 42) := by decide +kernel
theorem d_Q_doLow_60 : decode b_Q_doLow 60 = .ok (.iload_n 1, 1) := by decide +kernel
theorem d_Q_doLow_61 : decode b_Q_doLow 61 = .ok (.iconst 1, 1) := by decide +kernel
theorem d_Q_doLow_62 : decode b_Q_doLow 62 = .ok (.if_icmp .ne 14, 3) := by decide +kernel
theorem d_Q_doLow_65 : decode b_Q_doLow 65 = .ok (.aload_n 0, 1) := by decide +kernel
theorem d_Q_doLow_66 : decode b_Q_doLow 66 = .ok (.aload_n 0, 1) := by decide +kernel
theorem d_Q_doLow_67 : decode b_Q_doLow 67 = .ok (.invokevirtual 112, 3) := by decide +kernel
theorem d_Q_doLow_70 : decode b_Q_doLow 70 = .ok (.invokevirtual 115, 3) := by decide +kernel
theorem d_Q_doLow_73 : decode b_Q_doLow 73 = .ok (.goto 227, 3) := by decide +kernel
theorem d_Q_doLow_76 : decode b_Q_doLow 76 = .ok (.iload_n 1, 1) := by decide +kernel
theorem d_Q_doLow_77 : decode b_Q_doLow 77 = .ok (.iconst 2, 1) := by decide +kernel
theorem d_Q_doLow_78 : decode b_Q_doLow 78 = .ok (.if_icmp .ne 18, 3) := by decide +kernel
theorem d_Q_doLow_81 : decode b_Q_doLow 81 = .ok (.aload_n 0, 1) := by decide +kernel
theorem d_Q_doLow_82 : decode b_Q_doLow 82 = .ok (.invokevirtual 75, 3) := by decide +kernel
theorem d_Q_doLow_85 : decode b_Q_doLow 85 = .ok (.pop, 1) := by decide +kernel
theorem d_Q_doLow_86 : decode b_Q_doLow 86 = .ok (.aload_n 0, 1) := by decide +kernel
theorem d_Q_doLow_87 : decode b_Q_doLow 87 = .ok (.getfield 17, 3) := by decide +kernel
theorem d_Q_doLow_90 : decode b_Q_doLow 90 = .ok (.invokevirtual 118, 3) := by decide +kernel
theorem d_Q_doLow_93 : decode b_Q_doLow 93 = .ok (.goto 207, 3) := by decide +kernel
theorem d_Q_doLow_96 : decode b_Q_doLow 96 = .ok (.iload_n 1, 1) := by decide +kernel
theorem d_Q_doLow_97 : decode b_Q_doLow 97 = .ok (.iconst 3, 1) := by decide +kernel
theorem d_Q_doLow_98 : decode b_Q_doLow 98 = .ok (.if_icmp .lt 202, 3) := by decide +kernel
theorem d_Q_doLow_101 : decode b_Q_doLow 101 = .ok (.aload_n 0, 1) := by decide +kernel
theorem d_Q_doLow_102 : decode b_Q_doLow 102 = .ok (.invokevirtual 75, 3) := by decide +kernel
theorem d_Q_doLow_105 : decode b_Q_doLow 105 = .ok (.i2b, 1) := by decide +kernel
theorem d_Q_doLow_106 : decode b_Q_doLow 106 = .ok (.istore 5, 2) := by decide +kernel
theorem d_Q_doLow_108 : decode b_Q_doLow 108 = .ok (.aload_n 0, 1) := by decide +kernel
theorem d_Q_doLow_109 : decode b_Q_doLow 109 = .ok (.iload_n 1, 1) := by decide +kernel
theorem d_Q_doLow_110 : decode b_Q_doLow 110 = .ok (.iconst 3, 1) := by decide +kernel
theorem d_Q_doLow_111 : decode b_Q_doLow 111 = .ok (.if_icmp .eq 13, 3) := by decide +kernel
theorem d_Q_doLow_114 : decode b_Q_doLow 114 = .ok (.aload_n 0, 1) := by decide +kernel
theorem d_Q_doLow_115 : decode b_Q_doLow 115 = .ok (.iload_n 1, 1) := by decide +kernel
theorem d_Q_doLow_116 : decode b_Q_doLow 116 = .ok (.iconst 4, 1) := by decide +kernel
theorem d_Q_doLow_117 : decode b_Q_doLow 117 = .ok (.isub, 1) := by decide +kernel
theorem d_Q_doLow_118 : decode b_Q_doLow 118 = .ok (.invokevirtual 121, 3) := by decide +kernel
theorem d_Q_doLow_121 : decode b_Q_doLow 121 = .ok (.ifCond .eq 7, 3) := by decide +kernel
theorem d_Q_doLow_124 : decode b_Q_doLow 124 = .ok (.iconst 1, 1) := by decide +kernel
theorem d_Q_doLow_125 : decode b_Q_doLow 125 = .ok (.goto 4, 3) := by decide +kernel
theorem d_Q_doLow_128 : decode b_Q_doLow 128 = .ok (.iconst 0, 1) := by decide +kernel
theorem d_Q_doLow_129 : decode b_Q_doLow 129 = .ok (.aload_n 0, 1) := by decide +kernel
theorem d_Q_doLow_130 : decode b_Q_doLow 130 = .ok (.getfield 30, 3) := by decide +kernel
theorem d_Q_doLow_133 : decode b_Q_doLow 133 = .ok (.iload 5, 2) := by decide +kernel
theorem d_Q_doLow_135 : decode b_Q_doLow 135 = .ok (.iadd, 1) := by decide +kernel
theorem d_Q_doLow_136 : decode b_Q_doLow 136 = .ok (.invokevirtual 125, 3) := by decide +kernel
theorem d_Q_doLow_139 : decode b_Q_doLow 139 = .ok (.goto 161, 3) := by decide +kernel
theorem d_Q_doLow_142 : decode b_Q_doLow 142 = .ok (.iload 4, 2) := by decide +kernel
theorem d_Q_doLow_144 : decode b_Q_doLow 144 = .ok (.ifCond .eq 15, 3) := by decide +kernel
theorem d_Q_doLow_147 : decode b_Q_doLow 147 = .ok (.aload_n 0, 1) := by decide +kernel
theorem d_Q_doLow_148 : decode b_Q_doLow 148 = .ok (.aload_n 0, 1) := by decide +kernel
theorem d_Q_doLow_149 : decode b_Q_doLow 149 = .ok (.iload_n 3, 1) := by decide +kernel
theorem d_Q_doLow_150 : decode b_Q_doLow 150 = .ok (.invokevirtual 129, 3) := by decide +kernel
theorem d_Q_doLow_153 : decode b_Q_doLow 153 = .ok (.invokevirtual 132, 3) := by decide +kernel
theorem d_Q_doLow_156 : decode b_Q_doLow 156 = .ok (.goto 144, 3) := by decide +kernel
theorem d_Q_doLow_159 : decode b_Q_doLow 159 = .ok (.aload_n 0, 1) := by decide +kernel
theorem d_Q_doLow_160 : decode b_Q_doLow 160 = .ok (.iload_n 3, 1) := by decide +kernel
theorem d_Q_doLow_161 : decode b_Q_doLow 161 = .ok (.aload_n 0, 1) := by decide +kernel
theorem d_Q_doLow_162 : decode b_Q_doLow 162 = .ok (.invokevirtual 112, 3) := by decide +kernel
theorem d_Q_doLow_165 : decode b_Q_doLow 165 = .ok (.invokevirtual 21, 3) := by decide +kernel
theorem d_Q_doLow_168 : decode b_Q_doLow 168 = .ok (.goto 132, 3) := by decide +kernel
theorem d_Q_doLow_171 : decode b_Q_doLow 171 = .ok (.aload_n 0, 1) := by decide +kernel
theorem d_Q_doLow_172 : decode b_Q_doLow 172 = .ok (.aload_n 0, 1) := by decide +kernel
theorem d_Q_doLow_173 : decode b_Q_doLow 173 = .ok (.iload_n 3, 1) := by decide +kernel
theorem d_Q_doLow_174 : decode b_Q_doLow 174 = .ok (.iconst 2, 1) := by decide +kernel
theorem d_Q_doLow_175 : decode b_Q_doLow 175 = .ok (.invokestatic 135, 3) := by decide +kernel
theorem d_Q_doLow_178 : decode b_Q_doLow 178 = .ok (.invokevirtual 129, 3) := by decide +kernel
theorem d_Q_doLow_181 : decode b_Q_doLow 181 = .ok (.iload 4, 2) := by decide +kernel
theorem d_Q_doLow_183 : decode b_Q_doLow 183 = .ok (.invokevirtual 141, 3) := by decide +kernel
theorem d_Q_doLow_186 : decode b_Q_doLow 186 = .ok (.iload_n 3, 1) := by decide +kernel
theorem d_Q_doLow_187 : decode b_Q_doLow 187 = .ok (.iconst 2, 1) := by decide +kernel
theorem d_Q_doLow_188 : decode b_Q_doLow 188 = .ok (.if_icmp .lt 112, 3) := by decide +kernel
theorem d_Q_doLow_191 : decode b_Q_doLow 191 = .ok (.aload_n 0, 1) := by decide +kernel
theorem d_Q_doLow_192 : decode b_Q_doLow 192 = .ok (.iconst 2, 1) := by decide +kernel
theorem d_Q_doLow_193 : decode b_Q_doLow 193 = .ok (.aload_n 0, 1) := by decide +kernel
theorem d_Q_doLow_194 : decode b_Q_doLow 194 = .ok (.iconst 2, 1) := by decide +kernel
theorem d_Q_doLow_195 : decode b_Q_doLow 195 = .ok (.invokevirtual 129, 3) := by decide +kernel
theorem d_Q_doLow_198 : decode b_Q_doLow 198 = .ok (.iload_n 3, 1) := by decide +kernel
theorem d_Q_doLow_199 : decode b_Q_doLow 199 = .ok (.iconst 2, 1) := by decide +kernel
theorem d_Q_doLow_200 : decode b_Q_doLow 200 = .ok (.if_icmp .ne 7, 3) := by decide +kernel
theorem d_Q_doLow_203 : decode b_Q_doLow 203 = .ok (.iconst 1, 1) := by decide +kernel
theorem d_Q_doLow_204 : decode b_Q_doLow 204 = .ok (.goto 4, 3) := by decide +kernel
theorem d_Q_doLow_207 : decode b_Q_doLow 207 = .ok (.iconst (-1), 1) := by decide +kernel
theorem d_Q_doLow_208 : decode b_Q_doLow 208 = .ok (.iadd, 1) := by decide +kernel
theorem d_Q_doLow_209 : decode b_Q_doLow 209 = .ok (.invokevirtual 21, 3) := by decide +kernel
theorem d_Q_doLow_212 : decode b_Q_doLow 212 = .ok (.goto 88, 3) := by decide +kernel
theorem d_Q_doLow_215 : decode b_Q_doLow 215 = .ok (.aload_n 0, 1) := by decide +kernel
theorem d_Q_doLow_216 : decode b_Q_doLow 216 = .ok (.iload_n 3, 1) := by decide +kernel
theorem d_Q_doLow_217 : decode b_Q_doLow 217 = .ok (.aload_n 0, 1) := by decide +kernel
theorem d_Q_doLow_218 : decode b_Q_doLow 218 = .ok (.iload_n 3, 1) := by decide +kernel
theorem d_Q_doLow_219 : decode b_Q_doLow 219 = .ok (.invokevirtual 129, 3) := by decide +kernel
theorem d_Q_doLow_222 : decode b_Q_doLow 222 = .ok (.iload 4, 2) := by decide +kernel
theorem d_Q_doLow_224 : decode b_Q_doLow 224 = .ok (.ifCond .eq 7, 3) := by decide +kernel
theorem d_Q_doLow_227 : decode b_Q_doLow 227 = .ok (.iconst (-1), 1) := by decide +kernel
theorem d_Q_doLow_228 : decode b_Q_doLow 228 = .ok (.goto 4, 3) := by decide +kernel
theorem d_Q_doLow_231 : decode b_Q_doLow 231 = .ok (.iconst 1, 1) := by decide +kernel
theorem d_Q_doLow_232 : decode b_Q_doLow 232 = .ok (.iadd, 1) := by decide +kernel
theorem d_Q_doLow_233 : decode b_Q_doLow 233 = .ok (.invokevirtual 21, 3) := by decide +kernel
theorem d_Q_doLow_236 : decode b_Q_doLow 236 = .ok (.aload_n 0, 1) := by decide +kernel
theorem d_Q_doLow_237 : decode b_Q_doLow 237 = .ok (.dup, 1) := by decide +kernel
theorem d_Q_doLow_238 : decode b_Q_doLow 238 = .ok (.getfield 65, 3) := by decide +kernel
theorem d_Q_doLow_241 : decode b_Q_doLow 241 = .ok (.iconst 1, 1) := by decide +kernel
theorem d_Q_doLow_242 : decode b_Q_doLow 242 = .ok (.iadd, 1) := by decide +kernel
theorem d_Q_doLow_243 : decode b_Q_doLow 243 = .ok (.putfield 65, 3) := by decide +kernel
theorem d_Q_doLow_246 : decode b_Q_doLow 246 = .ok (.goto 54, 3) := by decide +kernel
theorem d_Q_doLow_249 : decode b_Q_doLow 249 = .ok (.aload_n 0, 1) := by decide +kernel
theorem d_Q_doLow_250 : decode b_Q_doLow 250 = .ok (.iload_n 1, 1) := by decide +kernel
theorem d_Q_doLow_251 : decode b_Q_doLow 251 = .ok (.aload_n 0, 1) := by decide +kernel
theorem d_Q_doLow_252 : decode b_Q_doLow 252 = .ok (.aload_n 0, 1) := by decide +kernel
theorem d_Q_doLow_253 : decode b_Q_doLow 253 = .ok (.iload_n 1, 1) := by decide +kernel
theorem d_Q_doLow_254 : decode b_Q_doLow 254 = .ok (.invokevirtual 84, 3) := by decide +kernel
theorem d_Q_doLow_257 : decode b_Q_doLow 257 = .ok (.invokevirtual 145, 3) := by decide +kernel
theorem d_Q_doLow_260 : decode b_Q_doLow 260 = .ok (.invokevirtual 148, 3) := by decide +kernel
theorem d_Q_doLow_263 : decode b_Q_doLow 263 = .ok (.goto 37, 3) := by decide +kernel
theorem d_Q_doLow_266 : decode b_Q_doLow 266 = .ok (.aload_n 0, 1) := by decide +kernel
theorem d_Q_doLow_267 : decode b_Q_doLow 267 = .ok (.iload_n 1, 1) := by decide +kernel
theorem d_Q_doLow_268 : decode b_Q_doLow 268 = .ok (.aload_n 0, 1) := by decide +kernel
theorem d_Q_doLow_269 : decode b_Q_doLow 269 = .ok (.aload_n 0, 1) := by decide +kernel
theorem d_Q_doLow_270 : decode b_Q_doLow 270 = .ok (.iload_n 1, 1) := by decide +kernel
theorem d_Q_doLow_271 : decode b_Q_doLow 271 = .ok (.invokevirtual 84, 3) := by decide +kernel
theorem d_Q_doLow_274 : decode b_Q_doLow 274 = .ok (.invokevirtual 151, 3) := by decide +kernel
theorem d_Q_doLow_277 : decode b_Q_doLow 277 = .ok (.invokevirtual 148, 3) := by decide +kernel
theorem d_Q_doLow_280 : decode b_Q_doLow 280 = .ok (.goto 20, 3) := by decide +kernel
theorem d_Q_doLow_283 : decode b_Q_doLow 283 = .ok (.aload_n 0, 1) := by decide +kernel
theorem d_Q_doLow_284 : decode b_Q_doLow 284 = .ok (.iload_n 1, 1) := by decide +kernel
theorem d_Q_doLow_285 : decode b_Q_doLow 285 = .ok (.aload_n 0, 1) := by decide +kernel
theorem d_Q_doLow_286 : decode b_Q_doLow 286 = .ok (.invokevirtual 75, 3) := by decide +kernel
theorem d_Q_doLow_289 : decode b_Q_doLow 289 = .ok (.invokevirtual 148, 3) := by decide +kernel
theorem d_Q_doLow_292 : decode b_Q_doLow 292 = .ok (.goto 8, 3) := by decide +kernel
theorem d_Q_doLow_295 : decode b_Q_doLow 295 = .ok (.aload_n 0, 1) := by decide +kernel
theorem d_Q_doLow_296 : decode b_Q_doLow 296 = .ok (.iload_n 1, 1) := by decide +kernel
theorem d_Q_doLow_297 : decode b_Q_doLow 297 = .ok (.invokevirtual 154, 3) := by decide +kernel
theorem d_Q_doLow_300 : decode b_Q_doLow 300 = .ok (.return_, 1) := by decide +kernel
theorem d_Q_doCopy_0 : decode b_Q_doCopy 0 = .ok (.iload_n 1, 1) := by decide +kernel
theorem d_Q_doCopy_1 : decode b_Q_doCopy 1 = .ok (.bipush 6, 2) := by decide +kernel
theorem d_Q_doCopy_3 : decode b_Q_doCopy 3 = .ok (.if_icmp .ne 17, 3) := by decide +kernel
theorem d_Q_doCopy_6 : decode b_Q_doCopy 6 = .ok (.iload_n 2, 1) := by decide +kernel
theorem d_Q_doCopy_7 : decode b_Q_doCopy 7 = .ok (.bipush 6, 2) := by decide +kernel
theorem d_Q_doCopy_9 : decode b_Q_doCopy 9 = .ok (.if_icmp .ne 11, 3) := by decide +kernel
theorem d_Q_doCopy_12 : decode b_Q_doCopy 12 = .ok (.aload_n 0, 1) := by decide +kernel
theorem d_Q_doCopy_13 : decode b_Q_doCopy 13 = .ok (.iconst 1, 1) := by decide +kernel
theorem d_Q_doCopy_14 : decode b_Q_doCopy 14 = .ok (.putfield 37, 3) := by decide +kernel
theorem d_Q_doCopy_17 : decode b_Q_doCopy 17 = .ok (.goto 13, 3) := by decide +kernel
theorem d_Q_doCopy_20 : decode b_Q_doCopy 20 = .ok (.aload_n 0, 1) := by decide +kernel
theorem d_Q_doCopy_21 : decode b_Q_doCopy 21 = .ok (.iload_n 1, 1) := by decide +kernel
theorem d_Q_doCopy_22 : decode b_Q_doCopy 22 = .ok (.aload_n 0, 1) := by decide +kernel
theorem d_Q_doCopy_23 : decode b_Q_doCopy 23 = .ok (.iload_n 2, 1) := by decide +kernel
theorem d_Q_doCopy_24 : decode b_Q_doCopy 24 = .ok (.invokevirtual 84, 3) := by decide +kernel
theorem d_Q_doCopy_27 : decode b_Q_doCopy 27 = .ok (.invokevirtual 148, 3) := by decide +kernel
theorem d_Q_doCopy_30 : decode b_Q_doCopy 30 = .ok (.return_, 1) := by decide +kernel
theorem d_Q_add_0 : decode b_Q_add 0 = .ok (.aload_n 0, 1) := by decide +kernel
theorem d_Q_add_1 : decode b_Q_add 1 = .ok (.getfield 7, 3) := by decide +kernel
theorem d_Q_add_4 : decode b_Q_add 4 = .ok (.bipush 7, 2) := by decide +kernel
theorem d_Q_add_6 : decode b_Q_add 6 = .ok (.iaload, 1) := by decide +kernel
theorem d_Q_add_7 : decode b_Q_add 7 = .ok (.istore_n 3, 1) := by decide +kernel
theorem d_Q_add_8 : decode b_Q_add 8 = .ok (.iload_n 3, 1) := by decide +kernel
theorem d_Q_add_9 : decode b_Q_add 9 = .ok (.iload_n 1, 1) := by decide +kernel
theorem d_Q_add_10 : decode b_Q_add 10 = .ok (.iadd, 1) := by decide +kernel
theorem d_Q_add_11 : decode b_Q_add 11 = .ok (.iload_n 2, 1) := by decide +kernel
theorem d_Q_add_12 : decode b_Q_add 12 = .ok (.iadd, 1) := by decide +kernel
theorem d_Q_add_13 : decode b_Q_add 13 = .ok (.istore 4, 2) := by decide +kernel
theorem d_Q_add_15 : decode b_Q_add 15 = .ok (.iload_n 3, 1) := by decide +kernel
theorem d_Q_add_16 : decode b_Q_add 16 = .ok (.bipush 15, 2) := by decide +kernel
theorem d_Q_add_18 : decode b_Q_add 18 = .ok (.iand, 1) := by decide +kernel
theorem d_Q_add_19 : decode b_Q_add 19 = .ok (.iload_n 1, 1) := by decide +kernel
theorem d_Q_add_20 : decode b_Q_add 20 = .ok (.bipush 15, 2) := by decide +kernel
theorem d_Q_add_22 : decode b_Q_add 22 = .ok (.iand, 1) := by decide +kernel
theorem d_Q_add_23 : decode b_Q_add 23 = .ok (.iadd, 1) := by decide +kernel
theorem d_Q_add_24 : decode b_Q_add 24 = .ok (.iload_n 2, 1) := by decide +kernel
theorem d_Q_add_25 : decode b_Q_add 25 = .ok (.iadd, 1) := by decide +kernel
theorem d_Q_add_26 : decode b_Q_add 26 = .ok (.bipush 15, 2) := by decide +kernel
theorem d_Q_add_28 : decode b_Q_add 28 = .ok (.if_icmp .le 8, 3) := by decide +kernel
theorem d_Q_add_31 : decode b_Q_add 31 = .ok (.bipush 32, 2) := by decide +kernel
theorem d_Q_add_33 : decode b_Q_add 33 = .ok (.goto 4, 3) := by decide +kernel
theorem d_Q_add_36 : decode b_Q_add 36 = .ok (.iconst 0, 1) := by decide +kernel
theorem d_Q_add_37 : decode b_Q_add 37 = .ok (.istore 5, 2) := by decide +kernel
theorem d_Q_add_39 : decode b_Q_add 39 = .ok (.aload_n 0, 1) := by decide +kernel
theorem d_Q_add_40 : decode b_Q_add 40 = .ok (.getfield 7, 3) := by decide +kernel
theorem d_Q_add_43 : decode b_Q_add 43 = .ok (.bipush 7, 2) := by decide +kernel
theorem d_Q_add_45 : decode b_Q_add 45 = .ok (.iload 4, 2) := by decide +kernel
theorem d_Q_add_47 : decode b_Q_add 47 = .ok (.sipush 255, 3) := by decide +kernel
theorem d_Q_add_50 : decode b_Q_add 50 = .ok (.iand, 1) := by decide +kernel
theorem d_Q_add_51 : decode b_Q_add 51 = .ok (.iastore, 1) := by decide +kernel
theorem d_Q_add_52 : decode b_Q_add 52 = .ok (.aload_n 0, 1) := by decide +kernel
theorem d_Q_add_53 : decode b_Q_add 53 = .ok (.getfield 7, 3) := by decide +kernel
theorem d_Q_add_56 : decode b_Q_add 56 = .ok (.bipush 6, 2) := by decide +kernel
theorem d_Q_add_58 : decode b_Q_add 58 = .ok (.iload 4, 2) := by decide +kernel
theorem d_Q_add_60 : decode b_Q_add 60 = .ok (.sipush 255, 3) := by decide +kernel
theorem d_Q_add_63 : decode b_Q_add 63 = .ok (.iand, 1) := by decide +kernel
theorem d_Q_add_64 : decode b_Q_add 64 = .ok (.invokestatic 180, 3) := by decide +kernel
theorem d_Q_add_67 : decode b_Q_add 67 = .ok (.iload 5, 2) := by decide +kernel
theorem d_Q_add_69 : decode b_Q_add 69 = .ok (.ior, 1) := by decide +kernel
theorem d_Q_add_70 : decode b_Q_add 70 = .ok (.iload 4, 2) := by decide +kernel
theorem d_Q_add_72 : decode b_Q_add 72 = .ok (.sipush 255, 3) := by decide +kernel
theorem d_Q_add_75 : decode b_Q_add 75 = .ok (.if_icmp .le 8, 3) := by decide +kernel
theorem d_Q_add_78 : decode b_Q_add 78 = .ok (.bipush 16, 2) := by decide +kernel
theorem d_Q_add_80 : decode b_Q_add 80 = .ok (.goto 4, 3) := by decide +kernel
theorem d_Q_add_83 : decode b_Q_add 83 = .ok (.iconst 0, 1) := by decide +kernel
theorem d_Q_add_84 : decode b_Q_add 84 = .ok (.ior, 1) := by decide +kernel
theorem d_Q_add_85 : decode b_Q_add 85 = .ok (.iastore, 1) := by decide +kernel
theorem d_Q_add_86 : decode b_Q_add 86 = .ok (.return_, 1) := by decide +kernel
theorem d_Q_difference_0 : decode b_Q_difference 0 = .ok (.aload_n 0, 1) := by decide +kernel
theorem d_Q_difference_1 : decode b_Q_difference 1 = .ok (.getfield 7, 3) := by decide +kernel
theorem d_Q_difference_4 : decode b_Q_difference 4 = .ok (.bipush 7, 2) := by decide +kernel
theorem d_Q_difference_6 : decode b_Q_difference 6 = .ok (.iaload, 1) := by decide +kernel
theorem d_Q_difference_7 : decode b_Q_difference 7 = .ok (.istore_n 3, 1) := by decide +kernel
theorem d_Q_difference_8 : decode b_Q_difference 8 = .ok (.iload_n 3, 1) := by decide +kernel
theorem d_Q_difference_9 : decode b_Q_difference 9 = .ok (.iload_n 1, 1) := by decide +kernel
theorem d_Q_difference_10 : decode b_Q_difference 10 = .ok (.isub, 1) := by decide +kernel
theorem d_Q_difference_11 : decode b_Q_difference 11 = .ok (.iload_n 2, 1) := by decide +kernel
theorem d_Q_difference_12 : decode b_Q_difference 12 = .ok (.isub, 1) := by decide +kernel
theorem d_Q_difference_13 : decode b_Q_difference 13 = .ok (.istore 4, 2) := by decide +kernel
theorem d_Q_difference_15 : decode b_Q_difference 15 = .ok (.iload_n 3, 1) := by decide +kernel
theorem d_Q_difference_16 : decode b_Q_difference 16 = .ok (.bipush 15, 2) := by decide +kernel
theorem d_Q_difference_18 : decode b_Q_difference 18 = .ok (.iand, 1) := by decide +kernel
theorem d_Q_difference_19 : decode b_Q_difference 19 = .ok (.iload_n 1, 1) := by decide +kernel
theorem d_Q_difference_20 : decode b_Q_difference 20 = .ok (.bipush 15, 2) := by decide +kernel
theorem d_Q_difference_22 : decode b_Q_difference 22 = .ok (.iand, 1) := by decide +kernel
theorem d_Q_difference_23 : decode b_Q_difference 23 = .ok (.isub, 1) := by decide +kernel
theorem d_Q_difference_24 : decode b_Q_difference 24 = .ok (.iload_n 2, 1) := by decide +kernel
theorem d_Q_difference_25 : decode b_Q_difference 25 = .ok (.isub, 1) := by decide +kernel
theorem d_Q_difference_26 : decode b_Q_difference 26 = .ok (.ifCond .ge 8, 3) := by decide +kernel
theorem d_Q_difference_29 : decode b_Q_difference 29 = .ok (.bipush 32, 2) := by decide +kernel
theorem d_Q_difference_31 : decode b_Q_difference 31 = .ok (.goto 4, 3) := by decide +kernel
theorem d_Q_difference_34 : decode b_Q_difference 34 = .ok (.iconst 0, 1) := by decide +kernel
theorem d_Q_difference_35 : decode b_Q_difference 35 = .ok (.istore 5, 2) := by decide +kernel
theorem d_Q_difference_37 : decode b_Q_difference 37 = .ok (.aload_n 0, 1) := by decide +kernel
theorem d_Q_difference_38 : decode b_Q_difference 38 = .ok (.getfield 7, 3) := by decide +kernel
theorem d_Q_difference_41 : decode b_Q_difference 41 = .ok (.bipush 6, 2) := by decide +kernel
theorem d_Q_difference_43 : decode b_Q_difference 43 = .ok (.iload 4, 2) := by decide +kernel
theorem d_Q_difference_45 : decode b_Q_difference 45 = .ok (.sipush 255, 3) := by decide +kernel
theorem d_Q_difference_48 : decode b_Q_difference 48 = .ok (.iand, 1) := by decide +kernel
theorem d_Q_difference_49 : decode b_Q_difference 49 = .ok (.invokestatic 180, 3) := by decide +kernel
theorem d_Q_difference_52 : decode b_Q_difference 52 = .ok (.bipush 64, 2) := by decide +kernel
theorem d_Q_difference_54 : decode b_Q_difference 54 = .ok (.ior, 1) := by decide +kernel
theorem d_Q_difference_55 : decode b_Q_difference 55 = .ok (.iload 5, 2) := by decide +kernel
theorem d_Q_difference_57 : decode b_Q_difference 57 = .ok (.ior, 1) := by decide +kernel
theorem d_Q_difference_58 : decode b_Q_difference 58 = .ok (.iload 4, 2) := by decide +kernel
theorem d_Q_difference_60 : decode b_Q_difference 60 = .ok (.ifCond .ge 8, 3) := by decide +kernel
theorem d_Q_difference_63 : decode b_Q_difference 63 = .ok (.bipush 16, 2) := by decide +kernel
theorem d_Q_difference_65 : decode b_Q_difference 65 = .ok (.goto 4, 3) := by decide +kernel
theorem d_Q_difference_68 : decode b_Q_difference 68 = .ok (.iconst 0, 1) := by decide +kernel
theorem d_Q_difference_69 : decode b_Q_difference 69 = .ok (.ior, 1) := by decide +kernel
theorem d_Q_difference_70 : decode b_Q_difference 70 = .ok (.iastore, 1) := by decide +kernel
theorem d_Q_difference_71 : decode b_Q_difference 71 = .ok (.iload 4, 2) := by decide +kernel
theorem d_Q_difference_73 : decode b_Q_difference 73 = .ok (.sipush 255, 3) := by decide +kernel
theorem d_Q_difference_76 : decode b_Q_difference 76 = .ok (.iand, 1) := by decide +kernel
theorem d_Q_difference_77 : decode b_Q_difference 77 = .ok (.ireturn, 1) := by decide +kernel
theorem d_Q_setLogic_0 : decode b_Q_setLogic 0 = .ok (.aload_n 0, 1) := by decide +kernel
theorem d_Q_setLogic_1 : decode b_Q_setLogic 1 = .ok (.getfield 7, 3) := by decide +kernel
theorem d_Q_setLogic_4 : decode b_Q_setLogic 4 = .ok (.bipush 7, 2) := by decide +kernel
theorem d_Q_setLogic_6 : decode b_Q_setLogic 6 = .ok (.iload_n 1, 1) := by decide +kernel
theorem d_Q_setLogic_7 : decode b_Q_setLogic 7 = .ok (.iastore, 1) := by decide +kernel
theorem d_Q_setLogic_8 : decode b_Q_setLogic 8 = .ok (.aload_n 0, 1) := by decide +kernel
theorem d_Q_setLogic_9 : decode b_Q_setLogic 9 = .ok (.getfield 7, 3) := by decide +kernel
theorem d_Q_setLogic_12 : decode b_Q_setLogic 12 = .ok (.bipush 6, 2) := by decide +kernel
theorem d_Q_setLogic_14 : decode b_Q_setLogic 14 = .ok (.iload_n 1, 1) := by decide +kernel
theorem d_Q_setLogic_15 : decode b_Q_setLogic 15 = .ok (.invokestatic 180, 3) := by decide +kernel
theorem d_Q_setLogic_18 : decode b_Q_setLogic 18 = .ok (.iload_n 2, 1) := by decide +kernel
theorem d_Q_setLogic_19 : decode b_Q_setLogic 19 = .ok (.ior, 1) := by decide +kernel
theorem d_Q_setLogic_20 : decode b_Q_setLogic 20 = .ok (.iastore, 1) := by decide +kernel
theorem d_Q_setLogic_21 : decode b_Q_setLogic 21 = .ok (.return_, 1) := by decide +kernel
theorem d_Q_combine_0 : decode b_Q_combine 0 = .ok (.aload_n 0, 1) := by decide +kernel
theorem d_Q_combine_1 : decode b_Q_combine 1 = .ok (.getfield 7, 3) := by decide +kernel
theorem d_Q_combine_4 : decode b_Q_combine 4 = .ok (.bipush 7, 2) := by decide +kernel
theorem d_Q_combine_6 : decode b_Q_combine 6 = .ok (.iaload, 1) := by decide +kernel
theorem d_Q_combine_7 : decode b_Q_combine 7 = .ok (.istore_n 3, 1) := by decide +kernel
theorem d_Q_combine_8 : decode b_Q_combine 8 = .ok (.aload_n 0, 1) := by decide +kernel
theorem d_Q_combine_9 : decode b_Q_combine 9 = .ok (.getfield 7, 3) := by decide +kernel
theorem d_Q_combine_12 : decode b_Q_combine 12 = .ok (.bipush 6, 2) := by decide +kernel
theorem d_Q_combine_14 : decode b_Q_combine 14 = .ok (.iaload, 1) := by decide +kernel
theorem d_Q_combine_15 : decode b_Q_combine 15 = .ok (.bipush 16, 2) := by decide +kernel
theorem d_Q_combine_17 : decode b_Q_combine 17 = .ok (.iand, 1) := by decide +kernel
theorem d_Q_combine_18 : decode b_Q_combine 18 = .ok (.ifCond .eq 7, 3) := by decide +kernel
theorem d_Q_combine_21 : decode b_Q_combine 21 = .ok (.iconst 1, 1) := by decide +kernel
theorem d_Q_combine_22 : decode b_Q_combine 22 = .ok (.goto 4, 3) := by decide +kernel
theorem d_Q_combine_25 : decode b_Q_combine 25 = .ok (.iconst 0, 1) := by decide +kernel
theorem d_Q_combine_26 : decode b_Q_combine 26 = .ok (.istore 4, 2) := by decide +kernel
theorem d_Q_combine_28 : decode b_Q_combine 28 = .ok (.iload_n 1, 1) := by decide +kernel
theorem d_Q_combine_29 : decode b_Q_combine 29 = .ok (.tableswitch 129 0 6 #[43, 52, 62, 78, 95, 107, 118], 43) := by decide +kernel
theorem d_Q_combine_72 : decode b_Q_combine 72 = .ok (.aload_n 0, 1) := by decide +kernel
theorem d_Q_combine_73 : decode b_Q_combine 73 = .ok (.iload_n 2, 1) := by decide +kernel
theorem d_Q_combine_74 : decode b_Q_combine 74 = .ok (.iconst 0, 1) := by decide +kernel
theorem d_Q_combine_75 : decode b_Q_combine 75 = .ok (.invokevirtual 191, 3) := by decide +kernel
theorem d_Q_combine_78 : decode b_Q_combine 78 = .ok (.goto 87, 3) := by decide +kernel
theorem d_Q_combine_81 : decode b_Q_combine 81 = .ok (.aload_n 0, 1) := by decide +kernel
theorem d_Q_combine_82 : decode b_Q_combine 82 = .ok (.iload_n 2, 1) := by decide +kernel
theorem d_Q_combine_83 : decode b_Q_combine 83 = .ok (.iload 4, 2) := by decide +kernel
theorem d_Q_combine_85 : decode b_Q_combine 85 = .ok (.invokevirtual 191, 3) := by decide +kernel
theorem d_Q_combine_88 : decode b_Q_combine 88 = .ok (.goto 77, 3) := by decide +kernel
theorem d_Q_combine_91 : decode b_Q_combine 91 = .ok (.aload_n 0, 1) := by decide +kernel
theorem d_Q_combine_92 : decode b_Q_combine 92 = .ok (.getfield 7, 3) := by decide +kernel
theorem d_Q_combine_95 : decode b_Q_combine 95 = .ok (.bipush 7, 2) := by decide +kernel
theorem d_Q_combine_97 : decode b_Q_combine 97 = .ok (.aload_n 0, 1) := by decide +kernel
theorem d_Q_combine_98 : decode b_Q_combine 98 = .ok (.iload_n 2, 1) := by decide +kernel
theorem d_Q_combine_99 : decode b_Q_combine 99 = .ok (.iconst 0, 1) := by decide +kernel
theorem d_Q_combine_100 : decode b_Q_combine 100 = .ok (.invokevirtual 194, 3) := by decide +kernel
theorem d_Q_combine_103 : decode b_Q_combine 103 = .ok (.iastore, 1) := by decide +kernel
theorem d_Q_combine_104 : decode b_Q_combine 104 = .ok (.goto 61, 3) := by decide +kernel
theorem d_Q_combine_107 : decode b_Q_combine 107 = .ok (.aload_n 0, 1) := by decide +kernel
theorem d_Q_combine_108 : decode b_Q_combine 108 = .ok (.getfield 7, 3) := by decide +kernel
theorem d_Q_combine_111 : decode b_Q_combine 111 = .ok (.bipush 7, 2) := by decide +kernel
theorem d_Q_combine_113 : decode b_Q_combine 113 = .ok (.aload_n 0, 1) := by decide +kernel
theorem d_Q_combine_114 : decode b_Q_combine 114 = .ok (.iload_n 2, 1) := by decide +kernel
theorem d_Q_combine_115 : decode b_Q_combine 115 = .ok (.iload 4, 2) := by decide +kernel
theorem d_Q_combine_117 : decode b_Q_combine 117 = .ok (.invokevirtual 194, 3) := by decide +kernel
theorem d_Q_combine_120 : decode b_Q_combine 120 = .ok (.iastore, 1) := by decide +kernel
theorem d_Q_combine_121 : decode b_Q_combine 121 = .ok (.goto 44, 3) := by decide +kernel
theorem d_Q_combine_124 : decode b_Q_combine 124 = .ok (.aload_n 0, 1) := by decide +kernel
theorem d_Q_combine_125 : decode b_Q_combine 125 = .ok (.iload_n 3, 1) := by decide +kernel
theorem d_Q_combine_126 : decode b_Q_combine 126 = .ok (.iload_n 2, 1) := by decide +kernel
theorem d_Q_combine_127 : decode b_Q_combine 127 = .ok (.iand, 1) := by decide +kernel
theorem d_Q_combine_128 : decode b_Q_combine 128 = .ok (.bipush 32, 2) := by decide +kernel
theorem d_Q_combine_130 : decode b_Q_combine 130 = .ok (.invokevirtual 197, 3) := by decide +kernel
theorem d_Q_combine_133 : decode b_Q_combine 133 = .ok (.goto 32, 3) := by decide +kernel
theorem d_Q_combine_136 : decode b_Q_combine 136 = .ok (.aload_n 0, 1) := by decide +kernel
theorem d_Q_combine_137 : decode b_Q_combine 137 = .ok (.iload_n 3, 1) := by decide +kernel
theorem d_Q_combine_138 : decode b_Q_combine 138 = .ok (.iload_n 2, 1) := by decide +kernel
theorem d_Q_combine_139 : decode b_Q_combine 139 = .ok (.ixor, 1) := by decide +kernel
theorem d_Q_combine_140 : decode b_Q_combine 140 = .ok (.iconst 0, 1) := by decide +kernel
theorem d_Q_combine_141 : decode b_Q_combine 141 = .ok (.invokevirtual 197, 3) := by decide +kernel
theorem d_Q_combine_144 : decode b_Q_combine 144 = .ok (.goto 21, 3) := by decide +kernel
theorem d_Q_combine_147 : decode b_Q_combine 147 = .ok (.aload_n 0, 1) := by decide +kernel
theorem d_Q_combine_148 : decode b_Q_combine 148 = .ok (.iload_n 3, 1) := by decide +kernel
theorem d_Q_combine_149 : decode b_Q_combine 149 = .ok (.iload_n 2, 1) := by decide +kernel
theorem d_Q_combine_150 : decode b_Q_combine 150 = .ok (.ior, 1) := by decide +kernel
theorem d_Q_combine_151 : decode b_Q_combine 151 = .ok (.iconst 0, 1) := by decide +kernel
theorem d_Q_combine_152 : decode b_Q_combine 152 = .ok (.invokevirtual 197, 3) := by decide +kernel
theorem d_Q_combine_155 : decode b_Q_combine 155 = .ok (.goto 10, 3) := by decide +kernel
theorem d_Q_combine_158 : decode b_Q_combine 158 = .ok (.aload_n 0, 1) := by decide +kernel
theorem d_Q_combine_159 : decode b_Q_combine 159 = .ok (.iload_n 2, 1) := by decide +kernel
theorem d_Q_combine_160 : decode b_Q_combine 160 = .ok (.iconst 0, 1) := by decide +kernel
theorem d_Q_combine_161 : decode b_Q_combine 161 = .ok (.invokevirtual 194, 3) := by decide +kernel
theorem d_Q_combine_164 : decode b_Q_combine 164 = .ok (.pop, 1) := by decide +kernel
theorem d_Q_combine_165 : decode b_Q_combine 165 = .ok (.return_, 1) := by decide +kernel
theorem d_Q_doPrefixed_0 : decode b_Q_doPrefixed 0 = .ok (.aload_n 0, 1) := by decide +kernel
theorem d_Q_doPrefixed_1 : decode b_Q_doPrefixed 1 = .ok (.invokevirtual 75, 3) := by decide +kernel
theorem d_Q_doPrefixed_4 : decode b_Q_doPrefixed 4 = .ok (.istore_n 1, 1) := by decide +kernel
theorem d_Q_doPrefixed_5 : decode b_Q_doPrefixed 5 = .ok (.iload_n 1, 1) := by decide +kernel
theorem d_Q_doPrefixed_6 : decode b_Q_doPrefixed 6 = .ok (.iconst 3, 1) := by decide +kernel
theorem d_Q_doPrefixed_7 : decode b_Q_doPrefixed 7 = .ok (.ishr, 1) := by decide +kernel
theorem d_Q_doPrefixed_8 : decode b_Q_doPrefixed 8 = .ok (.bipush 7, 2) := by decide +kernel
theorem d_Q_doPrefixed_10 : decode b_Q_doPrefixed 10 = .ok (.iand, 1) := by decide +kernel
theorem d_Q_doPrefixed_11 : decode b_Q_doPrefixed 11 = .ok (.istore_n 2, 1) := by decide +kernel
theorem d_Q_doPrefixed_12 : decode b_Q_doPrefixed 12 = .ok (.iload_n 1, 1) := by decide +kernel
theorem d_Q_doPrefixed_13 : decode b_Q_doPrefixed 13 = .ok (.bipush 7, 2) := by decide +kernel
theorem d_Q_doPrefixed_15 : decode b_Q_doPrefixed 15 = .ok (.iand, 1) := by decide +kernel
theorem d_Q_doPrefixed_16 : decode b_Q_doPrefixed 16 = .ok (.istore_n 3, 1) := by decide +kernel
theorem d_Q_doPrefixed_17 : decode b_Q_doPrefixed 17 = .ok (.aload_n 0, 1) := by decide +kernel
theorem d_Q_doPrefixed_18 : decode b_Q_doPrefixed 18 = .ok (.iload_n 3, 1) := by decide +kernel
theorem d_Q_doPrefixed_19 : decode b_Q_doPrefixed 19 = .ok (.invokevirtual 84, 3) := by decide +kernel
theorem d_Q_doPrefixed_22 : decode b_Q_doPrefixed 22 = .ok (.istore 4, 2) := by decide +kernel
theorem d_Q_doPrefixed_24 : decode b_Q_doPrefixed 24 = .ok (.iload_n 1, 1) := by decide +kernel
theorem d_Q_doPrefixed_25 : decode b_Q_doPrefixed 25 = .ok (.bipush 6, 2) := by decide +kernel
theorem d_Q_doPrefixed_27 : decode b_Q_doPrefixed 27 = .ok (.ishr, 1) := by decide +kernel
theorem d_Q_doPrefixed_28 : decode b_Q_doPrefixed 28 = .ok (.tableswitch 92 0 2 #[28, 43, 76], 28) := by decide +kernel
theorem d_Q_doPrefixed_56 : decode b_Q_doPrefixed 56 = .ok (.aload_n 0, 1) := by decide +kernel
theorem d_Q_doPrefixed_57 : decode b_Q_doPrefixed 57 = .ok (.iload_n 3, 1) := by decide +kernel
theorem d_Q_doPrefixed_58 : decode b_Q_doPrefixed 58 = .ok (.aload_n 0, 1) := by decide +kernel
theorem d_Q_doPrefixed_59 : decode b_Q_doPrefixed 59 = .ok (.iload_n 2, 1) := by decide +kernel
theorem d_Q_doPrefixed_60 : decode b_Q_doPrefixed 60 = .ok (.iload 4, 2) := by decide +kernel
theorem d_Q_doPrefixed_62 : decode b_Q_doPrefixed 62 = .ok (.invokevirtual 177, 3) := by decide +kernel
theorem d_Q_doPrefixed_65 : decode b_Q_doPrefixed 65 = .ok (.invokevirtual 148, 3) := by decide +kernel
theorem d_Q_doPrefixed_68 : decode b_Q_doPrefixed 68 = .ok (.goto 63, 3) := by decide +kernel
theorem d_Q_doPrefixed_71 : decode b_Q_doPrefixed 71 = .ok (.aload_n 0, 1) := by decide +kernel
theorem d_Q_doPrefixed_72 : decode b_Q_doPrefixed 72 = .ok (.getfield 7, 3) := by decide +kernel
theorem d_Q_doPrefixed_75 : decode b_Q_doPrefixed 75 = .ok (.bipush 6, 2) := by decide +kernel
theorem d_Q_doPrefixed_77 : decode b_Q_doPrefixed 77 = .ok (.aload_n 0, 1) := by decide +kernel
theorem d_Q_doPrefixed_78 : decode b_Q_doPrefixed 78 = .ok (.getfield 7, 3) := by decide +kernel
theorem d_Q_doPrefixed_81 : decode b_Q_doPrefixed 81 = .ok (.bipush 6, 2) := by decide +kernel
theorem d_Q_doPrefixed_83 : decode b_Q_doPrefixed 83 = .ok (.iaload, 1) := by decide +kernel
theorem d_Q_doPrefixed_84 : decode b_Q_doPrefixed 84 = .ok (.bipush 16, 2) := by decide +kernel
theorem d_Q_doPrefixed_86 : decode b_Q_doPrefixed 86 = .ok (.iand, 1) := by decide +kernel
theorem d_Q_doPrefixed_87 : decode b_Q_doPrefixed 87 = .ok (.bipush 32, 2) := by decide +kernel
theorem d_Q_doPrefixed_89 : decode b_Q_doPrefixed 89 = .ok (.ior, 1) := by decide +kernel
theorem d_Q_doPrefixed_90 : decode b_Q_doPrefixed 90 = .ok (.iload 4, 2) := by decide +kernel
theorem d_Q_doPrefixed_92 : decode b_Q_doPrefixed 92 = .ok (.iconst 1, 1) := by decide +kernel
theorem d_Q_doPrefixed_93 : decode b_Q_doPrefixed 93 = .ok (.iload_n 2, 1) := by decide +kernel
theorem d_Q_doPrefixed_94 : decode b_Q_doPrefixed 94 = .ok (.ishl, 1) := by decide +kernel
theorem d_Q_doPrefixed_95 : decode b_Q_doPrefixed 95 = .ok (.iand, 1) := by decide +kernel
theorem d_Q_doPrefixed_96 : decode b_Q_doPrefixed 96 = .ok (.invokestatic 180, 3) := by decide +kernel
theorem d_Q_doPrefixed_99 : decode b_Q_doPrefixed 99 = .ok (.ior, 1) := by decide +kernel
theorem d_Q_doPrefixed_100 : decode b_Q_doPrefixed 100 = .ok (.iastore, 1) := by decide +kernel
theorem d_Q_doPrefixed_101 : decode b_Q_doPrefixed 101 = .ok (.goto 30, 3) := by decide +kernel
theorem d_Q_doPrefixed_104 : decode b_Q_doPrefixed 104 = .ok (.aload_n 0, 1) := by decide +kernel
theorem d_Q_doPrefixed_105 : decode b_Q_doPrefixed 105 = .ok (.iload_n 3, 1) := by decide +kernel
theorem d_Q_doPrefixed_106 : decode b_Q_doPrefixed 106 = .ok (.iload 4, 2) := by decide +kernel
theorem d_Q_doPrefixed_108 : decode b_Q_doPrefixed 108 = .ok (.iconst 1, 1) := by decide +kernel
theorem d_Q_doPrefixed_109 : decode b_Q_doPrefixed 109 = .ok (.iload_n 2, 1) := by decide +kernel
theorem d_Q_doPrefixed_110 : decode b_Q_doPrefixed 110 = .ok (.ishl, 1) := by decide +kernel
theorem d_Q_doPrefixed_111 : decode b_Q_doPrefixed 111 = .ok (.iconst (-1), 1) := by decide +kernel
theorem d_Q_doPrefixed_112 : decode b_Q_doPrefixed 112 = .ok (.ixor, 1) := by decide +kernel
theorem d_Q_doPrefixed_113 : decode b_Q_doPrefixed 113 = .ok (.iand, 1) := by decide +kernel
theorem d_Q_doPrefixed_114 : decode b_Q_doPrefixed 114 = .ok (.invokevirtual 148, 3) := by decide +kernel
theorem d_Q_doPrefixed_117 : decode b_Q_doPrefixed 117 = .ok (.goto 14, 3) := by decide +kernel
theorem d_Q_doPrefixed_120 : decode b_Q_doPrefixed 120 = .ok (.aload_n 0, 1) := by decide +kernel
theorem d_Q_doPrefixed_121 : decode b_Q_doPrefixed 121 = .ok (.iload_n 3, 1) := by decide +kernel
theorem d_Q_doPrefixed_122 : decode b_Q_doPrefixed 122 = .ok (.iload 4, 2) := by decide +kernel
theorem d_Q_doPrefixed_124 : decode b_Q_doPrefixed 124 = .ok (.iconst 1, 1) := by decide +kernel
theorem d_Q_doPrefixed_125 : decode b_Q_doPrefixed 125 = .ok (.iload_n 2, 1) := by decide +kernel
theorem d_Q_doPrefixed_126 : decode b_Q_doPrefixed 126 = .ok (.ishl, 1) := by decide +kernel
theorem d_Q_doPrefixed_127 : decode b_Q_doPrefixed 127 = .ok (.ior, 1) := by decide +kernel
theorem d_Q_doPrefixed_128 : decode b_Q_doPrefixed 128 = .ok (.invokevirtual 148, 3) := by decide +kernel
theorem d_Q_doPrefixed_131 : decode b_Q_doPrefixed 131 = .ok (.return_, 1) := by decide +kernel
theorem d_Q_pop_0 : decode b_Q_pop 0 = .ok (.aload_n 0, 1) := by decide +kernel
theorem d_Q_pop_1 : decode b_Q_pop 1 = .ok (.getfield 13, 3) := by decide +kernel
theorem d_Q_pop_4 : decode b_Q_pop 4 = .ok (.aload_n 0, 1) := by decide +kernel
theorem d_Q_pop_5 : decode b_Q_pop 5 = .ok (.getfield 26, 3) := by decide +kernel
theorem d_Q_pop_8 : decode b_Q_pop 8 = .ok (.iconst 1, 1) := by decide +kernel
theorem d_Q_pop_9 : decode b_Q_pop 9 = .ok (.iadd, 1) := by decide +kernel
theorem d_Q_pop_10 : decode b_Q_pop 10 = .ok (.ldc 58, 2) := by decide +kernel
theorem d_Q_pop_12 : decode b_Q_pop 12 = .ok (.iand, 1) := by decide +kernel
theorem d_Q_pop_13 : decode b_Q_pop 13 = .ok (.invokevirtual 183, 3) := by decide +kernel
theorem d_Q_pop_16 : decode b_Q_pop 16 = .ok (.bipush 8, 2) := by decide +kernel
theorem d_Q_pop_18 : decode b_Q_pop 18 = .ok (.ishl, 1) := by decide +kernel
theorem d_Q_pop_19 : decode b_Q_pop 19 = .ok (.aload_n 0, 1) := by decide +kernel
theorem d_Q_pop_20 : decode b_Q_pop 20 = .ok (.getfield 13, 3) := by decide +kernel
theorem d_Q_pop_23 : decode b_Q_pop 23 = .ok (.aload_n 0, 1) := by decide +kernel
theorem d_Q_pop_24 : decode b_Q_pop 24 = .ok (.getfield 26, 3) := by decide +kernel
theorem d_Q_pop_27 : decode b_Q_pop 27 = .ok (.invokevirtual 183, 3) := by decide +kernel
theorem d_Q_pop_30 : decode b_Q_pop 30 = .ok (.ior, 1) := by decide +kernel
theorem d_Q_pop_31 : decode b_Q_pop 31 = .ok (.istore_n 1, 1) := by decide +kernel
theorem d_Q_pop_32 : decode b_Q_pop 32 = .ok (.aload_n 0, 1) := by decide +kernel
theorem d_Q_pop_33 : decode b_Q_pop 33 = .ok (.aload_n 0, 1) := by decide +kernel
theorem d_Q_pop_34 : decode b_Q_pop 34 = .ok (.getfield 26, 3) := by decide +kernel
theorem d_Q_pop_37 : decode b_Q_pop 37 = .ok (.iconst 2, 1) := by decide +kernel
theorem d_Q_pop_38 : decode b_Q_pop 38 = .ok (.iadd, 1) := by decide +kernel
theorem d_Q_pop_39 : decode b_Q_pop 39 = .ok (.ldc 58, 2) := by decide +kernel
theorem d_Q_pop_41 : decode b_Q_pop 41 = .ok (.iand, 1) := by decide +kernel
theorem d_Q_pop_42 : decode b_Q_pop 42 = .ok (.putfield 26, 3) := by decide +kernel
theorem d_Q_pop_45 : decode b_Q_pop 45 = .ok (.aload_n 0, 1) := by decide +kernel
theorem d_Q_pop_46 : decode b_Q_pop 46 = .ok (.dup, 1) := by decide +kernel
theorem d_Q_pop_47 : decode b_Q_pop 47 = .ok (.getfield 65, 3) := by decide +kernel
theorem d_Q_pop_50 : decode b_Q_pop 50 = .ok (.iconst 2, 1) := by decide +kernel
theorem d_Q_pop_51 : decode b_Q_pop 51 = .ok (.iadd, 1) := by decide +kernel
theorem d_Q_pop_52 : decode b_Q_pop 52 = .ok (.putfield 65, 3) := by decide +kernel
theorem d_Q_pop_55 : decode b_Q_pop 55 = .ok (.iload_n 1, 1) := by decide +kernel
theorem d_Q_pop_56 : decode b_Q_pop 56 = .ok (.ireturn, 1) := by decide +kernel
