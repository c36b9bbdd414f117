theorem d_R_turned_0 : decode b_R_turned 0 = .ok (.aload_n 0, 1) := by decide +kernel
theorem d_R_turned_1 : decode b_R_turned 1 = .ok (.bipush 16, 2) := by decide +kernel
theorem d_R_turned_3 : decode b_R_turned 3 = .ok (.invokevirtual 227, 3) := by decide +kernel
theorem d_R_turned_6 : decode b_R_turned 6 = .ok (.ifCond .eq 7, 3) := by decide +kernel
theorem d_R_turned_9 : decode b_R_turned 9 = .ok (.iconst 1, 1) := by decide +kernel
theorem d_R_turned_10 : decode b_R_turned 10 = .ok (.goto 4, 3) := by decide +kernel
theorem d_R_turned_13 : decode b_R_turned 13 = .ok (.iconst 0, 1) := by decide +kernel
theorem d_R_turned_14 : decode b_R_turned 14 = .ok (.istore_n 3, 1) := by decide +kernel
theorem d_R_turned_15 : decode b_R_turned 15 = .ok (.iload_n 1, 1) := by decide +kernel
theorem d_R_turned_16 : decode b_R_turned 16 = .ok (.tableswitch 163 0 6 #[44, 63, 81, 97, 115, 129, 148], 44) := by decide +kernel
theorem d_R_turned_60 : decode b_R_turned 60 = .ok (.iload_n 2, 1) := by decide +kernel
theorem d_R_turned_61 : decode b_R_turned 61 = .ok (.iconst 1, 1) := by decide +kernel
theorem d_R_turned_62 : decode b_R_turned 62 = .ok (.ishl, 1) := by decide +kernel
theorem d_R_turned_63 : decode b_R_turned 63 = .ok (.iload_n 2, 1) := by decide +kernel
theorem d_R_turned_64 : decode b_R_turned 64 = .ok (.bipush 7, 2) := by decide +kernel
theorem d_R_turned_66 : decode b_R_turned 66 = .ok (.ishr, 1) := by decide +kernel
theorem d_R_turned_67 : decode b_R_turned 67 = .ok (.ior, 1) := by decide +kernel
theorem d_R_turned_68 : decode b_R_turned 68 = .ok (.istore 4, 2) := by decide +kernel
theorem d_R_turned_70 : decode b_R_turned 70 = .ok (.iload_n 2, 1) := by decide +kernel
theorem d_R_turned_71 : decode b_R_turned 71 = .ok (.bipush 7, 2) := by decide +kernel
theorem d_R_turned_73 : decode b_R_turned 73 = .ok (.ishr, 1) := by decide +kernel
theorem d_R_turned_74 : decode b_R_turned 74 = .ok (.istore 5, 2) := by decide +kernel
theorem d_R_turned_76 : decode b_R_turned 76 = .ok (.goto 113, 3) := by decide +kernel
theorem d_R_turned_79 : decode b_R_turned 79 = .ok (.iload_n 2, 1) := by decide +kernel
theorem d_R_turned_80 : decode b_R_turned 80 = .ok (.iconst 1, 1) := by decide +kernel
theorem d_R_turned_81 : decode b_R_turned 81 = .ok (.ishr, 1) := by decide +kernel
theorem d_R_turned_82 : decode b_R_turned 82 = .ok (.iload_n 2, 1) := by decide +kernel
theorem d_R_turned_83 : decode b_R_turned 83 = .ok (.bipush 7, 2) := by decide +kernel
theorem d_R_turned_85 : decode b_R_turned 85 = .ok (.ishl, 1) := by decide +kernel
theorem d_R_turned_86 : decode b_R_turned 86 = .ok (.ior, 1) := by decide +kernel
theorem d_R_turned_87 : decode b_R_turned 87 = .ok (.istore 4, 2) := by decide +kernel
theorem d_R_turned_89 : decode b_R_turned 89 = .ok (.iload_n 2, 1) := by decide +kernel
theorem d_R_turned_90 : decode b_R_turned 90 = .ok (.iconst 1, 1) := by decide +kernel
theorem d_R_turned_91 : decode b_R_turned 91 = .ok (.iand, 1) := by decide +kernel
theorem d_R_turned_92 : decode b_R_turned 92 = .ok (.istore 5, 2) := by decide +kernel
theorem d_R_turned_94 : decode b_R_turned 94 = .ok (.goto 95, 3) := by decide +kernel
theorem d_R_turned_97 : decode b_R_turned 97 = .ok (.iload_n 2, 1) := by decide +kernel
theorem d_R_turned_98 : decode b_R_turned 98 = .ok (.iconst 1, 1) := by decide +kernel
theorem d_R_turned_99 : decode b_R_turned 99 = .ok (.ishl, 1) := by decide +kernel
theorem d_R_turned_100 : decode b_R_turned 100 = .ok (.iload_n 3, 1) := by decide +kernel
theorem d_R_turned_101 : decode b_R_turned 101 = .ok (.ior, 1) := by decide +kernel
theorem d_R_turned_102 : decode b_R_turned 102 = .ok (.istore 4, 2) := by decide +kernel
theorem d_R_turned_104 : decode b_R_turned 104 = .ok (.iload_n 2, 1) := by decide +kernel
theorem d_R_turned_105 : decode b_R_turned 105 = .ok (.bipush 7, 2) := by decide +kernel
theorem d_R_turned_107 : decode b_R_turned 107 = .ok (.ishr, 1) := by decide +kernel
theorem d_R_turned_108 : decode b_R_turned 108 = .ok (.istore 5, 2) := by decide +kernel
theorem d_R_turned_110 : decode b_R_turned 110 = .ok (.goto 79, 3) := by decide +kernel
theorem d_R_turned_113 : decode b_R_turned 113 = .ok (.iload_n 2, 1) := by decide +kernel
theorem d_R_turned_114 : decode b_R_turned 114 = .ok (.iconst 1, 1) := by decide +kernel
theorem d_R_turned_115 : decode b_R_turned 115 = .ok (.ishr, 1) := by decide +kernel
theorem d_R_turned_116 : decode b_R_turned 116 = .ok (.iload_n 3, 1) := by decide +kernel
theorem d_R_turned_117 : decode b_R_turned 117 = .ok (.bipush 7, 2) := by decide +kernel
theorem d_R_turned_119 : decode b_R_turned 119 = .ok (.ishl, 1) := by decide +kernel
theorem d_R_turned_120 : decode b_R_turned 120 = .ok (.ior, 1) := by decide +kernel
theorem d_R_turned_121 : decode b_R_turned 121 = .ok (.istore 4, 2) := by decide +kernel
theorem d_R_turned_123 : decode b_R_turned 123 = .ok (.iload_n 2, 1) := by decide +kernel
theorem d_R_turned_124 : decode b_R_turned 124 = .ok (.iconst 1, 1) := by decide +kernel
theorem d_R_turned_125 : decode b_R_turned 125 = .ok (.iand, 1) := by decide +kernel
theorem d_R_turned_126 : decode b_R_turned 126 = .ok (.istore 5, 2) := by decide +kernel
theorem d_R_turned_128 : decode b_R_turned 128 = .ok (.goto 61, 3) := by decide +kernel
theorem d_R_turned_131 : decode b_R_turned 131 = .ok (.iload_n 2, 1) := by decide +kernel
theorem d_R_turned_132 : decode b_R_turned 132 = .ok (.iconst 1, 1) := by decide +kernel
theorem d_R_turned_133 : decode b_R_turned 133 = .ok (.ishl, 1) := by decide +kernel
theorem d_R_turned_134 : decode b_R_turned 134 = .ok (.istore 4, 2) := by decide +kernel
theorem d_R_turned_136 : decode b_R_turned 136 = .ok (.iload_n 2, 1) := by decide +kernel
theorem d_R_turned_137 : decode b_R_turned 137 = .ok (.bipush 7, 2) := by decide +kernel
theorem d_R_turned_139 : decode b_R_turned 139 = .ok (.ishr, 1) := by decide +kernel
theorem d_R_turned_140 : decode b_R_turned 140 = .ok (.istore 5, 2) := by decide +kernel
theorem d_R_turned_142 : decode b_R_turned 142 = .ok (.goto 47, 3) := by decide +kernel
theorem d_R_turned_145 : decode b_R_turned 145 = .ok (.iload_n 2, 1) := by decide +kernel
theorem d_R_turned_146 : decode b_R_turned 146 = .ok (.iconst 1, 1) := by decide +kernel
theorem d_R_turned_147 : decode b_R_turned 147 = .ok (.ishr, 1) := by decide +kernel
theorem d_R_turned_148 : decode b_R_turned 148 = .ok (.iload_n 2, 1) := by decide +kernel
theorem d_R_turned_149 : decode b_R_turned 149 = .ok (.sipush 128, 3) := by decide +kernel
theorem d_R_turned_152 : decode b_R_turned 152 = .ok (.iand, 1) := by decide +kernel
theorem d_R_turned_153 : decode b_R_turned 153 = .ok (.ior, 1) := by decide +kernel
theorem d_R_turned_154 : decode b_R_turned 154 = .ok (.istore 4, 2) := by decide +kernel
theorem d_R_turned_156 : decode b_R_turned 156 = .ok (.iload_n 2, 1) := by decide +kernel
theorem d_R_turned_157 : decode b_R_turned 157 = .ok (.iconst 1, 1) := by decide +kernel
theorem d_R_turned_158 : decode b_R_turned 158 = .ok (.iand, 1) := by decide +kernel
theorem d_R_turned_159 : decode b_R_turned 159 = .ok (.istore 5, 2) := by decide +kernel
theorem d_R_turned_161 : decode b_R_turned 161 = .ok (.goto 28, 3) := by decide +kernel
theorem d_R_turned_164 : decode b_R_turned 164 = .ok (.iload_n 2, 1) := by decide +kernel
theorem d_R_turned_165 : decode b_R_turned 165 = .ok (.iconst 4, 1) := by decide +kernel
theorem d_R_turned_166 : decode b_R_turned 166 = .ok (.ishl, 1) := by decide +kernel
theorem d_R_turned_167 : decode b_R_turned 167 = .ok (.iload_n 2, 1) := by decide +kernel
theorem d_R_turned_168 : decode b_R_turned 168 = .ok (.iconst 4, 1) := by decide +kernel
theorem d_R_turned_169 : decode b_R_turned 169 = .ok (.ishr, 1) := by decide +kernel
theorem d_R_turned_170 : decode b_R_turned 170 = .ok (.ior, 1) := by decide +kernel
theorem d_R_turned_171 : decode b_R_turned 171 = .ok (.istore 4, 2) := by decide +kernel
theorem d_R_turned_173 : decode b_R_turned 173 = .ok (.iconst 0, 1) := by decide +kernel
theorem d_R_turned_174 : decode b_R_turned 174 = .ok (.istore 5, 2) := by decide +kernel
theorem d_R_turned_176 : decode b_R_turned 176 = .ok (.goto 13, 3) := by decide +kernel
theorem d_R_turned_179 : decode b_R_turned 179 = .ok (.iload_n 2, 1) := by decide +kernel
theorem d_R_turned_180 : decode b_R_turned 180 = .ok (.iconst 1, 1) := by decide +kernel
theorem d_R_turned_181 : decode b_R_turned 181 = .ok (.ishr, 1) := by decide +kernel
theorem d_R_turned_182 : decode b_R_turned 182 = .ok (.istore 4, 2) := by decide +kernel
theorem d_R_turned_184 : decode b_R_turned 184 = .ok (.iload_n 2, 1) := by decide +kernel
theorem d_R_turned_185 : decode b_R_turned 185 = .ok (.iconst 1, 1) := by decide +kernel
theorem d_R_turned_186 : decode b_R_turned 186 = .ok (.iand, 1) := by decide +kernel
theorem d_R_turned_187 : decode b_R_turned 187 = .ok (.istore 5, 2) := by decide +kernel
theorem d_R_turned_189 : decode b_R_turned 189 = .ok (.iload 4, 2) := by decide +kernel
theorem d_R_turned_191 : decode b_R_turned 191 = .ok (.sipush 255, 3) := by decide +kernel
theorem d_R_turned_194 : decode b_R_turned 194 = .ok (.iand, 1) := by decide +kernel
theorem d_R_turned_195 : decode b_R_turned 195 = .ok (.istore 4, 2) := by decide +kernel
theorem d_R_turned_197 : decode b_R_turned 197 = .ok (.aload_n 0, 1) := by decide +kernel
theorem d_R_turned_198 : decode b_R_turned 198 = .ok (.iload 4, 2) := by decide +kernel
theorem d_R_turned_200 : decode b_R_turned 200 = .ok (.ifCond .ne 7, 3) := by decide +kernel
theorem d_R_turned_203 : decode b_R_turned 203 = .ok (.iconst 1, 1) := by decide +kernel
theorem d_R_turned_204 : decode b_R_turned 204 = .ok (.goto 4, 3) := by decide +kernel
theorem d_R_turned_207 : decode b_R_turned 207 = .ok (.iconst 0, 1) := by decide +kernel
theorem d_R_turned_208 : decode b_R_turned 208 = .ok (.iconst 0, 1) := by decide +kernel
theorem d_R_turned_209 : decode b_R_turned 209 = .ok (.iconst 0, 1) := by decide +kernel
theorem d_R_turned_210 : decode b_R_turned 210 = .ok (.iload 5, 2) := by decide +kernel
theorem d_R_turned_212 : decode b_R_turned 212 = .ok (.iconst 1, 1) := by decide +kernel
theorem d_R_turned_213 : decode b_R_turned 213 = .ok (.if_icmp .ne 7, 3) := by decide +kernel
theorem d_R_turned_216 : decode b_R_turned 216 = .ok (.iconst 1, 1) := by decide +kernel
theorem d_R_turned_217 : decode b_R_turned 217 = .ok (.goto 4, 3) := by decide +kernel
theorem d_R_turned_220 : decode b_R_turned 220 = .ok (.iconst 0, 1) := by decide +kernel
theorem d_R_turned_221 : decode b_R_turned 221 = .ok (.invokevirtual 231, 3) := by decide +kernel
theorem d_R_turned_224 : decode b_R_turned 224 = .ok (.iload 4, 2) := by decide +kernel
theorem d_R_turned_226 : decode b_R_turned 226 = .ok (.ireturn, 1) := by decide +kernel
theorem d_R_adjusts_0 : decode b_R_adjusts 0 = .ok (.aload_n 0, 1) := by decide +kernel
theorem d_R_adjusts_1 : decode b_R_adjusts 1 = .ok (.getfield 31, 3) := by decide +kernel
theorem d_R_adjusts_4 : decode b_R_adjusts 4 = .ok (.bipush 7, 2) := by decide +kernel
theorem d_R_adjusts_6 : decode b_R_adjusts 6 = .ok (.iaload, 1) := by decide +kernel
theorem d_R_adjusts_7 : decode b_R_adjusts 7 = .ok (.istore_n 1, 1) := by decide +kernel
theorem d_R_adjusts_8 : decode b_R_adjusts 8 = .ok (.iload_n 1, 1) := by decide +kernel
theorem d_R_adjusts_9 : decode b_R_adjusts 9 = .ok (.bipush 15, 2) := by decide +kernel
theorem d_R_adjusts_11 : decode b_R_adjusts 11 = .ok (.iand, 1) := by decide +kernel
theorem d_R_adjusts_12 : decode b_R_adjusts 12 = .ok (.istore_n 2, 1) := by decide +kernel
theorem d_R_adjusts_13 : decode b_R_adjusts 13 = .ok (.iload_n 1, 1) := by decide +kernel
theorem d_R_adjusts_14 : decode b_R_adjusts 14 = .ok (.istore_n 3, 1) := by decide +kernel
theorem d_R_adjusts_15 : decode b_R_adjusts 15 = .ok (.aload_n 0, 1) := by decide +kernel
theorem d_R_adjusts_16 : decode b_R_adjusts 16 = .ok (.bipush 16, 2) := by decide +kernel
theorem d_R_adjusts_18 : decode b_R_adjusts 18 = .ok (.invokevirtual 227, 3) := by decide +kernel
theorem d_R_adjusts_21 : decode b_R_adjusts 21 = .ok (.istore 4, 2) := by decide +kernel
theorem d_R_adjusts_23 : decode b_R_adjusts 23 = .ok (.aload_n 0, 1) := by decide +kernel
theorem d_R_adjusts_24 : decode b_R_adjusts 24 = .ok (.bipush 64, 2) := by decide +kernel
theorem d_R_adjusts_26 : decode b_R_adjusts 26 = .ok (.invokevirtual 227, 3) := by decide +kernel
theorem d_R_adjusts_29 : decode b_R_adjusts 29 = .ok (.ifCond .eq 26, 3) := by decide +kernel
theorem d_R_adjusts_32 : decode b_R_adjusts 32 = .ok (.iload 4, 2) := by decide +kernel
theorem d_R_adjusts_34 : decode b_R_adjusts 34 = .ok (.ifCond .eq 6, 3) := by decide +kernel
theorem d_R_adjusts_37 : decode b_R_adjusts 37 = .ok (.iinc 3 (-96), 3) := by decide +kernel
theorem d_R_adjusts_40 : decode b_R_adjusts 40 = .ok (.aload_n 0, 1) := by decide +kernel
theorem d_R_adjusts_41 : decode b_R_adjusts 41 = .ok (.bipush 32, 2) := by decide +kernel
theorem d_R_adjusts_43 : decode b_R_adjusts 43 = .ok (.invokevirtual 227, 3) := by decide +kernel
theorem d_R_adjusts_46 : decode b_R_adjusts 46 = .ok (.ifCond .eq 45, 3) := by decide +kernel
theorem d_R_adjusts_49 : decode b_R_adjusts 49 = .ok (.iinc 3 (-6), 3) := by decide +kernel
theorem d_R_adjusts_52 : decode b_R_adjusts 52 = .ok (.goto 39, 3) := by decide +kernel
theorem d_R_adjusts_55 : decode b_R_adjusts 55 = .ok (.iload 4, 2) := by decide +kernel
theorem d_R_adjusts_57 : decode b_R_adjusts 57 = .ok (.ifCond .ne 10, 3) := by decide +kernel
theorem d_R_adjusts_60 : decode b_R_adjusts 60 = .ok (.iload_n 1, 1) := by decide +kernel
theorem d_R_adjusts_61 : decode b_R_adjusts 61 = .ok (.sipush 153, 3) := by decide +kernel
theorem d_R_adjusts_64 : decode b_R_adjusts 64 = .ok (.if_icmp .le 9, 3) := by decide +kernel
theorem d_R_adjusts_67 : decode b_R_adjusts 67 = .ok (.iinc 3 96, 3) := by decide +kernel
theorem d_R_adjusts_70 : decode b_R_adjusts 70 = .ok (.iconst 1, 1) := by decide +kernel
theorem d_R_adjusts_71 : decode b_R_adjusts 71 = .ok (.istore 4, 2) := by decide +kernel
theorem d_R_adjusts_73 : decode b_R_adjusts 73 = .ok (.aload_n 0, 1) := by decide +kernel
theorem d_R_adjusts_74 : decode b_R_adjusts 74 = .ok (.bipush 32, 2) := by decide +kernel
theorem d_R_adjusts_76 : decode b_R_adjusts 76 = .ok (.invokevirtual 227, 3) := by decide +kernel
theorem d_R_adjusts_79 : decode b_R_adjusts 79 = .ok (.ifCond .ne 9, 3) := by decide +kernel
theorem d_R_adjusts_82 : decode b_R_adjusts 82 = .ok (.iload_n 2, 1) := by decide +kernel
theorem d_R_adjusts_83 : decode b_R_adjusts 83 = .ok (.bipush 9, 2) := by decide +kernel
theorem d_R_adjusts_85 : decode b_R_adjusts 85 = .ok (.if_icmp .le 6, 3) := by decide +kernel
theorem d_R_adjusts_88 : decode b_R_adjusts 88 = .ok (.iinc 3 6, 3) := by decide +kernel
theorem d_R_adjusts_91 : decode b_R_adjusts 91 = .ok (.aload_n 0, 1) := by decide +kernel
theorem d_R_adjusts_92 : decode b_R_adjusts 92 = .ok (.getfield 31, 3) := by decide +kernel
theorem d_R_adjusts_95 : decode b_R_adjusts 95 = .ok (.bipush 7, 2) := by decide +kernel
theorem d_R_adjusts_97 : decode b_R_adjusts 97 = .ok (.iload_n 3, 1) := by decide +kernel
theorem d_R_adjusts_98 : decode b_R_adjusts 98 = .ok (.sipush 255, 3) := by decide +kernel
theorem d_R_adjusts_101 : decode b_R_adjusts 101 = .ok (.iand, 1) := by decide +kernel
theorem d_R_adjusts_102 : decode b_R_adjusts 102 = .ok (.iastore, 1) := by decide +kernel
theorem d_R_adjusts_103 : decode b_R_adjusts 103 = .ok (.aload_n 0, 1) := by decide +kernel
theorem d_R_adjusts_104 : decode b_R_adjusts 104 = .ok (.aload_n 0, 1) := by decide +kernel
theorem d_R_adjusts_105 : decode b_R_adjusts 105 = .ok (.getfield 31, 3) := by decide +kernel
theorem d_R_adjusts_108 : decode b_R_adjusts 108 = .ok (.bipush 7, 2) := by decide +kernel
theorem d_R_adjusts_110 : decode b_R_adjusts 110 = .ok (.iaload, 1) := by decide +kernel
theorem d_R_adjusts_111 : decode b_R_adjusts 111 = .ok (.ifCond .ne 7, 3) := by decide +kernel
theorem d_R_adjusts_114 : decode b_R_adjusts 114 = .ok (.iconst 1, 1) := by decide +kernel
theorem d_R_adjusts_115 : decode b_R_adjusts 115 = .ok (.goto 4, 3) := by decide +kernel
theorem d_R_adjusts_118 : decode b_R_adjusts 118 = .ok (.iconst 0, 1) := by decide +kernel
theorem d_R_adjusts_119 : decode b_R_adjusts 119 = .ok (.aload_n 0, 1) := by decide +kernel
theorem d_R_adjusts_120 : decode b_R_adjusts 120 = .ok (.bipush 64, 2) := by decide +kernel
theorem d_R_adjusts_122 : decode b_R_adjusts 122 = .ok (.invokevirtual 227, 3) := by decide +kernel
theorem d_R_adjusts_125 : decode b_R_adjusts 125 = .ok (.iconst 0, 1) := by decide +kernel
theorem d_R_adjusts_126 : decode b_R_adjusts 126 = .ok (.iload 4, 2) := by decide +kernel
theorem d_R_adjusts_128 : decode b_R_adjusts 128 = .ok (.invokevirtual 231, 3) := by decide +kernel
theorem d_R_adjusts_131 : decode b_R_adjusts 131 = .ok (.return_, 1) := by decide +kernel
theorem d_R_jumps_0 : decode b_R_jumps 0 = .ok (.iload_n 1, 1) := by decide +kernel
theorem d_R_jumps_1 : decode b_R_jumps 1 = .ok (.ifCond .ne 4, 3) := by decide +kernel
theorem d_R_jumps_4 : decode b_R_jumps 4 = .ok (.return_, 1) := by decide +kernel
theorem d_R_jumps_5 : decode b_R_jumps 5 = .ok (.aload_n 0, 1) := by decide +kernel
theorem d_R_jumps_6 : decode b_R_jumps 6 = .ok (.iload_n 2, 1) := by decide +kernel
theorem d_R_jumps_7 : decode b_R_jumps 7 = .ok (.ldc 194, 2) := by decide +kernel
theorem d_R_jumps_9 : decode b_R_jumps 9 = .ok (.iand, 1) := by decide +kernel
theorem d_R_jumps_10 : decode b_R_jumps 10 = .ok (.putfield 71, 3) := by decide +kernel
theorem d_R_jumps_13 : decode b_R_jumps 13 = .ok (.aload_n 0, 1) := by decide +kernel
theorem d_R_jumps_14 : decode b_R_jumps 14 = .ok (.dup, 1) := by decide +kernel
theorem d_R_jumps_15 : decode b_R_jumps 15 = .ok (.getfield 209, 3) := by decide +kernel
theorem d_R_jumps_18 : decode b_R_jumps 18 = .ok (.iconst 1, 1) := by decide +kernel
theorem d_R_jumps_19 : decode b_R_jumps 19 = .ok (.iadd, 1) := by decide +kernel
theorem d_R_jumps_20 : decode b_R_jumps 20 = .ok (.putfield 209, 3) := by decide +kernel
theorem d_R_jumps_23 : decode b_R_jumps 23 = .ok (.return_, 1) := by decide +kernel
theorem d_R_calls_0 : decode b_R_calls 0 = .ok (.iload_n 1, 1) := by decide +kernel
theorem d_R_calls_1 : decode b_R_calls 1 = .ok (.ifCond .ne 4, 3) := by decide +kernel
theorem d_R_calls_4 : decode b_R_calls 4 = .ok (.return_, 1) := by decide +kernel
theorem d_R_calls_5 : decode b_R_calls 5 = .ok (.aload_n 0, 1) := by decide +kernel
theorem d_R_calls_6 : decode b_R_calls 6 = .ok (.aload_n 0, 1) := by decide +kernel
theorem d_R_calls_7 : decode b_R_calls 7 = .ok (.getfield 71, 3) := by decide +kernel
theorem d_R_calls_10 : decode b_R_calls 10 = .ok (.invokevirtual 235, 3) := by decide +kernel
theorem d_R_calls_13 : decode b_R_calls 13 = .ok (.aload_n 0, 1) := by decide +kernel
theorem d_R_calls_14 : decode b_R_calls 14 = .ok (.iload_n 2, 1) := by decide +kernel
theorem d_R_calls_15 : decode b_R_calls 15 = .ok (.putfield 71, 3) := by decide +kernel
theorem d_R_calls_18 : decode b_R_calls 18 = .ok (.aload_n 0, 1) := by decide +kernel
theorem d_R_calls_19 : decode b_R_calls 19 = .ok (.dup, 1) := by decide +kernel
theorem d_R_calls_20 : decode b_R_calls 20 = .ok (.getfield 209, 3) := by decide +kernel
theorem d_R_calls_23 : decode b_R_calls 23 = .ok (.iconst 1, 1) := by decide +kernel
theorem d_R_calls_24 : decode b_R_calls 24 = .ok (.iadd, 1) := by decide +kernel
theorem d_R_calls_25 : decode b_R_calls 25 = .ok (.putfield 209, 3) := by decide +kernel
theorem d_R_calls_28 : decode b_R_calls 28 = .ok (.return_, 1) := by decide +kernel
theorem d_R_accumulator_0 : decode b_R_accumulator 0 = .ok (.iload_n 1, 1) := by decide +kernel
theorem d_R_accumulator_1 : decode b_R_accumulator 1 = .ok (.tableswitch 111 4 7 #[31, 38, 68, 68], 31) := by decide +kernel
theorem d_R_accumulator_32 : decode b_R_accumulator 32 = .ok (.aload_n 0, 1) := by decide +kernel
theorem d_R_accumulator_33 : decode b_R_accumulator 33 = .ok (.invokevirtual 268, 3) := by decide +kernel
theorem d_R_accumulator_36 : decode b_R_accumulator 36 = .ok (.goto 103, 3) := by decide +kernel
theorem d_R_accumulator_39 : decode b_R_accumulator 39 = .ok (.aload_n 0, 1) := by decide +kernel
theorem d_R_accumulator_40 : decode b_R_accumulator 40 = .ok (.getfield 31, 3) := by decide +kernel
theorem d_R_accumulator_43 : decode b_R_accumulator 43 = .ok (.bipush 7, 2) := by decide +kernel
theorem d_R_accumulator_45 : decode b_R_accumulator 45 = .ok (.dup2, 1) := by decide +kernel
theorem d_R_accumulator_46 : decode b_R_accumulator 46 = .ok (.iaload, 1) := by decide +kernel
theorem d_R_accumulator_47 : decode b_R_accumulator 47 = .ok (.sipush 255, 3) := by decide +kernel
theorem d_R_accumulator_50 : decode b_R_accumulator 50 = .ok (.ixor, 1) := by decide +kernel
theorem d_R_accumulator_51 : decode b_R_accumulator 51 = .ok (.iastore, 1) := by decide +kernel
theorem d_R_accumulator_52 : decode b_R_accumulator 52 = .ok (.aload_n 0, 1) := by decide +kernel
theorem d_R_accumulator_53 : decode b_R_accumulator 53 = .ok (.bipush 64, 2) := by decide +kernel
theorem d_R_accumulator_55 : decode b_R_accumulator 55 = .ok (.iconst 1, 1) := by decide +kernel
theorem d_R_accumulator_56 : decode b_R_accumulator 56 = .ok (.invokevirtual 255, 3) := by decide +kernel
theorem d_R_accumulator_59 : decode b_R_accumulator 59 = .ok (.aload_n 0, 1) := by decide +kernel
theorem d_R_accumulator_60 : decode b_R_accumulator 60 = .ok (.bipush 32, 2) := by decide +kernel
theorem d_R_accumulator_62 : decode b_R_accumulator 62 = .ok (.iconst 1, 1) := by decide +kernel
theorem d_R_accumulator_63 : decode b_R_accumulator 63 = .ok (.invokevirtual 255, 3) := by decide +kernel
theorem d_R_accumulator_66 : decode b_R_accumulator 66 = .ok (.goto 73, 3) := by decide +kernel
theorem d_R_accumulator_69 : decode b_R_accumulator 69 = .ok (.aload_n 0, 1) := by decide +kernel
theorem d_R_accumulator_70 : decode b_R_accumulator 70 = .ok (.bipush 16, 2) := by decide +kernel
theorem d_R_accumulator_72 : decode b_R_accumulator 72 = .ok (.iload_n 1, 1) := by decide +kernel
theorem d_R_accumulator_73 : decode b_R_accumulator 73 = .ok (.bipush 6, 2) := by decide +kernel
theorem d_R_accumulator_75 : decode b_R_accumulator 75 = .ok (.if_icmp .eq 12, 3) := by decide +kernel
theorem d_R_accumulator_78 : decode b_R_accumulator 78 = .ok (.aload_n 0, 1) := by decide +kernel
theorem d_R_accumulator_79 : decode b_R_accumulator 79 = .ok (.bipush 16, 2) := by decide +kernel
theorem d_R_accumulator_81 : decode b_R_accumulator 81 = .ok (.invokevirtual 227, 3) := by decide +kernel
theorem d_R_accumulator_84 : decode b_R_accumulator 84 = .ok (.ifCond .ne 7, 3) := by decide +kernel
theorem d_R_accumulator_87 : decode b_R_accumulator 87 = .ok (.iconst 1, 1) := by decide +kernel
theorem d_R_accumulator_88 : decode b_R_accumulator 88 = .ok (.goto 4, 3) := by decide +kernel
theorem d_R_accumulator_91 : decode b_R_accumulator 91 = .ok (.iconst 0, 1) := by decide +kernel
theorem d_R_accumulator_92 : decode b_R_accumulator 92 = .ok (.invokevirtual 255, 3) := by decide +kernel
theorem d_R_accumulator_95 : decode b_R_accumulator 95 = .ok (.aload_n 0, 1) := by decide +kernel
theorem d_R_accumulator_96 : decode b_R_accumulator 96 = .ok (.bipush 64, 2) := by decide +kernel
theorem d_R_accumulator_98 : decode b_R_accumulator 98 = .ok (.iconst 0, 1) := by decide +kernel
theorem d_R_accumulator_99 : decode b_R_accumulator 99 = .ok (.invokevirtual 255, 3) := by decide +kernel
theorem d_R_accumulator_102 : decode b_R_accumulator 102 = .ok (.aload_n 0, 1) := by decide +kernel
theorem d_R_accumulator_103 : decode b_R_accumulator 103 = .ok (.bipush 32, 2) := by decide +kernel
theorem d_R_accumulator_105 : decode b_R_accumulator 105 = .ok (.iconst 0, 1) := by decide +kernel
theorem d_R_accumulator_106 : decode b_R_accumulator 106 = .ok (.invokevirtual 255, 3) := by decide +kernel
theorem d_R_accumulator_109 : decode b_R_accumulator 109 = .ok (.goto 30, 3) := by decide +kernel
theorem d_R_accumulator_112 : decode b_R_accumulator 112 = .ok (.aload_n 0, 1) := by decide +kernel
theorem d_R_accumulator_113 : decode b_R_accumulator 113 = .ok (.getfield 31, 3) := by decide +kernel
theorem d_R_accumulator_116 : decode b_R_accumulator 116 = .ok (.bipush 7, 2) := by decide +kernel
theorem d_R_accumulator_118 : decode b_R_accumulator 118 = .ok (.aload_n 0, 1) := by decide +kernel
theorem d_R_accumulator_119 : decode b_R_accumulator 119 = .ok (.iload_n 1, 1) := by decide +kernel
theorem d_R_accumulator_120 : decode b_R_accumulator 120 = .ok (.aload_n 0, 1) := by decide +kernel
theorem d_R_accumulator_121 : decode b_R_accumulator 121 = .ok (.getfield 31, 3) := by decide +kernel
theorem d_R_accumulator_124 : decode b_R_accumulator 124 = .ok (.bipush 7, 2) := by decide +kernel
theorem d_R_accumulator_126 : decode b_R_accumulator 126 = .ok (.iaload, 1) := by decide +kernel
theorem d_R_accumulator_127 : decode b_R_accumulator 127 = .ok (.invokevirtual 271, 3) := by decide +kernel
theorem d_R_accumulator_130 : decode b_R_accumulator 130 = .ok (.iastore, 1) := by decide +kernel
theorem d_R_accumulator_131 : decode b_R_accumulator 131 = .ok (.aload_n 0, 1) := by decide +kernel
theorem d_R_accumulator_132 : decode b_R_accumulator 132 = .ok (.sipush 128, 3) := by decide +kernel
theorem d_R_accumulator_135 : decode b_R_accumulator 135 = .ok (.iconst 0, 1) := by decide +kernel
theorem d_R_accumulator_136 : decode b_R_accumulator 136 = .ok (.invokevirtual 255, 3) := by decide +kernel
theorem d_R_accumulator_139 : decode b_R_accumulator 139 = .ok (.return_, 1) := by decide +kernel
theorem d_R_first_0 : decode b_R_first 0 = .ok (.iload_n 1, 1) := by decide +kernel
theorem d_R_first_1 : decode b_R_first 1 = .ok (.iconst 1, 1) := by decide +kernel
theorem d_R_first_2 : decode b_R_first 2 = .ok (.iand, 1) := by decide +kernel
theorem d_R_first_3 : decode b_R_first 3 = .ok (.istore_n 3, 1) := by decide +kernel
theorem d_R_first_4 : decode b_R_first 4 = .ok (.iload_n 1, 1) := by decide +kernel
theorem d_R_first_5 : decode b_R_first 5 = .ok (.iconst 1, 1) := by decide +kernel
theorem d_R_first_6 : decode b_R_first 6 = .ok (.ishr, 1) := by decide +kernel
theorem d_R_first_7 : decode b_R_first 7 = .ok (.istore 4, 2) := by decide +kernel
theorem d_R_first_9 : decode b_R_first 9 = .ok (.iload_n 2, 1) := by decide +kernel
theorem d_R_first_10 : decode b_R_first 10 = .ok (.tableswitch 502 0 6 #[42, 147, 260, 346, 388, 388, 490], 42) := by decide +kernel
theorem d_R_first_52 : decode b_R_first 52 = .ok (.iload_n 1, 1) := by decide +kernel
theorem d_R_first_53 : decode b_R_first 53 = .ok (.iconst 1, 1) := by decide +kernel
theorem d_R_first_54 : decode b_R_first 54 = .ok (.if_icmp .ne 37, 3) := by decide +kernel
theorem d_R_first_57 : decode b_R_first 57 = .ok (.aload_n 0, 1) := by decide +kernel
theorem d_R_first_58 : decode b_R_first 58 = .ok (.invokevirtual 239, 3) := by decide +kernel
theorem d_R_first_61 : decode b_R_first 61 = .ok (.istore 5, 2) := by decide +kernel
theorem d_R_first_63 : decode b_R_first 63 = .ok (.aload_n 0, 1) := by decide +kernel
theorem d_R_first_64 : decode b_R_first 64 = .ok (.iload 5, 2) := by decide +kernel
theorem d_R_first_66 : decode b_R_first 66 = .ok (.aload_n 0, 1) := by decide +kernel
theorem d_R_first_67 : decode b_R_first 67 = .ok (.getfield 68, 3) := by decide +kernel
theorem d_R_first_70 : decode b_R_first 70 = .ok (.invokevirtual 224, 3) := by decide +kernel
theorem d_R_first_73 : decode b_R_first 73 = .ok (.aload_n 0, 1) := by decide +kernel
theorem d_R_first_74 : decode b_R_first 74 = .ok (.iload 5, 2) := by decide +kernel
theorem d_R_first_76 : decode b_R_first 76 = .ok (.iconst 1, 1) := by decide +kernel
theorem d_R_first_77 : decode b_R_first 77 = .ok (.iadd, 1) := by decide +kernel
theorem d_R_first_78 : decode b_R_first 78 = .ok (.aload_n 0, 1) := by decide +kernel
theorem d_R_first_79 : decode b_R_first 79 = .ok (.getfield 68, 3) := by decide +kernel
theorem d_R_first_82 : decode b_R_first 82 = .ok (.bipush 8, 2) := by decide +kernel
theorem d_R_first_84 : decode b_R_first 84 = .ok (.ishr, 1) := by decide +kernel
theorem d_R_first_85 : decode b_R_first 85 = .ok (.invokevirtual 224, 3) := by decide +kernel
theorem d_R_first_88 : decode b_R_first 88 = .ok (.goto 429, 3) := by decide +kernel
theorem d_R_first_91 : decode b_R_first 91 = .ok (.iload_n 1, 1) := by decide +kernel
theorem d_R_first_92 : decode b_R_first 92 = .ok (.iconst 2, 1) := by decide +kernel
theorem d_R_first_93 : decode b_R_first 93 = .ok (.if_icmp .ne 16, 3) := by decide +kernel
theorem d_R_first_96 : decode b_R_first 96 = .ok (.aload_n 0, 1) := by decide +kernel
theorem d_R_first_97 : decode b_R_first 97 = .ok (.invokevirtual 218, 3) := by decide +kernel
theorem d_R_first_100 : decode b_R_first 100 = .ok (.pop, 1) := by decide +kernel
theorem d_R_first_101 : decode b_R_first 101 = .ok (.aload_n 0, 1) := by decide +kernel
theorem d_R_first_102 : decode b_R_first 102 = .ok (.iconst 0, 1) := by decide +kernel
theorem d_R_first_103 : decode b_R_first 103 = .ok (.putfield 89, 3) := by decide +kernel
theorem d_R_first_106 : decode b_R_first 106 = .ok (.goto 411, 3) := by decide +kernel
theorem d_R_first_109 : decode b_R_first 109 = .ok (.iload_n 1, 1) := by decide +kernel
theorem d_R_first_110 : decode b_R_first 110 = .ok (.iconst 2, 1) := by decide +kernel
theorem d_R_first_111 : decode b_R_first 111 = .ok (.if_icmp .le 406, 3) := by decide +kernel
theorem d_R_first_114 : decode b_R_first 114 = .ok (.aload_n 0, 1) := by decide +kernel
theorem d_R_first_115 : decode b_R_first 115 = .ok (.invokevirtual 218, 3) := by decide +kernel
theorem d_R_first_118 : decode b_R_first 118 = .ok (.invokestatic 242, 3) := by decide +kernel
theorem d_R_first_121 : decode b_R_first 121 = .ok (.istore 5, 2) := by decide +kernel
theorem d_R_first_123 : decode b_R_first 123 = .ok (.aload_n 0, 1) := by decide +kernel
theorem d_R_first_124 : decode b_R_first 124 = .ok (.iload_n 1, 1) := by decide +kernel
theorem d_R_first_125 : decode b_R_first 125 = .ok (.iconst 3, 1) := by decide +kernel
theorem d_R_first_126 : decode b_R_first 126 = .ok (.if_icmp .eq 13, 3) := by decide +kernel
theorem d_R_first_129 : decode b_R_first 129 = .ok (.aload_n 0, 1) := by decide +kernel
theorem d_R_first_130 : decode b_R_first 130 = .ok (.iload_n 1, 1) := by decide +kernel
theorem d_R_first_131 : decode b_R_first 131 = .ok (.iconst 4, 1) := by decide +kernel
theorem d_R_first_132 : decode b_R_first 132 = .ok (.isub, 1) := by decide +kernel
theorem d_R_first_133 : decode b_R_first 133 = .ok (.invokevirtual 245, 3) := by decide +kernel
theorem d_R_first_136 : decode b_R_first 136 = .ok (.ifCond .eq 7, 3) := by decide +kernel
theorem d_R_first_139 : decode b_R_first 139 = .ok (.iconst 1, 1) := by decide +kernel
theorem d_R_first_140 : decode b_R_first 140 = .ok (.goto 4, 3) := by decide +kernel
theorem d_R_first_143 : decode b_R_first 143 = .ok (.iconst 0, 1) := by decide +kernel
theorem d_R_first_144 : decode b_R_first 144 = .ok (.aload_n 0, 1) := by decide +kernel
theorem d_R_first_145 : decode b_R_first 145 = .ok (.getfield 71, 3) := by decide +kernel
theorem d_R_first_148 : decode b_R_first 148 = .ok (.iload 5, 2) := by decide +kernel
theorem d_R_first_150 : decode b_R_first 150 = .ok (.iadd, 1) := by decide +kernel
theorem d_R_first_151 : decode b_R_first 151 = .ok (.invokevirtual 248, 3) := by decide +kernel
theorem d_R_first_154 : decode b_R_first 154 = .ok (.goto 363, 3) := by decide +kernel
theorem d_R_first_157 : decode b_R_first 157 = .ok (.iload_n 3, 1) := by decide +kernel
theorem d_R_first_158 : decode b_R_first 158 = .ok (.ifCond .ne 16, 3) := by decide +kernel
theorem d_R_first_161 : decode b_R_first 161 = .ok (.aload_n 0, 1) := by decide +kernel
theorem d_R_first_162 : decode b_R_first 162 = .ok (.iload 4, 2) := by decide +kernel
theorem d_R_first_164 : decode b_R_first 164 = .ok (.aload_n 0, 1) := by decide +kernel
theorem d_R_first_165 : decode b_R_first 165 = .ok (.invokevirtual 239, 3) := by decide +kernel
theorem d_R_first_168 : decode b_R_first 168 = .ok (.invokevirtual 252, 3) := by decide +kernel
theorem d_R_first_171 : decode b_R_first 171 = .ok (.goto 346, 3) := by decide +kernel
theorem d_R_first_174 : decode b_R_first 174 = .ok (.aload_n 0, 1) := by decide +kernel
theorem d_R_first_175 : decode b_R_first 175 = .ok (.iconst 2, 1) := by decide +kernel
theorem d_R_first_176 : decode b_R_first 176 = .ok (.invokevirtual 221, 3) := by decide +kernel
theorem d_R_first_179 : decode b_R_first 179 = .ok (.istore 5, 2) := by decide +kernel
theorem d_R_first_181 : decode b_R_first 181 = .ok (.aload_n 0, 1) := by decide +kernel
theorem d_R_first_182 : decode b_R_first 182 = .ok (.iload 4, 2) := by decide +kernel
theorem d_R_first_184 : decode b_R_first 184 = .ok (.invokevirtual 221, 3) := by decide +kernel
theorem d_R_first_187 : decode b_R_first 187 = .ok (.istore 6, 2) := by decide +kernel
theorem d_R_first_189 : decode b_R_first 189 = .ok (.aload_n 0, 1) := by decide +kernel
theorem d_R_first_190 : decode b_R_first 190 = .ok (.bipush 64, 2) := by decide +kernel
theorem d_R_first_192 : decode b_R_first 192 = .ok (.iconst 0, 1) := by decide +kernel
theorem d_R_first_193 : decode b_R_first 193 = .ok (.invokevirtual 255, 3) := by decide +kernel
theorem d_R_first_196 : decode b_R_first 196 = .ok (.aload_n 0, 1) := by decide +kernel
theorem d_R_first_197 : decode b_R_first 197 = .ok (.bipush 32, 2) := by decide +kernel
theorem d_R_first_199 : decode b_R_first 199 = .ok (.iload 5, 2) := by decide +kernel
theorem d_R_first_201 : decode b_R_first 201 = .ok (.sipush 4095, 3) := by decide +kernel
theorem d_R_first_204 : decode b_R_first 204 = .ok (.iand, 1) := by decide +kernel
theorem d_R_first_205 : decode b_R_first 205 = .ok (.iload 6, 2) := by decide +kernel
theorem d_R_first_207 : decode b_R_first 207 = .ok (.sipush 4095, 3) := by decide +kernel
theorem d_R_first_210 : decode b_R_first 210 = .ok (.iand, 1) := by decide +kernel
theorem d_R_first_211 : decode b_R_first 211 = .ok (.iadd, 1) := by decide +kernel
theorem d_R_first_212 : decode b_R_first 212 = .ok (.sipush 4095, 3) := by decide +kernel
theorem d_R_first_215 : decode b_R_first 215 = .ok (.if_icmp .le 7, 3) := by decide +kernel
theorem d_R_first_218 : decode b_R_first 218 = .ok (.iconst 1, 1) := by decide +kernel
theorem d_R_first_219 : decode b_R_first 219 = .ok (.goto 4, 3) := by decide +kernel
theorem d_R_first_222 : decode b_R_first 222 = .ok (.iconst 0, 1) := by decide +kernel
theorem d_R_first_223 : decode b_R_first 223 = .ok (.invokevirtual 255, 3) := by decide +kernel
theorem d_R_first_226 : decode b_R_first 226 = .ok (.aload_n 0, 1) := by decide +kernel
theorem d_R_first_227 : decode b_R_first 227 = .ok (.bipush 16, 2) := by decide +kernel
theorem d_R_first_229 : decode b_R_first 229 = .ok (.iload 5, 2) := by decide +kernel
theorem d_R_first_231 : decode b_R_first 231 = .ok (.iload 6, 2) := by decide +kernel
theorem d_R_first_233 : decode b_R_first 233 = .ok (.iadd, 1) := by decide +kernel
theorem d_R_first_234 : decode b_R_first 234 = .ok (.ldc 194, 2) := by decide +kernel
theorem d_R_first_236 : decode b_R_first 236 = .ok (.if_icmp .le 7, 3) := by decide +kernel
theorem d_R_first_239 : decode b_R_first 239 = .ok (.iconst 1, 1) := by decide +kernel
theorem d_R_first_240 : decode b_R_first 240 = .ok (.goto 4, 3) := by decide +kernel
theorem d_R_first_243 : decode b_R_first 243 = .ok (.iconst 0, 1) := by decide +kernel
theorem d_R_first_244 : decode b_R_first 244 = .ok (.invokevirtual 255, 3) := by decide +kernel
theorem d_R_first_247 : decode b_R_first 247 = .ok (.aload_n 0, 1) := by decide +kernel
theorem d_R_first_248 : decode b_R_first 248 = .ok (.iconst 2, 1) := by decide +kernel
theorem d_R_first_249 : decode b_R_first 249 = .ok (.iload 5, 2) := by decide +kernel
theorem d_R_first_251 : decode b_R_first 251 = .ok (.iload 6, 2) := by decide +kernel
theorem d_R_first_253 : decode b_R_first 253 = .ok (.iadd, 1) := by decide +kernel
theorem d_R_first_254 : decode b_R_first 254 = .ok (.invokevirtual 252, 3) := by decide +kernel
theorem d_R_first_257 : decode b_R_first 257 = .ok (.aload_n 0, 1) := by decide +kernel
theorem d_R_first_258 : decode b_R_first 258 = .ok (.dup, 1) := by decide +kernel
theorem d_R_first_259 : decode b_R_first 259 = .ok (.getfield 209, 3) := by decide +kernel
theorem d_R_first_262 : decode b_R_first 262 = .ok (.iconst 1, 1) := by decide +kernel
theorem d_R_first_263 : decode b_R_first 263 = .ok (.iadd, 1) := by decide +kernel
theorem d_R_first_264 : decode b_R_first 264 = .ok (.putfield 209, 3) := by decide +kernel
theorem d_R_first_267 : decode b_R_first 267 = .ok (.goto 250, 3) := by decide +kernel
theorem d_R_first_270 : decode b_R_first 270 = .ok (.iload 4, 2) := by decide +kernel
theorem d_R_first_272 : decode b_R_first 272 = .ok (.iconst 2, 1) := by decide +kernel
theorem d_R_first_273 : decode b_R_first 273 = .ok (.if_icmp .ge 12, 3) := by decide +kernel
theorem d_R_first_276 : decode b_R_first 276 = .ok (.aload_n 0, 1) := by decide +kernel
theorem d_R_first_277 : decode b_R_first 277 = .ok (.iload 4, 2) := by decide +kernel
theorem d_R_first_279 : decode b_R_first 279 = .ok (.invokevirtual 221, 3) := by decide +kernel
theorem d_R_first_282 : decode b_R_first 282 = .ok (.goto 8, 3) := by decide +kernel
theorem d_R_first_285 : decode b_R_first 285 = .ok (.aload_n 0, 1) := by decide +kernel
theorem d_R_first_286 : decode b_R_first 286 = .ok (.iconst 2, 1) := by decide +kernel
theorem d_R_first_287 : decode b_R_first 287 = .ok (.invokevirtual 221, 3) := by decide +kernel
theorem d_R_first_290 : decode b_R_first 290 = .ok (.istore 5, 2) := by decide +kernel
theorem d_R_first_292 : decode b_R_first 292 = .ok (.iload_n 3, 1) := by decide +kernel
theorem d_R_first_293 : decode b_R_first 293 = .ok (.ifCond .ne 19, 3) := by decide +kernel
theorem d_R_first_296 : decode b_R_first 296 = .ok (.aload_n 0, 1) := by decide +kernel
theorem d_R_first_297 : decode b_R_first 297 = .ok (.iload 5, 2) := by decide +kernel
theorem d_R_first_299 : decode b_R_first 299 = .ok (.aload_n 0, 1) := by decide +kernel
theorem d_R_first_300 : decode b_R_first 300 = .ok (.getfield 31, 3) := by decide +kernel
theorem d_R_first_303 : decode b_R_first 303 = .ok (.bipush 7, 2) := by decide +kernel
theorem d_R_first_305 : decode b_R_first 305 = .ok (.iaload, 1) := by decide +kernel
theorem d_R_first_306 : decode b_R_first 306 = .ok (.invokevirtual 224, 3) := by decide +kernel
theorem d_R_first_309 : decode b_R_first 309 = .ok (.goto 16, 3) := by decide +kernel
theorem d_R_first_312 : decode b_R_first 312 = .ok (.aload_n 0, 1) := by decide +kernel
theorem d_R_first_313 : decode b_R_first 313 = .ok (.getfield 31, 3) := by decide +kernel
theorem d_R_first_316 : decode b_R_first 316 = .ok (.bipush 7, 2) := by decide +kernel
theorem d_R_first_318 : decode b_R_first 318 = .ok (.aload_n 0, 1) := by decide +kernel
theorem d_R_first_319 : decode b_R_first 319 = .ok (.iload 5, 2) := by decide +kernel
theorem d_R_first_321 : decode b_R_first 321 = .ok (.invokevirtual 215, 3) := by decide +kernel
theorem d_R_first_324 : decode b_R_first 324 = .ok (.iastore, 1) := by decide +kernel
theorem d_R_first_325 : decode b_R_first 325 = .ok (.iload 4, 2) := by decide +kernel
theorem d_R_first_327 : decode b_R_first 327 = .ok (.iconst 1, 1) := by decide +kernel
theorem d_R_first_328 : decode b_R_first 328 = .ok (.if_icmp .le 189, 3) := by decide +kernel
theorem d_R_first_331 : decode b_R_first 331 = .ok (.aload_n 0, 1) := by decide +kernel
theorem d_R_first_332 : decode b_R_first 332 = .ok (.iconst 2, 1) := by decide +kernel
theorem d_R_first_333 : decode b_R_first 333 = .ok (.iload 4, 2) := by decide +kernel
theorem d_R_first_335 : decode b_R_first 335 = .ok (.iconst 2, 1) := by decide +kernel
theorem d_R_first_336 : decode b_R_first 336 = .ok (.if_icmp .ne 10, 3) := by decide +kernel
theorem d_R_first_339 : decode b_R_first 339 = .ok (.iload 5, 2) := by decide +kernel
theorem d_R_first_341 : decode b_R_first 341 = .ok (.iconst 1, 1) := by decide +kernel
theorem d_R_first_342 : decode b_R_first 342 = .ok (.iadd, 1) := by decide +kernel
theorem d_R_first_343 : decode b_R_first 343 = .ok (.goto 7, 3) := by decide +kernel
theorem d_R_first_346 : decode b_R_first 346 = .ok (.iload 5, 2) := by decide +kernel
theorem d_R_first_348 : decode b_R_first 348 = .ok (.iconst 1, 1) := by decide +kernel
theorem d_R_first_349 : decode b_R_first 349 = .ok (.isub, 1) := by decide +kernel
theorem d_R_first_350 : decode b_R_first 350 = .ok (.invokevirtual 252, 3) := by decide +kernel
theorem d_R_first_353 : decode b_R_first 353 = .ok (.goto 164, 3) := by decide +kernel
theorem d_R_first_356 : decode b_R_first 356 = .ok (.aload_n 0, 1) := by decide +kernel
theorem d_R_first_357 : decode b_R_first 357 = .ok (.iload 4, 2) := by decide +kernel
theorem d_R_first_359 : decode b_R_first 359 = .ok (.iload_n 3, 1) := by decide +kernel
theorem d_R_first_360 : decode b_R_first 360 = .ok (.ifCond .ne 14, 3) := by decide +kernel
theorem d_R_first_363 : decode b_R_first 363 = .ok (.aload_n 0, 1) := by decide +kernel
theorem d_R_first_364 : decode b_R_first 364 = .ok (.iload 4, 2) := by decide +kernel
theorem d_R_first_366 : decode b_R_first 366 = .ok (.invokevirtual 221, 3) := by decide +kernel
theorem d_R_first_369 : decode b_R_first 369 = .ok (.iconst 1, 1) := by decide +kernel
theorem d_R_first_370 : decode b_R_first 370 = .ok (.iadd, 1) := by decide +kernel
theorem d_R_first_371 : decode b_R_first 371 = .ok (.goto 11, 3) := by decide +kernel
theorem d_R_first_374 : decode b_R_first 374 = .ok (.aload_n 0, 1) := by decide +kernel
theorem d_R_first_375 : decode b_R_first 375 = .ok (.iload 4, 2) := by decide +kernel
theorem d_R_first_377 : decode b_R_first 377 = .ok (.invokevirtual 221, 3) := by decide +kernel
theorem d_R_first_380 : decode b_R_first 380 = .ok (.iconst 1, 1) := by decide +kernel
theorem d_R_first_381 : decode b_R_first 381 = .ok (.isub, 1) := by decide +kernel
theorem d_R_first_382 : decode b_R_first 382 = .ok (.invokevirtual 252, 3) := by decide +kernel
theorem d_R_first_385 : decode b_R_first 385 = .ok (.aload_n 0, 1) := by decide +kernel
theorem d_R_first_386 : decode b_R_first 386 = .ok (.dup, 1) := by decide +kernel
theorem d_R_first_387 : decode b_R_first 387 = .ok (.getfield 209, 3) := by decide +kernel
theorem d_R_first_390 : decode b_R_first 390 = .ok (.iconst 1, 1) := by decide +kernel
theorem d_R_first_391 : decode b_R_first 391 = .ok (.iadd, 1) := by decide +kernel
theorem d_R_first_392 : decode b_R_first 392 = .ok (.putfield 209, 3) := by decide +kernel
theorem d_R_first_395 : decode b_R_first 395 = .ok (.goto 122, 3) := by decide +kernel
theorem d_R_first_398 : decode b_R_first 398 = .ok (.aload_n 0, 1) := by decide +kernel
theorem d_R_first_399 : decode b_R_first 399 = .ok (.iload_n 1, 1) := by decide +kernel
theorem d_R_first_400 : decode b_R_first 400 = .ok (.invokevirtual 259, 3) := by decide +kernel
theorem d_R_first_403 : decode b_R_first 403 = .ok (.istore 6, 2) := by decide +kernel
theorem d_R_first_405 : decode b_R_first 405 = .ok (.iload_n 2, 1) := by decide +kernel
theorem d_R_first_406 : decode b_R_first 406 = .ok (.iconst 4, 1) := by decide +kernel
theorem d_R_first_407 : decode b_R_first 407 = .ok (.if_icmp .ne 10, 3) := by decide +kernel
theorem d_R_first_410 : decode b_R_first 410 = .ok (.iload 6, 2) := by decide +kernel
theorem d_R_first_412 : decode b_R_first 412 = .ok (.iconst 1, 1) := by decide +kernel
theorem d_R_first_413 : decode b_R_first 413 = .ok (.iadd, 1) := by decide +kernel
theorem d_R_first_414 : decode b_R_first 414 = .ok (.goto 7, 3) := by decide +kernel
theorem d_R_first_417 : decode b_R_first 417 = .ok (.iload 6, 2) := by decide +kernel
theorem d_R_first_419 : decode b_R_first 419 = .ok (.iconst 1, 1) := by decide +kernel
theorem d_R_first_420 : decode b_R_first 420 = .ok (.isub, 1) := by decide +kernel
theorem d_R_first_421 : decode b_R_first 421 = .ok (.sipush 255, 3) := by decide +kernel
theorem d_R_first_424 : decode b_R_first 424 = .ok (.iand, 1) := by decide +kernel
theorem d_R_first_425 : decode b_R_first 425 = .ok (.istore 7, 2) := by decide +kernel
theorem d_R_first_427 : decode b_R_first 427 = .ok (.aload_n 0, 1) := by decide +kernel
theorem d_R_first_428 : decode b_R_first 428 = .ok (.iload_n 1, 1) := by decide +kernel
theorem d_R_first_429 : decode b_R_first 429 = .ok (.iload 7, 2) := by decide +kernel
theorem d_R_first_431 : decode b_R_first 431 = .ok (.invokevirtual 262, 3) := by decide +kernel
theorem d_R_first_434 : decode b_R_first 434 = .ok (.aload_n 0, 1) := by decide +kernel
theorem d_R_first_435 : decode b_R_first 435 = .ok (.sipush 128, 3) := by decide +kernel
theorem d_R_first_438 : decode b_R_first 438 = .ok (.iload 7, 2) := by decide +kernel
theorem d_R_first_440 : decode b_R_first 440 = .ok (.ifCond .ne 7, 3) := by decide +kernel
theorem d_R_first_443 : decode b_R_first 443 = .ok (.iconst 1, 1) := by decide +kernel
theorem d_R_first_444 : decode b_R_first 444 = .ok (.goto 4, 3) := by decide +kernel
theorem d_R_first_447 : decode b_R_first 447 = .ok (.iconst 0, 1) := by decide +kernel
theorem d_R_first_448 : decode b_R_first 448 = .ok (.invokevirtual 255, 3) := by decide +kernel
theorem d_R_first_451 : decode b_R_first 451 = .ok (.aload_n 0, 1) := by decide +kernel
theorem d_R_first_452 : decode b_R_first 452 = .ok (.bipush 64, 2) := by decide +kernel
theorem d_R_first_454 : decode b_R_first 454 = .ok (.iload_n 2, 1) := by decide +kernel
theorem d_R_first_455 : decode b_R_first 455 = .ok (.iconst 5, 1) := by decide +kernel
theorem d_R_first_456 : decode b_R_first 456 = .ok (.if_icmp .ne 7, 3) := by decide +kernel
theorem d_R_first_459 : decode b_R_first 459 = .ok (.iconst 1, 1) := by decide +kernel
theorem d_R_first_460 : decode b_R_first 460 = .ok (.goto 4, 3) := by decide +kernel
theorem d_R_first_463 : decode b_R_first 463 = .ok (.iconst 0, 1) := by decide +kernel
theorem d_R_first_464 : decode b_R_first 464 = .ok (.invokevirtual 255, 3) := by decide +kernel
theorem d_R_first_467 : decode b_R_first 467 = .ok (.aload_n 0, 1) := by decide +kernel
theorem d_R_first_468 : decode b_R_first 468 = .ok (.bipush 32, 2) := by decide +kernel
theorem d_R_first_470 : decode b_R_first 470 = .ok (.iload 6, 2) := by decide +kernel
theorem d_R_first_472 : decode b_R_first 472 = .ok (.bipush 15, 2) := by decide +kernel
theorem d_R_first_474 : decode b_R_first 474 = .ok (.iand, 1) := by decide +kernel
theorem d_R_first_475 : decode b_R_first 475 = .ok (.iload_n 2, 1) := by decide +kernel
theorem d_R_first_476 : decode b_R_first 476 = .ok (.iconst 4, 1) := by decide +kernel
theorem d_R_first_477 : decode b_R_first 477 = .ok (.if_icmp .ne 8, 3) := by decide +kernel
theorem d_R_first_480 : decode b_R_first 480 = .ok (.bipush 15, 2) := by decide +kernel
theorem d_R_first_482 : decode b_R_first 482 = .ok (.goto 4, 3) := by decide +kernel
theorem d_R_first_485 : decode b_R_first 485 = .ok (.iconst 0, 1) := by decide +kernel
theorem d_R_first_486 : decode b_R_first 486 = .ok (.if_icmp .ne 7, 3) := by decide +kernel
theorem d_R_first_489 : decode b_R_first 489 = .ok (.iconst 1, 1) := by decide +kernel
theorem d_R_first_490 : decode b_R_first 490 = .ok (.goto 4, 3) := by decide +kernel
theorem d_R_first_493 : decode b_R_first 493 = .ok (.iconst 0, 1) := by decide +kernel
theorem d_R_first_494 : decode b_R_first 494 = .ok (.invokevirtual 255, 3) := by decide +kernel
theorem d_R_first_497 : decode b_R_first 497 = .ok (.goto 20, 3) := by decide +kernel
theorem d_R_first_500 : decode b_R_first 500 = .ok (.aload_n 0, 1) := by decide +kernel
theorem d_R_first_501 : decode b_R_first 501 = .ok (.iload_n 1, 1) := by decide +kernel
theorem d_R_first_502 : decode b_R_first 502 = .ok (.aload_n 0, 1) := by decide +kernel
theorem d_R_first_503 : decode b_R_first 503 = .ok (.invokevirtual 218, 3) := by decide +kernel
theorem d_R_first_506 : decode b_R_first 506 = .ok (.invokevirtual 262, 3) := by decide +kernel
theorem d_R_first_509 : decode b_R_first 509 = .ok (.goto 8, 3) := by decide +kernel
theorem d_R_first_512 : decode b_R_first 512 = .ok (.aload_n 0, 1) := by decide +kernel
theorem d_R_first_513 : decode b_R_first 513 = .ok (.iload_n 1, 1) := by decide +kernel
theorem d_R_first_514 : decode b_R_first 514 = .ok (.invokevirtual 265, 3) := by decide +kernel
theorem d_R_first_517 : decode b_R_first 517 = .ok (.return_, 1) := by decide +kernel
theorem d_R_spAnd_0 : decode b_R_spAnd 0 = .ok (.aload_n 0, 1) := by decide +kernel
theorem d_R_spAnd_1 : decode b_R_spAnd 1 = .ok (.invokevirtual 218, 3) := by decide +kernel
theorem d_R_spAnd_4 : decode b_R_spAnd 4 = .ok (.istore_n 1, 1) := by decide +kernel
theorem d_R_spAnd_5 : decode b_R_spAnd 5 = .ok (.aload_n 0, 1) := by decide +kernel
theorem d_R_spAnd_6 : decode b_R_spAnd 6 = .ok (.iconst 0, 1) := by decide +kernel
theorem d_R_spAnd_7 : decode b_R_spAnd 7 = .ok (.iconst 0, 1) := by decide +kernel
theorem d_R_spAnd_8 : decode b_R_spAnd 8 = .ok (.aload_n 0, 1) := by decide +kernel
theorem d_R_spAnd_9 : decode b_R_spAnd 9 = .ok (.getfield 68, 3) := by decide +kernel
theorem d_R_spAnd_12 : decode b_R_spAnd 12 = .ok (.bipush 15, 2) := by decide +kernel
theorem d_R_spAnd_14 : decode b_R_spAnd 14 = .ok (.iand, 1) := by decide +kernel
theorem d_R_spAnd_15 : decode b_R_spAnd 15 = .ok (.iload_n 1, 1) := by decide +kernel
theorem d_R_spAnd_16 : decode b_R_spAnd 16 = .ok (.bipush 15, 2) := by decide +kernel
theorem d_R_spAnd_18 : decode b_R_spAnd 18 = .ok (.iand, 1) := by decide +kernel
theorem d_R_spAnd_19 : decode b_R_spAnd 19 = .ok (.iadd, 1) := by decide +kernel
theorem d_R_spAnd_20 : decode b_R_spAnd 20 = .ok (.bipush 15, 2) := by decide +kernel
theorem d_R_spAnd_22 : decode b_R_spAnd 22 = .ok (.if_icmp .le 7, 3) := by decide +kernel
theorem d_R_spAnd_25 : decode b_R_spAnd 25 = .ok (.iconst 1, 1) := by decide +kernel
theorem d_R_spAnd_26 : decode b_R_spAnd 26 = .ok (.goto 4, 3) := by decide +kernel
theorem d_R_spAnd_29 : decode b_R_spAnd 29 = .ok (.iconst 0, 1) := by decide +kernel
theorem d_R_spAnd_30 : decode b_R_spAnd 30 = .ok (.aload_n 0, 1) := by decide +kernel
theorem d_R_spAnd_31 : decode b_R_spAnd 31 = .ok (.getfield 68, 3) := by decide +kernel
theorem d_R_spAnd_34 : decode b_R_spAnd 34 = .ok (.sipush 255, 3) := by decide +kernel
theorem d_R_spAnd_37 : decode b_R_spAnd 37 = .ok (.iand, 1) := by decide +kernel
theorem d_R_spAnd_38 : decode b_R_spAnd 38 = .ok (.iload_n 1, 1) := by decide +kernel
theorem d_R_spAnd_39 : decode b_R_spAnd 39 = .ok (.iadd, 1) := by decide +kernel
theorem d_R_spAnd_40 : decode b_R_spAnd 40 = .ok (.sipush 255, 3) := by decide +kernel
theorem d_R_spAnd_43 : decode b_R_spAnd 43 = .ok (.if_icmp .le 7, 3) := by decide +kernel
theorem d_R_spAnd_46 : decode b_R_spAnd 46 = .ok (.iconst 1, 1) := by decide +kernel
theorem d_R_spAnd_47 : decode b_R_spAnd 47 = .ok (.goto 4, 3) := by decide +kernel
theorem d_R_spAnd_50 : decode b_R_spAnd 50 = .ok (.iconst 0, 1) := by decide +kernel
theorem d_R_spAnd_51 : decode b_R_spAnd 51 = .ok (.invokevirtual 231, 3) := by decide +kernel
theorem d_R_spAnd_54 : decode b_R_spAnd 54 = .ok (.aload_n 0, 1) := by decide +kernel
theorem d_R_spAnd_55 : decode b_R_spAnd 55 = .ok (.getfield 68, 3) := by decide +kernel
theorem d_R_spAnd_58 : decode b_R_spAnd 58 = .ok (.iload_n 1, 1) := by decide +kernel
theorem d_R_spAnd_59 : decode b_R_spAnd 59 = .ok (.invokestatic 242, 3) := by decide +kernel
theorem d_R_spAnd_62 : decode b_R_spAnd 62 = .ok (.iadd, 1) := by decide +kernel
theorem d_R_spAnd_63 : decode b_R_spAnd 63 = .ok (.ldc 194, 2) := by decide +kernel
theorem d_R_spAnd_65 : decode b_R_spAnd 65 = .ok (.iand, 1) := by decide +kernel
theorem d_R_spAnd_66 : decode b_R_spAnd 66 = .ok (.ireturn, 1) := by decide +kernel
theorem d_R_bits_0 : decode b_R_bits 0 = .ok (.aload_n 0, 1) := by decide +kernel
theorem d_R_bits_1 : decode b_R_bits 1 = .ok (.invokevirtual 218, 3) := by decide +kernel
theorem d_R_bits_4 : decode b_R_bits 4 = .ok (.istore_n 1, 1) := by decide +kernel
theorem d_R_bits_5 : decode b_R_bits 5 = .ok (.iload_n 1, 1) := by decide +kernel
theorem d_R_bits_6 : decode b_R_bits 6 = .ok (.bipush 6, 2) := by decide +kernel
theorem d_R_bits_8 : decode b_R_bits 8 = .ok (.ishr, 1) := by decide +kernel
theorem d_R_bits_9 : decode b_R_bits 9 = .ok (.istore_n 2, 1) := by decide +kernel
theorem d_R_bits_10 : decode b_R_bits 10 = .ok (.iload_n 1, 1) := by decide +kernel
theorem d_R_bits_11 : decode b_R_bits 11 = .ok (.iconst 3, 1) := by decide +kernel
theorem d_R_bits_12 : decode b_R_bits 12 = .ok (.ishr, 1) := by decide +kernel
theorem d_R_bits_13 : decode b_R_bits 13 = .ok (.bipush 7, 2) := by decide +kernel
theorem d_R_bits_15 : decode b_R_bits 15 = .ok (.iand, 1) := by decide +kernel
theorem d_R_bits_16 : decode b_R_bits 16 = .ok (.istore_n 3, 1) := by decide +kernel
theorem d_R_bits_17 : decode b_R_bits 17 = .ok (.iload_n 1, 1) := by decide +kernel
theorem d_R_bits_18 : decode b_R_bits 18 = .ok (.bipush 7, 2) := by decide +kernel
theorem d_R_bits_20 : decode b_R_bits 20 = .ok (.iand, 1) := by decide +kernel
theorem d_R_bits_21 : decode b_R_bits 21 = .ok (.istore 4, 2) := by decide +kernel
theorem d_R_bits_23 : decode b_R_bits 23 = .ok (.aload_n 0, 1) := by decide +kernel
theorem d_R_bits_24 : decode b_R_bits 24 = .ok (.iload 4, 2) := by decide +kernel
theorem d_R_bits_26 : decode b_R_bits 26 = .ok (.invokevirtual 259, 3) := by decide +kernel
theorem d_R_bits_29 : decode b_R_bits 29 = .ok (.istore 5, 2) := by decide +kernel
theorem d_R_bits_31 : decode b_R_bits 31 = .ok (.iload_n 2, 1) := by decide +kernel
theorem d_R_bits_32 : decode b_R_bits 32 = .ok (.ifCond .ne 19, 3) := by decide +kernel
theorem d_R_bits_35 : decode b_R_bits 35 = .ok (.aload_n 0, 1) := by decide +kernel
theorem d_R_bits_36 : decode b_R_bits 36 = .ok (.iload 4, 2) := by decide +kernel
theorem d_R_bits_38 : decode b_R_bits 38 = .ok (.aload_n 0, 1) := by decide +kernel
theorem d_R_bits_39 : decode b_R_bits 39 = .ok (.iload_n 3, 1) := by decide +kernel
theorem d_R_bits_40 : decode b_R_bits 40 = .ok (.iload 5, 2) := by decide +kernel
theorem d_R_bits_42 : decode b_R_bits 42 = .ok (.invokevirtual 271, 3) := by decide +kernel
theorem d_R_bits_45 : decode b_R_bits 45 = .ok (.invokevirtual 262, 3) := by decide +kernel
theorem d_R_bits_48 : decode b_R_bits 48 = .ok (.goto 74, 3) := by decide +kernel
theorem d_R_bits_51 : decode b_R_bits 51 = .ok (.iload_n 2, 1) := by decide +kernel
theorem d_R_bits_52 : decode b_R_bits 52 = .ok (.iconst 1, 1) := by decide +kernel
theorem d_R_bits_53 : decode b_R_bits 53 = .ok (.if_icmp .ne 41, 3) := by decide +kernel
theorem d_R_bits_56 : decode b_R_bits 56 = .ok (.aload_n 0, 1) := by decide +kernel
theorem d_R_bits_57 : decode b_R_bits 57 = .ok (.sipush 128, 3) := by decide +kernel
theorem d_R_bits_60 : decode b_R_bits 60 = .ok (.iload 5, 2) := by decide +kernel
theorem d_R_bits_62 : decode b_R_bits 62 = .ok (.iload_n 3, 1) := by decide +kernel
theorem d_R_bits_63 : decode b_R_bits 63 = .ok (.ishr, 1) := by decide +kernel
theorem d_R_bits_64 : decode b_R_bits 64 = .ok (.iconst 1, 1) := by decide +kernel
theorem d_R_bits_65 : decode b_R_bits 65 = .ok (.iand, 1) := by decide +kernel
theorem d_R_bits_66 : decode b_R_bits 66 = .ok (.ifCond .ne 7, 3) := by decide +kernel
theorem d_R_bits_69 : decode b_R_bits 69 = .ok (.iconst 1, 1) := by decide +kernel
theorem d_R_bits_70 : decode b_R_bits 70 = .ok (.goto 4, 3) := by decide +kernel
theorem d_R_bits_73 : decode b_R_bits 73 = .ok (.iconst 0, 1) := by decide +kernel
theorem d_R_bits_74 : decode b_R_bits 74 = .ok (.invokevirtual 255, 3) := by decide +kernel
theorem d_R_bits_77 : decode b_R_bits 77 = .ok (.aload_n 0, 1) := by decide +kernel
theorem d_R_bits_78 : decode b_R_bits 78 = .ok (.bipush 64, 2) := by decide +kernel
theorem d_R_bits_80 : decode b_R_bits 80 = .ok (.iconst 0, 1) := by decide +kernel
theorem d_R_bits_81 : decode b_R_bits 81 = .ok (.invokevirtual 255, 3) := by decide +kernel
theorem d_R_bits_84 : decode b_R_bits 84 = .ok (.aload_n 0, 1) := by decide +kernel
theorem d_R_bits_85 : decode b_R_bits 85 = .ok (.bipush 32, 2) := by decide +kernel
theorem d_R_bits_87 : decode b_R_bits 87 = .ok (.iconst 1, 1) := by decide +kernel
theorem d_R_bits_88 : decode b_R_bits 88 = .ok (.invokevirtual 255, 3) := by decide +kernel
theorem d_R_bits_91 : decode b_R_bits 91 = .ok (.goto 31, 3) := by decide +kernel
theorem d_R_bits_94 : decode b_R_bits 94 = .ok (.aload_n 0, 1) := by decide +kernel
theorem d_R_bits_95 : decode b_R_bits 95 = .ok (.iload 4, 2) := by decide +kernel
theorem d_R_bits_97 : decode b_R_bits 97 = .ok (.iload_n 2, 1) := by decide +kernel
theorem d_R_bits_98 : decode b_R_bits 98 = .ok (.iconst 2, 1) := by decide +kernel
theorem d_R_bits_99 : decode b_R_bits 99 = .ok (.if_icmp .ne 14, 3) := by decide +kernel
theorem d_R_bits_102 : decode b_R_bits 102 = .ok (.iload 5, 2) := by decide +kernel
theorem d_R_bits_104 : decode b_R_bits 104 = .ok (.iconst 1, 1) := by decide +kernel
theorem d_R_bits_105 : decode b_R_bits 105 = .ok (.iload_n 3, 1) := by decide +kernel
theorem d_R_bits_106 : decode b_R_bits 106 = .ok (.ishl, 1) := by decide +kernel
theorem d_R_bits_107 : decode b_R_bits 107 = .ok (.iconst (-1), 1) := by decide +kernel
theorem d_R_bits_108 : decode b_R_bits 108 = .ok (.ixor, 1) := by decide +kernel
theorem d_R_bits_109 : decode b_R_bits 109 = .ok (.iand, 1) := by decide +kernel
theorem d_R_bits_110 : decode b_R_bits 110 = .ok (.goto 9, 3) := by decide +kernel
theorem d_R_bits_113 : decode b_R_bits 113 = .ok (.iload 5, 2) := by decide +kernel
theorem d_R_bits_115 : decode b_R_bits 115 = .ok (.iconst 1, 1) := by decide +kernel
theorem d_R_bits_116 : decode b_R_bits 116 = .ok (.iload_n 3, 1) := by decide +kernel
theorem d_R_bits_117 : decode b_R_bits 117 = .ok (.ishl, 1) := by decide +kernel
theorem d_R_bits_118 : decode b_R_bits 118 = .ok (.ior, 1) := by decide +kernel
theorem d_R_bits_119 : decode b_R_bits 119 = .ok (.invokevirtual 262, 3) := by decide +kernel
theorem d_R_bits_122 : decode b_R_bits 122 = .ok (.return_, 1) := by decide +kernel
theorem d_R_third_0 : decode b_R_third 0 = .ok (.iload_n 1, 1) := by decide +kernel
theorem d_R_third_1 : decode b_R_third 1 = .ok (.iconst 1, 1) := by decide +kernel
theorem d_R_third_2 : decode b_R_third 2 = .ok (.iand, 1) := by decide +kernel
theorem d_R_third_3 : decode b_R_third 3 = .ok (.istore_n 3, 1) := by decide +kernel
theorem d_R_third_4 : decode b_R_third 4 = .ok (.iload_n 1, 1) := by decide +kernel
theorem d_R_third_5 : decode b_R_third 5 = .ok (.iconst 1, 1) := by decide +kernel
theorem d_R_third_6 : decode b_R_third 6 = .ok (.ishr, 1) := by decide +kernel
theorem d_R_third_7 : decode b_R_third 7 = .ok (.istore 4, 2) := by decide +kernel
theorem d_R_third_9 : decode b_R_third 9 = .ok (.iload_n 2, 1) := by decide +kernel
theorem d_R_third_10 : decode b_R_third 10 = .ok (.tableswitch 631 0 6 #[42, 187, 320, 443, 507, 540, 619], 42) := by decide +kernel
theorem d_R_third_52 : decode b_R_third 52 = .ok (.iload_n 1, 1) := by decide +kernel
theorem d_R_third_53 : decode b_R_third 53 = .ok (.iconst 4, 1) := by decide +kernel
theorem d_R_third_54 : decode b_R_third 54 = .ok (.if_icmp .ge 42, 3) := by decide +kernel
theorem d_R_third_57 : decode b_R_third 57 = .ok (.aload_n 0, 1) := by decide +kernel
theorem d_R_third_58 : decode b_R_third 58 = .ok (.dup, 1) := by decide +kernel
theorem d_R_third_59 : decode b_R_third 59 = .ok (.getfield 209, 3) := by decide +kernel
theorem d_R_third_62 : decode b_R_third 62 = .ok (.iconst 1, 1) := by decide +kernel
theorem d_R_third_63 : decode b_R_third 63 = .ok (.iadd, 1) := by decide +kernel
theorem d_R_third_64 : decode b_R_third 64 = .ok (.putfield 209, 3) := by decide +kernel
theorem d_R_third_67 : decode b_R_third 67 = .ok (.aload_n 0, 1) := by decide +kernel
theorem d_R_third_68 : decode b_R_third 68 = .ok (.iload_n 1, 1) := by decide +kernel
theorem d_R_third_69 : decode b_R_third 69 = .ok (.invokevirtual 245, 3) := by decide +kernel
theorem d_R_third_72 : decode b_R_third 72 = .ok (.ifCond .eq 578, 3) := by decide +kernel
theorem d_R_third_75 : decode b_R_third 75 = .ok (.aload_n 0, 1) := by decide +kernel
theorem d_R_third_76 : decode b_R_third 76 = .ok (.aload_n 0, 1) := by decide +kernel
theorem d_R_third_77 : decode b_R_third 77 = .ok (.invokevirtual 275, 3) := by decide +kernel
theorem d_R_third_80 : decode b_R_third 80 = .ok (.putfield 71, 3) := by decide +kernel
theorem d_R_third_83 : decode b_R_third 83 = .ok (.aload_n 0, 1) := by decide +kernel
theorem d_R_third_84 : decode b_R_third 84 = .ok (.dup, 1) := by decide +kernel
theorem d_R_third_85 : decode b_R_third 85 = .ok (.getfield 209, 3) := by decide +kernel
theorem d_R_third_88 : decode b_R_third 88 = .ok (.iconst 1, 1) := by decide +kernel
theorem d_R_third_89 : decode b_R_third 89 = .ok (.iadd, 1) := by decide +kernel
theorem d_R_third_90 : decode b_R_third 90 = .ok (.putfield 209, 3) := by decide +kernel
theorem d_R_third_93 : decode b_R_third 93 = .ok (.goto 557, 3) := by decide +kernel
theorem d_R_third_96 : decode b_R_third 96 = .ok (.iload_n 1, 1) := by decide +kernel
theorem d_R_third_97 : decode b_R_third 97 = .ok (.iconst 4, 1) := by decide +kernel
theorem d_R_third_98 : decode b_R_third 98 = .ok (.if_icmp .ne 24, 3) := by decide +kernel
theorem d_R_third_101 : decode b_R_third 101 = .ok (.aload_n 0, 1) := by decide +kernel
theorem d_R_third_102 : decode b_R_third 102 = .ok (.ldc 192, 2) := by decide +kernel
theorem d_R_third_104 : decode b_R_third 104 = .ok (.aload_n 0, 1) := by decide +kernel
theorem d_R_third_105 : decode b_R_third 105 = .ok (.invokevirtual 218, 3) := by decide +kernel
theorem d_R_third_108 : decode b_R_third 108 = .ok (.iadd, 1) := by decide +kernel
theorem d_R_third_109 : decode b_R_third 109 = .ok (.aload_n 0, 1) := by decide +kernel
theorem d_R_third_110 : decode b_R_third 110 = .ok (.getfield 31, 3) := by decide +kernel
theorem d_R_third_113 : decode b_R_third 113 = .ok (.bipush 7, 2) := by decide +kernel
theorem d_R_third_115 : decode b_R_third 115 = .ok (.iaload, 1) := by decide +kernel
theorem d_R_third_116 : decode b_R_third 116 = .ok (.invokevirtual 224, 3) := by decide +kernel
theorem d_R_third_119 : decode b_R_third 119 = .ok (.goto 531, 3) := by decide +kernel
theorem d_R_third_122 : decode b_R_third 122 = .ok (.iload_n 1, 1) := by decide +kernel
theorem d_R_third_123 : decode b_R_third 123 = .ok (.bipush 6, 2) := by decide +kernel
theorem d_R_third_125 : decode b_R_third 125 = .ok (.if_icmp .ne 24, 3) := by decide +kernel
theorem d_R_third_128 : decode b_R_third 128 = .ok (.aload_n 0, 1) := by decide +kernel
theorem d_R_third_129 : decode b_R_third 129 = .ok (.getfield 31, 3) := by decide +kernel
theorem d_R_third_132 : decode b_R_third 132 = .ok (.bipush 7, 2) := by decide +kernel
theorem d_R_third_134 : decode b_R_third 134 = .ok (.aload_n 0, 1) := by decide +kernel
theorem d_R_third_135 : decode b_R_third 135 = .ok (.ldc 192, 2) := by decide +kernel
theorem d_R_third_137 : decode b_R_third 137 = .ok (.aload_n 0, 1) := by decide +kernel
theorem d_R_third_138 : decode b_R_third 138 = .ok (.invokevirtual 218, 3) := by decide +kernel
theorem d_R_third_141 : decode b_R_third 141 = .ok (.iadd, 1) := by decide +kernel
theorem d_R_third_142 : decode b_R_third 142 = .ok (.invokevirtual 215, 3) := by decide +kernel
theorem d_R_third_145 : decode b_R_third 145 = .ok (.iastore, 1) := by decide +kernel
theorem d_R_third_146 : decode b_R_third 146 = .ok (.goto 504, 3) := by decide +kernel
theorem d_R_third_149 : decode b_R_third 149 = .ok (.iload_n 1, 1) := by decide +kernel
theorem d_R_third_150 : decode b_R_third 150 = .ok (.iconst 5, 1) := by decide +kernel
theorem d_R_third_151 : decode b_R_third 151 = .ok (.if_icmp .ne 24, 3) := by decide +kernel
theorem d_R_third_154 : decode b_R_third 154 = .ok (.aload_n 0, 1) := by decide +kernel
theorem d_R_third_155 : decode b_R_third 155 = .ok (.aload_n 0, 1) := by decide +kernel
theorem d_R_third_156 : decode b_R_third 156 = .ok (.invokevirtual 278, 3) := by decide +kernel
theorem d_R_third_159 : decode b_R_third 159 = .ok (.putfield 68, 3) := by decide +kernel
theorem d_R_third_162 : decode b_R_third 162 = .ok (.aload_n 0, 1) := by decide +kernel
theorem d_R_third_163 : decode b_R_third 163 = .ok (.dup, 1) := by decide +kernel
theorem d_R_third_164 : decode b_R_third 164 = .ok (.getfield 209, 3) := by decide +kernel
theorem d_R_third_167 : decode b_R_third 167 = .ok (.iconst 2, 1) := by decide +kernel
theorem d_R_third_168 : decode b_R_third 168 = .ok (.iadd, 1) := by decide +kernel
theorem d_R_third_169 : decode b_R_third 169 = .ok (.putfield 209, 3) := by decide +kernel
theorem d_R_third_172 : decode b_R_third 172 = .ok (.goto 478, 3) := by decide +kernel
theorem d_R_third_175 : decode b_R_third 175 = .ok (.aload_n 0, 1) := by decide +kernel
theorem d_R_third_176 : decode b_R_third 176 = .ok (.iconst 2, 1) := by decide +kernel
theorem d_R_third_177 : decode b_R_third 177 = .ok (.aload_n 0, 1) := by decide +kernel
theorem d_R_third_178 : decode b_R_third 178 = .ok (.invokevirtual 278, 3) := by decide +kernel
theorem d_R_third_181 : decode b_R_third 181 = .ok (.invokevirtual 252, 3) := by decide +kernel
theorem d_R_third_184 : decode b_R_third 184 = .ok (.aload_n 0, 1) := by decide +kernel
theorem d_R_third_185 : decode b_R_third 185 = .ok (.dup, 1) := by decide +kernel
theorem d_R_third_186 : decode b_R_third 186 = .ok (.getfield 209, 3) := by decide +kernel
theorem d_R_third_189 : decode b_R_third 189 = .ok (.iconst 1, 1) := by decide +kernel
theorem d_R_third_190 : decode b_R_third 190 = .ok (.iadd, 1) := by decide +kernel
theorem d_R_third_191 : decode b_R_third 191 = .ok (.putfield 209, 3) := by decide +kernel
theorem d_R_third_194 : decode b_R_third 194 = .ok (.goto 456, 3) := by decide +kernel
theorem d_R_third_197 : decode b_R_third 197 = .ok (.iload_n 3, 1) := by decide +kernel
theorem d_R_third_198 : decode b_R_third 198 = .ok (.ifCond .ne 54, 3) := by decide +kernel
theorem d_R_third_201 : decode b_R_third 201 = .ok (.aload_n 0, 1) := by decide +kernel
theorem d_R_third_202 : decode b_R_third 202 = .ok (.invokevirtual 275, 3) := by decide +kernel
theorem d_R_third_205 : decode b_R_third 205 = .ok (.istore 5, 2) := by decide +kernel
theorem d_R_third_207 : decode b_R_third 207 = .ok (.iload 4, 2) := by decide +kernel
theorem d_R_third_209 : decode b_R_third 209 = .ok (.iconst 3, 1) := by decide +kernel
theorem d_R_third_210 : decode b_R_third 210 = .ok (.if_icmp .ge 14, 3) := by decide +kernel
theorem d_R_third_213 : decode b_R_third 213 = .ok (.aload_n 0, 1) := by decide +kernel
theorem d_R_third_214 : decode b_R_third 214 = .ok (.iload 4, 2) := by decide +kernel
theorem d_R_third_216 : decode b_R_third 216 = .ok (.iload 5, 2) := by decide +kernel
theorem d_R_third_218 : decode b_R_third 218 = .ok (.invokevirtual 252, 3) := by decide +kernel
theorem d_R_third_221 : decode b_R_third 221 = .ok (.goto 28, 3) := by decide +kernel
theorem d_R_third_224 : decode b_R_third 224 = .ok (.aload_n 0, 1) := by decide +kernel
theorem d_R_third_225 : decode b_R_third 225 = .ok (.getfield 31, 3) := by decide +kernel
theorem d_R_third_228 : decode b_R_third 228 = .ok (.bipush 7, 2) := by decide +kernel
theorem d_R_third_230 : decode b_R_third 230 = .ok (.iload 5, 2) := by decide +kernel
theorem d_R_third_232 : decode b_R_third 232 = .ok (.bipush 8, 2) := by decide +kernel
theorem d_R_third_234 : decode b_R_third 234 = .ok (.ishr, 1) := by decide +kernel
theorem d_R_third_235 : decode b_R_third 235 = .ok (.iastore, 1) := by decide +kernel
theorem d_R_third_236 : decode b_R_third 236 = .ok (.aload_n 0, 1) := by decide +kernel
theorem d_R_third_237 : decode b_R_third 237 = .ok (.getfield 31, 3) := by decide +kernel
theorem d_R_third_240 : decode b_R_third 240 = .ok (.bipush 6, 2) := by decide +kernel
theorem d_R_third_242 : decode b_R_third 242 = .ok (.iload 5, 2) := by decide +kernel
theorem d_R_third_244 : decode b_R_third 244 = .ok (.sipush 240, 3) := by decide +kernel
theorem d_R_third_247 : decode b_R_third 247 = .ok (.iand, 1) := by decide +kernel
theorem d_R_third_248 : decode b_R_third 248 = .ok (.iastore, 1) := by decide +kernel
theorem d_R_third_249 : decode b_R_third 249 = .ok (.goto 401, 3) := by decide +kernel
theorem d_R_third_252 : decode b_R_third 252 = .ok (.iload 4, 2) := by decide +kernel
theorem d_R_third_254 : decode b_R_third 254 = .ok (.iconst 2, 1) := by decide +kernel
theorem d_R_third_255 : decode b_R_third 255 = .ok (.if_icmp .ge 35, 3) := by decide +kernel
theorem d_R_third_258 : decode b_R_third 258 = .ok (.aload_n 0, 1) := by decide +kernel
theorem d_R_third_259 : decode b_R_third 259 = .ok (.aload_n 0, 1) := by decide +kernel
theorem d_R_third_260 : decode b_R_third 260 = .ok (.invokevirtual 275, 3) := by decide +kernel
theorem d_R_third_263 : decode b_R_third 263 = .ok (.putfield 71, 3) := by decide +kernel
theorem d_R_third_266 : decode b_R_third 266 = .ok (.aload_n 0, 1) := by decide +kernel
theorem d_R_third_267 : decode b_R_third 267 = .ok (.dup, 1) := by decide +kernel
theorem d_R_third_268 : decode b_R_third 268 = .ok (.getfield 209, 3) := by decide +kernel
theorem d_R_third_271 : decode b_R_third 271 = .ok (.iconst 1, 1) := by decide +kernel
theorem d_R_third_272 : decode b_R_third 272 = .ok (.iadd, 1) := by decide +kernel
theorem d_R_third_273 : decode b_R_third 273 = .ok (.putfield 209, 3) := by decide +kernel
theorem d_R_third_276 : decode b_R_third 276 = .ok (.iload 4, 2) := by decide +kernel
theorem d_R_third_278 : decode b_R_third 278 = .ok (.iconst 1, 1) := by decide +kernel
theorem d_R_third_279 : decode b_R_third 279 = .ok (.if_icmp .ne 371, 3) := by decide +kernel
theorem d_R_third_282 : decode b_R_third 282 = .ok (.aload_n 0, 1) := by decide +kernel
theorem d_R_third_283 : decode b_R_third 283 = .ok (.iconst 1, 1) := by decide +kernel
theorem d_R_third_284 : decode b_R_third 284 = .ok (.putfield 74, 3) := by decide +kernel
theorem d_R_third_287 : decode b_R_third 287 = .ok (.goto 363, 3) := by decide +kernel
theorem d_R_third_290 : decode b_R_third 290 = .ok (.iload 4, 2) := by decide +kernel
theorem d_R_third_292 : decode b_R_third 292 = .ok (.iconst 2, 1) := by decide +kernel
theorem d_R_third_293 : decode b_R_third 293 = .ok (.if_icmp .ne 15, 3) := by decide +kernel
theorem d_R_third_296 : decode b_R_third 296 = .ok (.aload_n 0, 1) := by decide +kernel
theorem d_R_third_297 : decode b_R_third 297 = .ok (.aload_n 0, 1) := by decide +kernel
theorem d_R_third_298 : decode b_R_third 298 = .ok (.iconst 2, 1) := by decide +kernel
theorem d_R_third_299 : decode b_R_third 299 = .ok (.invokevirtual 221, 3) := by decide +kernel
theorem d_R_third_302 : decode b_R_third 302 = .ok (.putfield 71, 3) := by decide +kernel
theorem d_R_third_305 : decode b_R_third 305 = .ok (.goto 345, 3) := by decide +kernel
theorem d_R_third_308 : decode b_R_third 308 = .ok (.aload_n 0, 1) := by decide +kernel
theorem d_R_third_309 : decode b_R_third 309 = .ok (.aload_n 0, 1) := by decide +kernel
theorem d_R_third_310 : decode b_R_third 310 = .ok (.iconst 2, 1) := by decide +kernel
theorem d_R_third_311 : decode b_R_third 311 = .ok (.invokevirtual 221, 3) := by decide +kernel
theorem d_R_third_314 : decode b_R_third 314 = .ok (.putfield 68, 3) := by decide +kernel
theorem d_R_third_317 : decode b_R_third 317 = .ok (.aload_n 0, 1) := by decide +kernel
theorem d_R_third_318 : decode b_R_third 318 = .ok (.dup, 1) := by decide +kernel
theorem d_R_third_319 : decode b_R_third 319 = .ok (.getfield 209, 3) := by decide +kernel
theorem d_R_third_322 : decode b_R_third 322 = .ok (.iconst 1, 1) := by decide +kernel
theorem d_R_third_323 : decode b_R_third 323 = .ok (.iadd, 1) := by decide +kernel
theorem d_R_third_324 : decode b_R_third 324 = .ok (.putfield 209, 3) := by decide +kernel
theorem d_R_third_327 : decode b_R_third 327 = .ok (.goto 323, 3) := by decide +kernel
theorem d_R_third_330 : decode b_R_third 330 = .ok (.iload_n 1, 1) := by decide +kernel
theorem d_R_third_331 : decode b_R_third 331 = .ok (.iconst 4, 1) := by decide +kernel
theorem d_R_third_332 : decode b_R_third 332 = .ok (.if_icmp .ge 23, 3) := by decide +kernel
theorem d_R_third_335 : decode b_R_third 335 = .ok (.aload_n 0, 1) := by decide +kernel
theorem d_R_third_336 : decode b_R_third 336 = .ok (.invokevirtual 239, 3) := by decide +kernel
theorem d_R_third_339 : decode b_R_third 339 = .ok (.istore 5, 2) := by decide +kernel
theorem d_R_third_341 : decode b_R_third 341 = .ok (.aload_n 0, 1) := by decide +kernel
theorem d_R_third_342 : decode b_R_third 342 = .ok (.aload_n 0, 1) := by decide +kernel
theorem d_R_third_343 : decode b_R_third 343 = .ok (.iload_n 1, 1) := by decide +kernel
theorem d_R_third_344 : decode b_R_third 344 = .ok (.invokevirtual 245, 3) := by decide +kernel
theorem d_R_third_347 : decode b_R_third 347 = .ok (.iload 5, 2) := by decide +kernel
theorem d_R_third_349 : decode b_R_third 349 = .ok (.invokevirtual 248, 3) := by decide +kernel
theorem d_R_third_352 : decode b_R_third 352 = .ok (.goto 298, 3) := by decide +kernel
theorem d_R_third_355 : decode b_R_third 355 = .ok (.iload_n 1, 1) := by decide +kernel
theorem d_R_third_356 : decode b_R_third 356 = .ok (.iconst 4, 1) := by decide +kernel
theorem d_R_third_357 : decode b_R_third 357 = .ok (.if_icmp .ne 26, 3) := by decide +kernel
theorem d_R_third_360 : decode b_R_third 360 = .ok (.aload_n 0, 1) := by decide +kernel
theorem d_R_third_361 : decode b_R_third 361 = .ok (.ldc 192, 2) := by decide +kernel
theorem d_R_third_363 : decode b_R_third 363 = .ok (.aload_n 0, 1) := by decide +kernel
theorem d_R_third_364 : decode b_R_third 364 = .ok (.getfield 31, 3) := by decide +kernel
theorem d_R_third_367 : decode b_R_third 367 = .ok (.iconst 1, 1) := by decide +kernel
theorem d_R_third_368 : decode b_R_third 368 = .ok (.iaload, 1) := by decide +kernel
theorem d_R_third_369 : decode b_R_third 369 = .ok (.iadd, 1) := by decide +kernel
theorem d_R_third_370 : decode b_R_third 370 = .ok (.aload_n 0, 1) := by decide +kernel
theorem d_R_third_371 : decode b_R_third 371 = .ok (.getfield 31, 3) := by decide +kernel
theorem d_R_third_374 : decode b_R_third 374 = .ok (.bipush 7, 2) := by decide +kernel
theorem d_R_third_376 : decode b_R_third 376 = .ok (.iaload, 1) := by decide +kernel
theorem d_R_third_377 : decode b_R_third 377 = .ok (.invokevirtual 224, 3) := by decide +kernel
theorem d_R_third_380 : decode b_R_third 380 = .ok (.goto 270, 3) := by decide +kernel
theorem d_R_third_383 : decode b_R_third 383 = .ok (.iload_n 1, 1) := by decide +kernel
theorem d_R_third_384 : decode b_R_third 384 = .ok (.bipush 6, 2) := by decide +kernel
theorem d_R_third_386 : decode b_R_third 386 = .ok (.if_icmp .ne 26, 3) := by decide +kernel
theorem d_R_third_389 : decode b_R_third 389 = .ok (.aload_n 0, 1) := by decide +kernel
theorem d_R_third_390 : decode b_R_third 390 = .ok (.getfield 31, 3) := by decide +kernel
theorem d_R_third_393 : decode b_R_third 393 = .ok (.bipush 7, 2) := by decide +kernel
theorem d_R_third_395 : decode b_R_third 395 = .ok (.aload_n 0, 1) := by decide +kernel
theorem d_R_third_396 : decode b_R_third 396 = .ok (.ldc 192, 2) := by decide +kernel
theorem d_R_third_398 : decode b_R_third 398 = .ok (.aload_n 0, 1) := by decide +kernel
theorem d_R_third_399 : decode b_R_third 399 = .ok (.getfield 31, 3) := by decide +kernel
theorem d_R_third_402 : decode b_R_third 402 = .ok (.iconst 1, 1) := by decide +kernel
theorem d_R_third_403 : decode b_R_third 403 = .ok (.iaload, 1) := by decide +kernel
theorem d_R_third_404 : decode b_R_third 404 = .ok (.iadd, 1) := by decide +kernel
theorem d_R_third_405 : decode b_R_third 405 = .ok (.invokevirtual 215, 3) := by decide +kernel
theorem d_R_third_408 : decode b_R_third 408 = .ok (.iastore, 1) := by decide +kernel
theorem d_R_third_409 : decode b_R_third 409 = .ok (.goto 241, 3) := by decide +kernel
theorem d_R_third_412 : decode b_R_third 412 = .ok (.iload_n 1, 1) := by decide +kernel
theorem d_R_third_413 : decode b_R_third 413 = .ok (.iconst 5, 1) := by decide +kernel
theorem d_R_third_414 : decode b_R_third 414 = .ok (.if_icmp .ne 21, 3) := by decide +kernel
theorem d_R_third_417 : decode b_R_third 417 = .ok (.aload_n 0, 1) := by decide +kernel
theorem d_R_third_418 : decode b_R_third 418 = .ok (.aload_n 0, 1) := by decide +kernel
theorem d_R_third_419 : decode b_R_third 419 = .ok (.invokevirtual 239, 3) := by decide +kernel
theorem d_R_third_422 : decode b_R_third 422 = .ok (.aload_n 0, 1) := by decide +kernel
theorem d_R_third_423 : decode b_R_third 423 = .ok (.getfield 31, 3) := by decide +kernel
theorem d_R_third_426 : decode b_R_third 426 = .ok (.bipush 7, 2) := by decide +kernel
theorem d_R_third_428 : decode b_R_third 428 = .ok (.iaload, 1) := by decide +kernel
theorem d_R_third_429 : decode b_R_third 429 = .ok (.invokevirtual 224, 3) := by decide +kernel
theorem d_R_third_432 : decode b_R_third 432 = .ok (.goto 218, 3) := by decide +kernel
theorem d_R_third_435 : decode b_R_third 435 = .ok (.aload_n 0, 1) := by decide +kernel
theorem d_R_third_436 : decode b_R_third 436 = .ok (.getfield 31, 3) := by decide +kernel
theorem d_R_third_439 : decode b_R_third 439 = .ok (.bipush 7, 2) := by decide +kernel
theorem d_R_third_441 : decode b_R_third 441 = .ok (.aload_n 0, 1) := by decide +kernel
theorem d_R_third_442 : decode b_R_third 442 = .ok (.aload_n 0, 1) := by decide +kernel
theorem d_R_third_443 : decode b_R_third 443 = .ok (.invokevirtual 239, 3) := by decide +kernel
theorem d_R_third_446 : decode b_R_third 446 = .ok (.invokevirtual 215, 3) := by decide +kernel
theorem d_R_third_449 : decode b_R_third 449 = .ok (.iastore, 1) := by decide +kernel
theorem d_R_third_450 : decode b_R_third 450 = .ok (.goto 200, 3) := by decide +kernel
theorem d_R_third_453 : decode b_R_third 453 = .ok (.iload_n 1, 1) := by decide +kernel
theorem d_R_third_454 : decode b_R_third 454 = .ok (.ifCond .ne 15, 3) := by decide +kernel
theorem d_R_third_457 : decode b_R_third 457 = .ok (.aload_n 0, 1) := by decide +kernel
theorem d_R_third_458 : decode b_R_third 458 = .ok (.iconst 1, 1) := by decide +kernel
theorem d_R_third_459 : decode b_R_third 459 = .ok (.aload_n 0, 1) := by decide +kernel
theorem d_R_third_460 : decode b_R_third 460 = .ok (.invokevirtual 239, 3) := by decide +kernel
theorem d_R_third_463 : decode b_R_third 463 = .ok (.invokevirtual 248, 3) := by decide +kernel
theorem d_R_third_466 : decode b_R_third 466 = .ok (.goto 184, 3) := by decide +kernel
theorem d_R_third_469 : decode b_R_third 469 = .ok (.iload_n 1, 1) := by decide +kernel
theorem d_R_third_470 : decode b_R_third 470 = .ok (.iconst 1, 1) := by decide +kernel
theorem d_R_third_471 : decode b_R_third 471 = .ok (.if_icmp .ne 10, 3) := by decide +kernel
theorem d_R_third_474 : decode b_R_third 474 = .ok (.aload_n 0, 1) := by decide +kernel
theorem d_R_third_475 : decode b_R_third 475 = .ok (.invokevirtual 281, 3) := by decide +kernel
theorem d_R_third_478 : decode b_R_third 478 = .ok (.goto 172, 3) := by decide +kernel
theorem d_R_third_481 : decode b_R_third 481 = .ok (.iload_n 1, 1) := by decide +kernel
theorem d_R_third_482 : decode b_R_third 482 = .ok (.bipush 6, 2) := by decide +kernel
theorem d_R_third_484 : decode b_R_third 484 = .ok (.if_icmp .ne 11, 3) := by decide +kernel
theorem d_R_third_487 : decode b_R_third 487 = .ok (.aload_n 0, 1) := by decide +kernel
theorem d_R_third_488 : decode b_R_third 488 = .ok (.iconst 0, 1) := by decide +kernel
theorem d_R_third_489 : decode b_R_third 489 = .ok (.putfield 74, 3) := by decide +kernel
theorem d_R_third_492 : decode b_R_third 492 = .ok (.goto 158, 3) := by decide +kernel
theorem d_R_third_495 : decode b_R_third 495 = .ok (.iload_n 1, 1) := by decide +kernel
theorem d_R_third_496 : decode b_R_third 496 = .ok (.bipush 7, 2) := by decide +kernel
theorem d_R_third_498 : decode b_R_third 498 = .ok (.if_icmp .ne 11, 3) := by decide +kernel
theorem d_R_third_501 : decode b_R_third 501 = .ok (.aload_n 0, 1) := by decide +kernel
theorem d_R_third_502 : decode b_R_third 502 = .ok (.iconst 1, 1) := by decide +kernel
theorem d_R_third_503 : decode b_R_third 503 = .ok (.putfield 83, 3) := by decide +kernel
theorem d_R_third_506 : decode b_R_third 506 = .ok (.goto 144, 3) := by decide +kernel
theorem d_R_third_509 : decode b_R_third 509 = .ok (.aload_n 0, 1) := by decide +kernel
theorem d_R_third_510 : decode b_R_third 510 = .ok (.iconst 1, 1) := by decide +kernel
theorem d_R_third_511 : decode b_R_third 511 = .ok (.putfield 80, 3) := by decide +kernel
theorem d_R_third_514 : decode b_R_third 514 = .ok (.goto 136, 3) := by decide +kernel
theorem d_R_third_517 : decode b_R_third 517 = .ok (.iload_n 1, 1) := by decide +kernel
theorem d_R_third_518 : decode b_R_third 518 = .ok (.iconst 3, 1) := by decide +kernel
theorem d_R_third_519 : decode b_R_third 519 = .ok (.if_icmp .le 11, 3) := by decide +kernel
theorem d_R_third_522 : decode b_R_third 522 = .ok (.aload_n 0, 1) := by decide +kernel
theorem d_R_third_523 : decode b_R_third 523 = .ok (.iconst 1, 1) := by decide +kernel
theorem d_R_third_524 : decode b_R_third 524 = .ok (.putfield 80, 3) := by decide +kernel
theorem d_R_third_527 : decode b_R_third 527 = .ok (.goto 123, 3) := by decide +kernel
theorem d_R_third_530 : decode b_R_third 530 = .ok (.aload_n 0, 1) := by decide +kernel
theorem d_R_third_531 : decode b_R_third 531 = .ok (.invokevirtual 239, 3) := by decide +kernel
theorem d_R_third_534 : decode b_R_third 534 = .ok (.istore 5, 2) := by decide +kernel
theorem d_R_third_536 : decode b_R_third 536 = .ok (.aload_n 0, 1) := by decide +kernel
theorem d_R_third_537 : decode b_R_third 537 = .ok (.aload_n 0, 1) := by decide +kernel
theorem d_R_third_538 : decode b_R_third 538 = .ok (.iload_n 1, 1) := by decide +kernel
theorem d_R_third_539 : decode b_R_third 539 = .ok (.invokevirtual 245, 3) := by decide +kernel
theorem d_R_third_542 : decode b_R_third 542 = .ok (.iload 5, 2) := by decide +kernel
theorem d_R_third_544 : decode b_R_third 544 = .ok (.invokevirtual 284, 3) := by decide +kernel
theorem d_R_third_547 : decode b_R_third 547 = .ok (.goto 103, 3) := by decide +kernel
theorem d_R_third_550 : decode b_R_third 550 = .ok (.iload_n 3, 1) := by decide +kernel
theorem d_R_third_551 : decode b_R_third 551 = .ok (.ifCond .ne 53, 3) := by decide +kernel
theorem d_R_third_554 : decode b_R_third 554 = .ok (.aload_n 0, 1) := by decide +kernel
theorem d_R_third_555 : decode b_R_third 555 = .ok (.iload 4, 2) := by decide +kernel
theorem d_R_third_557 : decode b_R_third 557 = .ok (.iconst 3, 1) := by decide +kernel
theorem d_R_third_558 : decode b_R_third 558 = .ok (.if_icmp .ge 12, 3) := by decide +kernel
theorem d_R_third_561 : decode b_R_third 561 = .ok (.aload_n 0, 1) := by decide +kernel
theorem d_R_third_562 : decode b_R_third 562 = .ok (.iload 4, 2) := by decide +kernel
theorem d_R_third_564 : decode b_R_third 564 = .ok (.invokevirtual 221, 3) := by decide +kernel
theorem d_R_third_567 : decode b_R_third 567 = .ok (.goto 21, 3) := by decide +kernel
theorem d_R_third_570 : decode b_R_third 570 = .ok (.aload_n 0, 1) := by decide +kernel
theorem d_R_third_571 : decode b_R_third 571 = .ok (.getfield 31, 3) := by decide +kernel
theorem d_R_third_574 : decode b_R_third 574 = .ok (.bipush 7, 2) := by decide +kernel
theorem d_R_third_576 : decode b_R_third 576 = .ok (.iaload, 1) := by decide +kernel
theorem d_R_third_577 : decode b_R_third 577 = .ok (.bipush 8, 2) := by decide +kernel
theorem d_R_third_579 : decode b_R_third 579 = .ok (.ishl, 1) := by decide +kernel
theorem d_R_third_580 : decode b_R_third 580 = .ok (.aload_n 0, 1) := by decide +kernel
theorem d_R_third_581 : decode b_R_third 581 = .ok (.getfield 31, 3) := by decide +kernel
theorem d_R_third_584 : decode b_R_third 584 = .ok (.bipush 6, 2) := by decide +kernel
theorem d_R_third_586 : decode b_R_third 586 = .ok (.iaload, 1) := by decide +kernel
theorem d_R_third_587 : decode b_R_third 587 = .ok (.ior, 1) := by decide +kernel
theorem d_R_third_588 : decode b_R_third 588 = .ok (.invokevirtual 235, 3) := by decide +kernel
theorem d_R_third_591 : decode b_R_third 591 = .ok (.aload_n 0, 1) := by decide +kernel
theorem d_R_third_592 : decode b_R_third 592 = .ok (.dup, 1) := by decide +kernel
theorem d_R_third_593 : decode b_R_third 593 = .ok (.getfield 209, 3) := by decide +kernel
theorem d_R_third_596 : decode b_R_third 596 = .ok (.iconst 1, 1) := by decide +kernel
theorem d_R_third_597 : decode b_R_third 597 = .ok (.iadd, 1) := by decide +kernel
theorem d_R_third_598 : decode b_R_third 598 = .ok (.putfield 209, 3) := by decide +kernel
theorem d_R_third_601 : decode b_R_third 601 = .ok (.goto 49, 3) := by decide +kernel
theorem d_R_third_604 : decode b_R_third 604 = .ok (.iload 4, 2) := by decide +kernel
theorem d_R_third_606 : decode b_R_third 606 = .ok (.ifCond .ne 15, 3) := by decide +kernel
theorem d_R_third_609 : decode b_R_third 609 = .ok (.aload_n 0, 1) := by decide +kernel
theorem d_R_third_610 : decode b_R_third 610 = .ok (.iconst 1, 1) := by decide +kernel
theorem d_R_third_611 : decode b_R_third 611 = .ok (.aload_n 0, 1) := by decide +kernel
theorem d_R_third_612 : decode b_R_third 612 = .ok (.invokevirtual 239, 3) := by decide +kernel
theorem d_R_third_615 : decode b_R_third 615 = .ok (.invokevirtual 284, 3) := by decide +kernel
theorem d_R_third_618 : decode b_R_third 618 = .ok (.goto 32, 3) := by decide +kernel
theorem d_R_third_621 : decode b_R_third 621 = .ok (.aload_n 0, 1) := by decide +kernel
theorem d_R_third_622 : decode b_R_third 622 = .ok (.iconst 1, 1) := by decide +kernel
theorem d_R_third_623 : decode b_R_third 623 = .ok (.putfield 80, 3) := by decide +kernel
theorem d_R_third_626 : decode b_R_third 626 = .ok (.goto 24, 3) := by decide +kernel
theorem d_R_third_629 : decode b_R_third 629 = .ok (.aload_n 0, 1) := by decide +kernel
theorem d_R_third_630 : decode b_R_third 630 = .ok (.iload_n 1, 1) := by decide +kernel
theorem d_R_third_631 : decode b_R_third 631 = .ok (.aload_n 0, 1) := by decide +kernel
theorem d_R_third_632 : decode b_R_third 632 = .ok (.invokevirtual 218, 3) := by decide +kernel
theorem d_R_third_635 : decode b_R_third 635 = .ok (.invokevirtual 287, 3) := by decide +kernel
theorem d_R_third_638 : decode b_R_third 638 = .ok (.goto 12, 3) := by decide +kernel
theorem d_R_third_641 : decode b_R_third 641 = .ok (.aload_n 0, 1) := by decide +kernel
theorem d_R_third_642 : decode b_R_third 642 = .ok (.iconst 1, 1) := by decide +kernel
theorem d_R_third_643 : decode b_R_third 643 = .ok (.bipush 8, 2) := by decide +kernel
theorem d_R_third_645 : decode b_R_third 645 = .ok (.iload_n 1, 1) := by decide +kernel
theorem d_R_third_646 : decode b_R_third 646 = .ok (.imul, 1) := by decide +kernel
theorem d_R_third_647 : decode b_R_third 647 = .ok (.invokevirtual 284, 3) := by decide +kernel
theorem d_R_third_650 : decode b_R_third 650 = .ok (.return_, 1) := by decide +kernel
