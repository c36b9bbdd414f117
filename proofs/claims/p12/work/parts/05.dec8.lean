theorem d_R_write_0 : decode b_R_write 0 = .ok (.aload_n 0, 1) := by decide +kernel
theorem d_R_write_1 : decode b_R_write 1 = .ok (.iconst 0, 1) := by decide +kernel
theorem d_R_write_2 : decode b_R_write 2 = .ok (.putfield 37, 3) := by decide +kernel
theorem d_R_write_5 : decode b_R_write 5 = .ok (.aload_n 0, 1) := by decide +kernel
theorem d_R_write_6 : decode b_R_write 6 = .ok (.iload_n 2, 1) := by decide +kernel
theorem d_R_write_7 : decode b_R_write 7 = .ok (.iconst 1, 1) := by decide +kernel
theorem d_R_write_8 : decode b_R_write 8 = .ok (.bipush 8, 2) := by decide +kernel
theorem d_R_write_10 : decode b_R_write 10 = .ok (.invokestatic 299, 3) := by decide +kernel
theorem d_R_write_13 : decode b_R_write 13 = .ok (.ifCond .ne 7, 3) := by decide +kernel
theorem d_R_write_16 : decode b_R_write 16 = .ok (.iconst 1, 1) := by decide +kernel
theorem d_R_write_17 : decode b_R_write 17 = .ok (.goto 4, 3) := by decide +kernel
theorem d_R_write_20 : decode b_R_write 20 = .ok (.iconst 0, 1) := by decide +kernel
theorem d_R_write_21 : decode b_R_write 21 = .ok (.iconst 1, 1) := by decide +kernel
theorem d_R_write_22 : decode b_R_write 22 = .ok (.invokevirtual 303, 3) := by decide +kernel
theorem d_R_write_25 : decode b_R_write 25 = .ok (.ifCond .ne 29, 3) := by decide +kernel
theorem d_R_write_28 : decode b_R_write 28 = .ok (.aload_n 0, 1) := by decide +kernel
theorem d_R_write_29 : decode b_R_write 29 = .ok (.iload_n 1, 1) := by decide +kernel
theorem d_R_write_30 : decode b_R_write 30 = .ok (.iconst 0, 1) := by decide +kernel
theorem d_R_write_31 : decode b_R_write 31 = .ok (.ldc_w 318, 3) := by decide +kernel
theorem d_R_write_34 : decode b_R_write 34 = .ok (.iload_n 2, 1) := by decide +kernel
theorem d_R_write_35 : decode b_R_write 35 = .ok (.isub, 1) := by decide +kernel
theorem d_R_write_36 : decode b_R_write 36 = .ok (.invokestatic 299, 3) := by decide +kernel
theorem d_R_write_39 : decode b_R_write 39 = .ok (.ifCond .ne 7, 3) := by decide +kernel
theorem d_R_write_42 : decode b_R_write 42 = .ok (.iconst 1, 1) := by decide +kernel
theorem d_R_write_43 : decode b_R_write 43 = .ok (.goto 4, 3) := by decide +kernel
theorem d_R_write_46 : decode b_R_write 46 = .ok (.iconst 0, 1) := by decide +kernel
theorem d_R_write_47 : decode b_R_write 47 = .ok (.iconst 1, 1) := by decide +kernel
theorem d_R_write_48 : decode b_R_write 48 = .ok (.invokevirtual 303, 3) := by decide +kernel
theorem d_R_write_51 : decode b_R_write 51 = .ok (.ifCond .eq 5, 3) := by decide +kernel
theorem d_R_write_54 : decode b_R_write 54 = .ok (.iconst 0, 1) := by decide +kernel
theorem d_R_write_55 : decode b_R_write 55 = .ok (.ireturn, 1) := by decide +kernel
theorem d_R_write_56 : decode b_R_write 56 = .ok (.iconst 0, 1) := by decide +kernel
theorem d_R_write_57 : decode b_R_write 57 = .ok (.istore 5, 2) := by decide +kernel
theorem d_R_write_59 : decode b_R_write 59 = .ok (.iload 5, 2) := by decide +kernel
theorem d_R_write_61 : decode b_R_write 61 = .ok (.iload_n 2, 1) := by decide +kernel
theorem d_R_write_62 : decode b_R_write 62 = .ok (.if_icmp .ge 29, 3) := by decide +kernel
theorem d_R_write_65 : decode b_R_write 65 = .ok (.aload_n 0, 1) := by decide +kernel
theorem d_R_write_66 : decode b_R_write 66 = .ok (.iload_n 1, 1) := by decide +kernel
theorem d_R_write_67 : decode b_R_write 67 = .ok (.iload 5, 2) := by decide +kernel
theorem d_R_write_69 : decode b_R_write 69 = .ok (.iadd, 1) := by decide +kernel
theorem d_R_write_70 : decode b_R_write 70 = .ok (.lload_n 3, 1) := by decide +kernel
theorem d_R_write_71 : decode b_R_write 71 = .ok (.bipush 8, 2) := by decide +kernel
theorem d_R_write_73 : decode b_R_write 73 = .ok (.iload 5, 2) := by decide +kernel
theorem d_R_write_75 : decode b_R_write 75 = .ok (.imul, 1) := by decide +kernel
theorem d_R_write_76 : decode b_R_write 76 = .ok (.lushr, 1) := by decide +kernel
theorem d_R_write_77 : decode b_R_write 77 = .ok (.ldc2_w 307, 3) := by decide +kernel
theorem d_R_write_80 : decode b_R_write 80 = .ok (.land, 1) := by decide +kernel
theorem d_R_write_81 : decode b_R_write 81 = .ok (.l2i, 1) := by decide +kernel
theorem d_R_write_82 : decode b_R_write 82 = .ok (.invokevirtual 212, 3) := by decide +kernel
theorem d_R_write_85 : decode b_R_write 85 = .ok (.iinc 5 1, 3) := by decide +kernel
theorem d_R_write_88 : decode b_R_write 88 = .ok (.goto (-29), 3) := by decide +kernel
theorem d_R_write_91 : decode b_R_write 91 = .ok (.iload_n 2, 1) := by decide +kernel
theorem d_R_write_92 : decode b_R_write 92 = .ok (.ireturn, 1) := by decide +kernel
theorem d_R_keys_0 : decode b_R_keys 0 = .ok (.aload_n 0, 1) := by decide +kernel
theorem d_R_keys_1 : decode b_R_keys 1 = .ok (.iconst 0, 1) := by decide +kernel
theorem d_R_keys_2 : decode b_R_keys 2 = .ok (.putfield 37, 3) := by decide +kernel
theorem d_R_keys_5 : decode b_R_keys 5 = .ok (.aload_n 0, 1) := by decide +kernel
theorem d_R_keys_6 : decode b_R_keys 6 = .ok (.iload_n 1, 1) := by decide +kernel
theorem d_R_keys_7 : decode b_R_keys 7 = .ok (.iconst 0, 1) := by decide +kernel
theorem d_R_keys_8 : decode b_R_keys 8 = .ok (.sipush 255, 3) := by decide +kernel
theorem d_R_keys_11 : decode b_R_keys 11 = .ok (.invokestatic 299, 3) := by decide +kernel
theorem d_R_keys_14 : decode b_R_keys 14 = .ok (.ifCond .ne 7, 3) := by decide +kernel
theorem d_R_keys_17 : decode b_R_keys 17 = .ok (.iconst 1, 1) := by decide +kernel
theorem d_R_keys_18 : decode b_R_keys 18 = .ok (.goto 4, 3) := by decide +kernel
theorem d_R_keys_21 : decode b_R_keys 21 = .ok (.iconst 0, 1) := by decide +kernel
theorem d_R_keys_22 : decode b_R_keys 22 = .ok (.iconst 1, 1) := by decide +kernel
theorem d_R_keys_23 : decode b_R_keys 23 = .ok (.invokevirtual 303, 3) := by decide +kernel
theorem d_R_keys_26 : decode b_R_keys 26 = .ok (.ifCond .eq 5, 3) := by decide +kernel
theorem d_R_keys_29 : decode b_R_keys 29 = .ok (.iconst 0, 1) := by decide +kernel
theorem d_R_keys_30 : decode b_R_keys 30 = .ok (.ireturn, 1) := by decide +kernel
theorem d_R_keys_31 : decode b_R_keys 31 = .ok (.aload_n 0, 1) := by decide +kernel
theorem d_R_keys_32 : decode b_R_keys 32 = .ok (.getfield 167, 3) := by decide +kernel
theorem d_R_keys_35 : decode b_R_keys 35 = .ok (.istore_n 2, 1) := by decide +kernel
theorem d_R_keys_36 : decode b_R_keys 36 = .ok (.iload_n 1, 1) := by decide +kernel
theorem d_R_keys_37 : decode b_R_keys 37 = .ok (.iload_n 2, 1) := by decide +kernel
theorem d_R_keys_38 : decode b_R_keys 38 = .ok (.iconst (-1), 1) := by decide +kernel
theorem d_R_keys_39 : decode b_R_keys 39 = .ok (.ixor, 1) := by decide +kernel
theorem d_R_keys_40 : decode b_R_keys 40 = .ok (.iand, 1) := by decide +kernel
theorem d_R_keys_41 : decode b_R_keys 41 = .ok (.ifCond .eq 14, 3) := by decide +kernel
theorem d_R_keys_44 : decode b_R_keys 44 = .ok (.aload_n 0, 1) := by decide +kernel
theorem d_R_keys_45 : decode b_R_keys 45 = .ok (.dup, 1) := by decide +kernel
theorem d_R_keys_46 : decode b_R_keys 46 = .ok (.getfield 101, 3) := by decide +kernel
theorem d_R_keys_49 : decode b_R_keys 49 = .ok (.bipush 16, 2) := by decide +kernel
theorem d_R_keys_51 : decode b_R_keys 51 = .ok (.ior, 1) := by decide +kernel
theorem d_R_keys_52 : decode b_R_keys 52 = .ok (.putfield 101, 3) := by decide +kernel
theorem d_R_keys_55 : decode b_R_keys 55 = .ok (.aload_n 0, 1) := by decide +kernel
theorem d_R_keys_56 : decode b_R_keys 56 = .ok (.iload_n 1, 1) := by decide +kernel
theorem d_R_keys_57 : decode b_R_keys 57 = .ok (.putfield 167, 3) := by decide +kernel
theorem d_R_keys_60 : decode b_R_keys 60 = .ok (.iload_n 2, 1) := by decide +kernel
theorem d_R_keys_61 : decode b_R_keys 61 = .ok (.ireturn, 1) := by decide +kernel
theorem d_R_dots_0 : decode b_R_dots 0 = .ok (.aload_n 0, 1) := by decide +kernel
theorem d_R_dots_1 : decode b_R_dots 1 = .ok (.getfield 16, 3) := by decide +kernel
theorem d_R_dots_4 : decode b_R_dots 4 = .ok (.iload_n 1, 1) := by decide +kernel
theorem d_R_dots_5 : decode b_R_dots 5 = .ok (.ldc 177, 2) := by decide +kernel
theorem d_R_dots_7 : decode b_R_dots 7 = .ok (.isub, 1) := by decide +kernel
theorem d_R_dots_8 : decode b_R_dots 8 = .ok (.iaload, 1) := by decide +kernel
theorem d_R_dots_9 : decode b_R_dots 9 = .ok (.bipush 7, 2) := by decide +kernel
theorem d_R_dots_11 : decode b_R_dots 11 = .ok (.iload_n 2, 1) := by decide +kernel
theorem d_R_dots_12 : decode b_R_dots 12 = .ok (.isub, 1) := by decide +kernel
theorem d_R_dots_13 : decode b_R_dots 13 = .ok (.ishr, 1) := by decide +kernel
theorem d_R_dots_14 : decode b_R_dots 14 = .ok (.iconst 1, 1) := by decide +kernel
theorem d_R_dots_15 : decode b_R_dots 15 = .ok (.iand, 1) := by decide +kernel
theorem d_R_dots_16 : decode b_R_dots 16 = .ok (.aload_n 0, 1) := by decide +kernel
theorem d_R_dots_17 : decode b_R_dots 17 = .ok (.getfield 16, 3) := by decide +kernel
theorem d_R_dots_20 : decode b_R_dots 20 = .ok (.iload_n 1, 1) := by decide +kernel
theorem d_R_dots_21 : decode b_R_dots 21 = .ok (.sipush 32767, 3) := by decide +kernel
theorem d_R_dots_24 : decode b_R_dots 24 = .ok (.isub, 1) := by decide +kernel
theorem d_R_dots_25 : decode b_R_dots 25 = .ok (.iaload, 1) := by decide +kernel
theorem d_R_dots_26 : decode b_R_dots 26 = .ok (.bipush 7, 2) := by decide +kernel
theorem d_R_dots_28 : decode b_R_dots 28 = .ok (.iload_n 2, 1) := by decide +kernel
theorem d_R_dots_29 : decode b_R_dots 29 = .ok (.isub, 1) := by decide +kernel
theorem d_R_dots_30 : decode b_R_dots 30 = .ok (.ishr, 1) := by decide +kernel
theorem d_R_dots_31 : decode b_R_dots 31 = .ok (.iconst 1, 1) := by decide +kernel
theorem d_R_dots_32 : decode b_R_dots 32 = .ok (.iand, 1) := by decide +kernel
theorem d_R_dots_33 : decode b_R_dots 33 = .ok (.iconst 1, 1) := by decide +kernel
theorem d_R_dots_34 : decode b_R_dots 34 = .ok (.ishl, 1) := by decide +kernel
theorem d_R_dots_35 : decode b_R_dots 35 = .ok (.ior, 1) := by decide +kernel
theorem d_R_dots_36 : decode b_R_dots 36 = .ok (.ireturn, 1) := by decide +kernel
theorem d_R_background_0 : decode b_R_background 0 = .ok (.aload_n 0, 1) := by decide +kernel
theorem d_R_background_1 : decode b_R_background 1 = .ok (.getfield 107, 3) := by decide +kernel
theorem d_R_background_4 : decode b_R_background 4 = .ok (.iconst 1, 1) := by decide +kernel
theorem d_R_background_5 : decode b_R_background 5 = .ok (.iand, 1) := by decide +kernel
theorem d_R_background_6 : decode b_R_background 6 = .ok (.ifCond .ne 5, 3) := by decide +kernel
theorem d_R_background_9 : decode b_R_background 9 = .ok (.iconst 0, 1) := by decide +kernel
theorem d_R_background_10 : decode b_R_background 10 = .ok (.ireturn, 1) := by decide +kernel
theorem d_R_background_11 : decode b_R_background 11 = .ok (.aload_n 0, 1) := by decide +kernel
theorem d_R_background_12 : decode b_R_background 12 = .ok (.getfield 107, 3) := by decide +kernel
theorem d_R_background_15 : decode b_R_background 15 = .ok (.bipush 32, 2) := by decide +kernel
theorem d_R_background_17 : decode b_R_background 17 = .ok (.iand, 1) := by decide +kernel
theorem d_R_background_18 : decode b_R_background 18 = .ok (.ifCond .le 26, 3) := by decide +kernel
theorem d_R_background_21 : decode b_R_background 21 = .ok (.iload_n 2, 1) := by decide +kernel
theorem d_R_background_22 : decode b_R_background 22 = .ok (.aload_n 0, 1) := by decide +kernel
theorem d_R_background_23 : decode b_R_background 23 = .ok (.getfield 137, 3) := by decide +kernel
theorem d_R_background_26 : decode b_R_background 26 = .ok (.if_icmp .lt 18, 3) := by decide +kernel
theorem d_R_background_29 : decode b_R_background 29 = .ok (.iload_n 1, 1) := by decide +kernel
theorem d_R_background_30 : decode b_R_background 30 = .ok (.bipush 7, 2) := by decide +kernel
theorem d_R_background_32 : decode b_R_background 32 = .ok (.iadd, 1) := by decide +kernel
theorem d_R_background_33 : decode b_R_background 33 = .ok (.aload_n 0, 1) := by decide +kernel
theorem d_R_background_34 : decode b_R_background 34 = .ok (.getfield 140, 3) := by decide +kernel
theorem d_R_background_37 : decode b_R_background 37 = .ok (.if_icmp .lt 7, 3) := by decide +kernel
theorem d_R_background_40 : decode b_R_background 40 = .ok (.iconst 1, 1) := by decide +kernel
theorem d_R_background_41 : decode b_R_background 41 = .ok (.goto 4, 3) := by decide +kernel
theorem d_R_background_44 : decode b_R_background 44 = .ok (.iconst 0, 1) := by decide +kernel
theorem d_R_background_45 : decode b_R_background 45 = .ok (.istore_n 3, 1) := by decide +kernel
theorem d_R_background_46 : decode b_R_background 46 = .ok (.iload_n 3, 1) := by decide +kernel
theorem d_R_background_47 : decode b_R_background 47 = .ok (.ifCond .eq 15, 3) := by decide +kernel
theorem d_R_background_50 : decode b_R_background 50 = .ok (.iload_n 1, 1) := by decide +kernel
theorem d_R_background_51 : decode b_R_background 51 = .ok (.bipush 7, 2) := by decide +kernel
theorem d_R_background_53 : decode b_R_background 53 = .ok (.iadd, 1) := by decide +kernel
theorem d_R_background_54 : decode b_R_background 54 = .ok (.aload_n 0, 1) := by decide +kernel
theorem d_R_background_55 : decode b_R_background 55 = .ok (.getfield 140, 3) := by decide +kernel
theorem d_R_background_58 : decode b_R_background 58 = .ok (.isub, 1) := by decide +kernel
theorem d_R_background_59 : decode b_R_background 59 = .ok (.goto 13, 3) := by decide +kernel
theorem d_R_background_62 : decode b_R_background 62 = .ok (.iload_n 1, 1) := by decide +kernel
theorem d_R_background_63 : decode b_R_background 63 = .ok (.aload_n 0, 1) := by decide +kernel
theorem d_R_background_64 : decode b_R_background 64 = .ok (.getfield 116, 3) := by decide +kernel
theorem d_R_background_67 : decode b_R_background 67 = .ok (.iadd, 1) := by decide +kernel
theorem d_R_background_68 : decode b_R_background 68 = .ok (.sipush 255, 3) := by decide +kernel
theorem d_R_background_71 : decode b_R_background 71 = .ok (.iand, 1) := by decide +kernel
theorem d_R_background_72 : decode b_R_background 72 = .ok (.istore 4, 2) := by decide +kernel
theorem d_R_background_74 : decode b_R_background 74 = .ok (.iload_n 3, 1) := by decide +kernel
theorem d_R_background_75 : decode b_R_background 75 = .ok (.ifCond .eq 12, 3) := by decide +kernel
theorem d_R_background_78 : decode b_R_background 78 = .ok (.iload_n 2, 1) := by decide +kernel
theorem d_R_background_79 : decode b_R_background 79 = .ok (.aload_n 0, 1) := by decide +kernel
theorem d_R_background_80 : decode b_R_background 80 = .ok (.getfield 137, 3) := by decide +kernel
theorem d_R_background_83 : decode b_R_background 83 = .ok (.isub, 1) := by decide +kernel
theorem d_R_background_84 : decode b_R_background 84 = .ok (.goto 13, 3) := by decide +kernel
theorem d_R_background_87 : decode b_R_background 87 = .ok (.iload_n 2, 1) := by decide +kernel
theorem d_R_background_88 : decode b_R_background 88 = .ok (.aload_n 0, 1) := by decide +kernel
theorem d_R_background_89 : decode b_R_background 89 = .ok (.getfield 113, 3) := by decide +kernel
theorem d_R_background_92 : decode b_R_background 92 = .ok (.iadd, 1) := by decide +kernel
theorem d_R_background_93 : decode b_R_background 93 = .ok (.sipush 255, 3) := by decide +kernel
theorem d_R_background_96 : decode b_R_background 96 = .ok (.iand, 1) := by decide +kernel
theorem d_R_background_97 : decode b_R_background 97 = .ok (.istore 5, 2) := by decide +kernel
theorem d_R_background_99 : decode b_R_background 99 = .ok (.aload_n 0, 1) := by decide +kernel
theorem d_R_background_100 : decode b_R_background 100 = .ok (.getfield 107, 3) := by decide +kernel
theorem d_R_background_103 : decode b_R_background 103 = .ok (.iload_n 3, 1) := by decide +kernel
theorem d_R_background_104 : decode b_R_background 104 = .ok (.ifCond .eq 8, 3) := by decide +kernel
theorem d_R_background_107 : decode b_R_background 107 = .ok (.bipush 64, 2) := by decide +kernel
theorem d_R_background_109 : decode b_R_background 109 = .ok (.goto 5, 3) := by decide +kernel
theorem d_R_background_112 : decode b_R_background 112 = .ok (.bipush 8, 2) := by decide +kernel
theorem d_R_background_114 : decode b_R_background 114 = .ok (.iand, 1) := by decide +kernel
theorem d_R_background_115 : decode b_R_background 115 = .ok (.ifCond .le 9, 3) := by decide +kernel
theorem d_R_background_118 : decode b_R_background 118 = .ok (.ldc_w 319, 3) := by decide +kernel
theorem d_R_background_121 : decode b_R_background 121 = .ok (.goto 6, 3) := by decide +kernel
theorem d_R_background_124 : decode b_R_background 124 = .ok (.ldc_w 320, 3) := by decide +kernel
theorem d_R_background_127 : decode b_R_background 127 = .ok (.istore 6, 2) := by decide +kernel
theorem d_R_background_129 : decode b_R_background 129 = .ok (.aload_n 0, 1) := by decide +kernel
theorem d_R_background_130 : decode b_R_background 130 = .ok (.getfield 16, 3) := by decide +kernel
theorem d_R_background_133 : decode b_R_background 133 = .ok (.iload 6, 2) := by decide +kernel
theorem d_R_background_135 : decode b_R_background 135 = .ok (.bipush 32, 2) := by decide +kernel
theorem d_R_background_137 : decode b_R_background 137 = .ok (.iload 5, 2) := by decide +kernel
theorem d_R_background_139 : decode b_R_background 139 = .ok (.bipush 8, 2) := by decide +kernel
theorem d_R_background_141 : decode b_R_background 141 = .ok (.idiv, 1) := by decide +kernel
theorem d_R_background_142 : decode b_R_background 142 = .ok (.imul, 1) := by decide +kernel
theorem d_R_background_143 : decode b_R_background 143 = .ok (.iadd, 1) := by decide +kernel
theorem d_R_background_144 : decode b_R_background 144 = .ok (.iload 4, 2) := by decide +kernel
theorem d_R_background_146 : decode b_R_background 146 = .ok (.bipush 8, 2) := by decide +kernel
theorem d_R_background_148 : decode b_R_background 148 = .ok (.idiv, 1) := by decide +kernel
theorem d_R_background_149 : decode b_R_background 149 = .ok (.iadd, 1) := by decide +kernel
theorem d_R_background_150 : decode b_R_background 150 = .ok (.ldc 177, 2) := by decide +kernel
theorem d_R_background_152 : decode b_R_background 152 = .ok (.isub, 1) := by decide +kernel
theorem d_R_background_153 : decode b_R_background 153 = .ok (.iaload, 1) := by decide +kernel
theorem d_R_background_154 : decode b_R_background 154 = .ok (.istore 7, 2) := by decide +kernel
theorem d_R_background_156 : decode b_R_background 156 = .ok (.aload_n 0, 1) := by decide +kernel
theorem d_R_background_157 : decode b_R_background 157 = .ok (.aload_n 0, 1) := by decide +kernel
theorem d_R_background_158 : decode b_R_background 158 = .ok (.getfield 107, 3) := by decide +kernel
theorem d_R_background_161 : decode b_R_background 161 = .ok (.bipush 16, 2) := by decide +kernel
theorem d_R_background_163 : decode b_R_background 163 = .ok (.iand, 1) := by decide +kernel
theorem d_R_background_164 : decode b_R_background 164 = .ok (.ifCond .le 14, 3) := by decide +kernel
theorem d_R_background_167 : decode b_R_background 167 = .ok (.ldc 177, 2) := by decide +kernel
theorem d_R_background_169 : decode b_R_background 169 = .ok (.bipush 16, 2) := by decide +kernel
theorem d_R_background_171 : decode b_R_background 171 = .ok (.iload 7, 2) := by decide +kernel
theorem d_R_background_173 : decode b_R_background 173 = .ok (.imul, 1) := by decide +kernel
theorem d_R_background_174 : decode b_R_background 174 = .ok (.iadd, 1) := by decide +kernel
theorem d_R_background_175 : decode b_R_background 175 = .ok (.goto 15, 3) := by decide +kernel
theorem d_R_background_178 : decode b_R_background 178 = .ok (.ldc_w 321, 3) := by decide +kernel
theorem d_R_background_181 : decode b_R_background 181 = .ok (.bipush 16, 2) := by decide +kernel
theorem d_R_background_183 : decode b_R_background 183 = .ok (.iload 7, 2) := by decide +kernel
theorem d_R_background_185 : decode b_R_background 185 = .ok (.invokestatic 242, 3) := by decide +kernel
theorem d_R_background_188 : decode b_R_background 188 = .ok (.imul, 1) := by decide +kernel
theorem d_R_background_189 : decode b_R_background 189 = .ok (.iadd, 1) := by decide +kernel
theorem d_R_background_190 : decode b_R_background 190 = .ok (.iconst 2, 1) := by decide +kernel
theorem d_R_background_191 : decode b_R_background 191 = .ok (.iload 5, 2) := by decide +kernel
theorem d_R_background_193 : decode b_R_background 193 = .ok (.bipush 7, 2) := by decide +kernel
theorem d_R_background_195 : decode b_R_background 195 = .ok (.iand, 1) := by decide +kernel
theorem d_R_background_196 : decode b_R_background 196 = .ok (.imul, 1) := by decide +kernel
theorem d_R_background_197 : decode b_R_background 197 = .ok (.iadd, 1) := by decide +kernel
theorem d_R_background_198 : decode b_R_background 198 = .ok (.iload 4, 2) := by decide +kernel
theorem d_R_background_200 : decode b_R_background 200 = .ok (.bipush 7, 2) := by decide +kernel
theorem d_R_background_202 : decode b_R_background 202 = .ok (.iand, 1) := by decide +kernel
theorem d_R_background_203 : decode b_R_background 203 = .ok (.invokevirtual 322, 3) := by decide +kernel
theorem d_R_background_206 : decode b_R_background 206 = .ok (.ireturn, 1) := by decide +kernel
theorem d_R_number_0 : decode b_R_number 0 = .ok (.aload_n 0, 1) := by decide +kernel
theorem d_R_number_1 : decode b_R_number 1 = .ok (.getfield 22, 3) := by decide +kernel
theorem d_R_number_4 : decode b_R_number 4 = .ok (.iload_n 1, 1) := by decide +kernel
theorem d_R_number_5 : decode b_R_number 5 = .ok (.iconst 3, 1) := by decide +kernel
theorem d_R_number_6 : decode b_R_number 6 = .ok (.iadd, 1) := by decide +kernel
theorem d_R_number_7 : decode b_R_number 7 = .ok (.iaload, 1) := by decide +kernel
theorem d_R_number_8 : decode b_R_number 8 = .ok (.istore 5, 2) := by decide +kernel
theorem d_R_number_10 : decode b_R_number 10 = .ok (.iload 4, 2) := by decide +kernel
theorem d_R_number_12 : decode b_R_number 12 = .ok (.bipush 16, 2) := by decide +kernel
theorem d_R_number_14 : decode b_R_number 14 = .ok (.if_icmp .ne 18, 3) := by decide +kernel
theorem d_R_number_17 : decode b_R_number 17 = .ok (.aload_n 0, 1) := by decide +kernel
theorem d_R_number_18 : decode b_R_number 18 = .ok (.getfield 22, 3) := by decide +kernel
theorem d_R_number_21 : decode b_R_number 21 = .ok (.iload_n 1, 1) := by decide +kernel
theorem d_R_number_22 : decode b_R_number 22 = .ok (.iconst 2, 1) := by decide +kernel
theorem d_R_number_23 : decode b_R_number 23 = .ok (.iadd, 1) := by decide +kernel
theorem d_R_number_24 : decode b_R_number 24 = .ok (.iaload, 1) := by decide +kernel
theorem d_R_number_25 : decode b_R_number 25 = .ok (.sipush 254, 3) := by decide +kernel
theorem d_R_number_28 : decode b_R_number 28 = .ok (.iand, 1) := by decide +kernel
theorem d_R_number_29 : decode b_R_number 29 = .ok (.goto 11, 3) := by decide +kernel
theorem d_R_number_32 : decode b_R_number 32 = .ok (.aload_n 0, 1) := by decide +kernel
theorem d_R_number_33 : decode b_R_number 33 = .ok (.getfield 22, 3) := by decide +kernel
theorem d_R_number_36 : decode b_R_number 36 = .ok (.iload_n 1, 1) := by decide +kernel
theorem d_R_number_37 : decode b_R_number 37 = .ok (.iconst 2, 1) := by decide +kernel
theorem d_R_number_38 : decode b_R_number 38 = .ok (.iadd, 1) := by decide +kernel
theorem d_R_number_39 : decode b_R_number 39 = .ok (.iaload, 1) := by decide +kernel
theorem d_R_number_40 : decode b_R_number 40 = .ok (.istore 6, 2) := by decide +kernel
theorem d_R_number_42 : decode b_R_number 42 = .ok (.iload 5, 2) := by decide +kernel
theorem d_R_number_44 : decode b_R_number 44 = .ok (.bipush 64, 2) := by decide +kernel
theorem d_R_number_46 : decode b_R_number 46 = .ok (.iand, 1) := by decide +kernel
theorem d_R_number_47 : decode b_R_number 47 = .ok (.ifCond .le 12, 3) := by decide +kernel
theorem d_R_number_50 : decode b_R_number 50 = .ok (.iload 4, 2) := by decide +kernel
theorem d_R_number_52 : decode b_R_number 52 = .ok (.iconst 1, 1) := by decide +kernel
theorem d_R_number_53 : decode b_R_number 53 = .ok (.isub, 1) := by decide +kernel
theorem d_R_number_54 : decode b_R_number 54 = .ok (.iload_n 2, 1) := by decide +kernel
theorem d_R_number_55 : decode b_R_number 55 = .ok (.isub, 1) := by decide +kernel
theorem d_R_number_56 : decode b_R_number 56 = .ok (.goto 4, 3) := by decide +kernel
theorem d_R_number_59 : decode b_R_number 59 = .ok (.iload_n 2, 1) := by decide +kernel
theorem d_R_number_60 : decode b_R_number 60 = .ok (.istore 7, 2) := by decide +kernel
theorem d_R_number_62 : decode b_R_number 62 = .ok (.aload_n 0, 1) := by decide +kernel
theorem d_R_number_63 : decode b_R_number 63 = .ok (.ldc 177, 2) := by decide +kernel
theorem d_R_number_65 : decode b_R_number 65 = .ok (.bipush 16, 2) := by decide +kernel
theorem d_R_number_67 : decode b_R_number 67 = .ok (.iload 6, 2) := by decide +kernel
theorem d_R_number_69 : decode b_R_number 69 = .ok (.imul, 1) := by decide +kernel
theorem d_R_number_70 : decode b_R_number 70 = .ok (.iadd, 1) := by decide +kernel
theorem d_R_number_71 : decode b_R_number 71 = .ok (.iconst 2, 1) := by decide +kernel
theorem d_R_number_72 : decode b_R_number 72 = .ok (.iload 7, 2) := by decide +kernel
theorem d_R_number_74 : decode b_R_number 74 = .ok (.imul, 1) := by decide +kernel
theorem d_R_number_75 : decode b_R_number 75 = .ok (.iadd, 1) := by decide +kernel
theorem d_R_number_76 : decode b_R_number 76 = .ok (.iload 5, 2) := by decide +kernel
theorem d_R_number_78 : decode b_R_number 78 = .ok (.bipush 32, 2) := by decide +kernel
theorem d_R_number_80 : decode b_R_number 80 = .ok (.iand, 1) := by decide +kernel
theorem d_R_number_81 : decode b_R_number 81 = .ok (.ifCond .le 10, 3) := by decide +kernel
theorem d_R_number_84 : decode b_R_number 84 = .ok (.bipush 7, 2) := by decide +kernel
theorem d_R_number_86 : decode b_R_number 86 = .ok (.iload_n 3, 1) := by decide +kernel
theorem d_R_number_87 : decode b_R_number 87 = .ok (.isub, 1) := by decide +kernel
theorem d_R_number_88 : decode b_R_number 88 = .ok (.goto 4, 3) := by decide +kernel
theorem d_R_number_91 : decode b_R_number 91 = .ok (.iload_n 3, 1) := by decide +kernel
theorem d_R_number_92 : decode b_R_number 92 = .ok (.invokevirtual 322, 3) := by decide +kernel
theorem d_R_number_95 : decode b_R_number 95 = .ok (.ireturn, 1) := by decide +kernel
theorem d_R_sprite_0 : decode b_R_sprite 0 = .ok (.aload_n 0, 1) := by decide +kernel
theorem d_R_sprite_1 : decode b_R_sprite 1 = .ok (.getfield 107, 3) := by decide +kernel
theorem d_R_sprite_4 : decode b_R_sprite 4 = .ok (.iconst 4, 1) := by decide +kernel
theorem d_R_sprite_5 : decode b_R_sprite 5 = .ok (.iand, 1) := by decide +kernel
theorem d_R_sprite_6 : decode b_R_sprite 6 = .ok (.ifCond .le 8, 3) := by decide +kernel
theorem d_R_sprite_9 : decode b_R_sprite 9 = .ok (.bipush 16, 2) := by decide +kernel
theorem d_R_sprite_11 : decode b_R_sprite 11 = .ok (.goto 5, 3) := by decide +kernel
theorem d_R_sprite_14 : decode b_R_sprite 14 = .ok (.bipush 8, 2) := by decide +kernel
theorem d_R_sprite_16 : decode b_R_sprite 16 = .ok (.istore_n 3, 1) := by decide +kernel
theorem d_R_sprite_17 : decode b_R_sprite 17 = .ok (.iconst 0, 1) := by decide +kernel
theorem d_R_sprite_18 : decode b_R_sprite 18 = .ok (.istore 4, 2) := by decide +kernel
theorem d_R_sprite_20 : decode b_R_sprite 20 = .ok (.iconst (-1), 1) := by decide +kernel
theorem d_R_sprite_21 : decode b_R_sprite 21 = .ok (.istore 5, 2) := by decide +kernel
theorem d_R_sprite_23 : decode b_R_sprite 23 = .ok (.iconst 0, 1) := by decide +kernel
theorem d_R_sprite_24 : decode b_R_sprite 24 = .ok (.istore 6, 2) := by decide +kernel
theorem d_R_sprite_26 : decode b_R_sprite 26 = .ok (.iload 6, 2) := by decide +kernel
theorem d_R_sprite_28 : decode b_R_sprite 28 = .ok (.sipush 160, 3) := by decide +kernel
theorem d_R_sprite_31 : decode b_R_sprite 31 = .ok (.if_icmp .ge 131, 3) := by decide +kernel
theorem d_R_sprite_34 : decode b_R_sprite 34 = .ok (.iload 4, 2) := by decide +kernel
theorem d_R_sprite_36 : decode b_R_sprite 36 = .ok (.bipush 10, 2) := by decide +kernel
theorem d_R_sprite_38 : decode b_R_sprite 38 = .ok (.if_icmp .ge 124, 3) := by decide +kernel
theorem d_R_sprite_41 : decode b_R_sprite 41 = .ok (.aload_n 0, 1) := by decide +kernel
theorem d_R_sprite_42 : decode b_R_sprite 42 = .ok (.getfield 107, 3) := by decide +kernel
theorem d_R_sprite_45 : decode b_R_sprite 45 = .ok (.iconst 2, 1) := by decide +kernel
theorem d_R_sprite_46 : decode b_R_sprite 46 = .ok (.iand, 1) := by decide +kernel
theorem d_R_sprite_47 : decode b_R_sprite 47 = .ok (.ifCond .le 115, 3) := by decide +kernel
theorem d_R_sprite_50 : decode b_R_sprite 50 = .ok (.iload_n 2, 1) := by decide +kernel
theorem d_R_sprite_51 : decode b_R_sprite 51 = .ok (.aload_n 0, 1) := by decide +kernel
theorem d_R_sprite_52 : decode b_R_sprite 52 = .ok (.getfield 22, 3) := by decide +kernel
theorem d_R_sprite_55 : decode b_R_sprite 55 = .ok (.iload 6, 2) := by decide +kernel
theorem d_R_sprite_57 : decode b_R_sprite 57 = .ok (.iaload, 1) := by decide +kernel
theorem d_R_sprite_58 : decode b_R_sprite 58 = .ok (.bipush 16, 2) := by decide +kernel
theorem d_R_sprite_60 : decode b_R_sprite 60 = .ok (.isub, 1) := by decide +kernel
theorem d_R_sprite_61 : decode b_R_sprite 61 = .ok (.isub, 1) := by decide +kernel
theorem d_R_sprite_62 : decode b_R_sprite 62 = .ok (.istore 7, 2) := by decide +kernel
theorem d_R_sprite_64 : decode b_R_sprite 64 = .ok (.iload_n 1, 1) := by decide +kernel
theorem d_R_sprite_65 : decode b_R_sprite 65 = .ok (.aload_n 0, 1) := by decide +kernel
theorem d_R_sprite_66 : decode b_R_sprite 66 = .ok (.getfield 22, 3) := by decide +kernel
theorem d_R_sprite_69 : decode b_R_sprite 69 = .ok (.iload 6, 2) := by decide +kernel
theorem d_R_sprite_71 : decode b_R_sprite 71 = .ok (.iconst 1, 1) := by decide +kernel
theorem d_R_sprite_72 : decode b_R_sprite 72 = .ok (.iadd, 1) := by decide +kernel
theorem d_R_sprite_73 : decode b_R_sprite 73 = .ok (.iaload, 1) := by decide +kernel
theorem d_R_sprite_74 : decode b_R_sprite 74 = .ok (.bipush 8, 2) := by decide +kernel
theorem d_R_sprite_76 : decode b_R_sprite 76 = .ok (.isub, 1) := by decide +kernel
theorem d_R_sprite_77 : decode b_R_sprite 77 = .ok (.isub, 1) := by decide +kernel
theorem d_R_sprite_78 : decode b_R_sprite 78 = .ok (.istore 8, 2) := by decide +kernel
theorem d_R_sprite_80 : decode b_R_sprite 80 = .ok (.iload 7, 2) := by decide +kernel
theorem d_R_sprite_82 : decode b_R_sprite 82 = .ok (.ifCond .lt 74, 3) := by decide +kernel
theorem d_R_sprite_85 : decode b_R_sprite 85 = .ok (.iload 7, 2) := by decide +kernel
theorem d_R_sprite_87 : decode b_R_sprite 87 = .ok (.iload_n 3, 1) := by decide +kernel
theorem d_R_sprite_88 : decode b_R_sprite 88 = .ok (.if_icmp .lt 6, 3) := by decide +kernel
theorem d_R_sprite_91 : decode b_R_sprite 91 = .ok (.goto 65, 3) := by decide +kernel
theorem d_R_sprite_94 : decode b_R_sprite 94 = .ok (.iinc 4 1, 3) := by decide +kernel
theorem d_R_sprite_97 : decode b_R_sprite 97 = .ok (.iload 8, 2) := by decide +kernel
theorem d_R_sprite_99 : decode b_R_sprite 99 = .ok (.ifCond .lt 57, 3) := by decide +kernel
theorem d_R_sprite_102 : decode b_R_sprite 102 = .ok (.iload 8, 2) := by decide +kernel
theorem d_R_sprite_104 : decode b_R_sprite 104 = .ok (.bipush 7, 2) := by decide +kernel
theorem d_R_sprite_106 : decode b_R_sprite 106 = .ok (.if_icmp .gt 50, 3) := by decide +kernel
theorem d_R_sprite_109 : decode b_R_sprite 109 = .ok (.aload_n 0, 1) := by decide +kernel
theorem d_R_sprite_110 : decode b_R_sprite 110 = .ok (.iload 6, 2) := by decide +kernel
theorem d_R_sprite_112 : decode b_R_sprite 112 = .ok (.iload 7, 2) := by decide +kernel
theorem d_R_sprite_114 : decode b_R_sprite 114 = .ok (.iload 8, 2) := by decide +kernel
theorem d_R_sprite_116 : decode b_R_sprite 116 = .ok (.iload_n 3, 1) := by decide +kernel
theorem d_R_sprite_117 : decode b_R_sprite 117 = .ok (.invokevirtual 325, 3) := by decide +kernel
theorem d_R_sprite_120 : decode b_R_sprite 120 = .ok (.ifCond .ne 6, 3) := by decide +kernel
theorem d_R_sprite_123 : decode b_R_sprite 123 = .ok (.goto 33, 3) := by decide +kernel
theorem d_R_sprite_126 : decode b_R_sprite 126 = .ok (.iload 5, 2) := by decide +kernel
theorem d_R_sprite_128 : decode b_R_sprite 128 = .ok (.ifCond .lt 24, 3) := by decide +kernel
theorem d_R_sprite_131 : decode b_R_sprite 131 = .ok (.aload_n 0, 1) := by decide +kernel
theorem d_R_sprite_132 : decode b_R_sprite 132 = .ok (.getfield 22, 3) := by decide +kernel
theorem d_R_sprite_135 : decode b_R_sprite 135 = .ok (.iload 6, 2) := by decide +kernel
theorem d_R_sprite_137 : decode b_R_sprite 137 = .ok (.iconst 1, 1) := by decide +kernel
theorem d_R_sprite_138 : decode b_R_sprite 138 = .ok (.iadd, 1) := by decide +kernel
theorem d_R_sprite_139 : decode b_R_sprite 139 = .ok (.iaload, 1) := by decide +kernel
theorem d_R_sprite_140 : decode b_R_sprite 140 = .ok (.aload_n 0, 1) := by decide +kernel
theorem d_R_sprite_141 : decode b_R_sprite 141 = .ok (.getfield 22, 3) := by decide +kernel
theorem d_R_sprite_144 : decode b_R_sprite 144 = .ok (.iload 5, 2) := by decide +kernel
theorem d_R_sprite_146 : decode b_R_sprite 146 = .ok (.iconst 1, 1) := by decide +kernel
theorem d_R_sprite_147 : decode b_R_sprite 147 = .ok (.iadd, 1) := by decide +kernel
theorem d_R_sprite_148 : decode b_R_sprite 148 = .ok (.iaload, 1) := by decide +kernel
theorem d_R_sprite_149 : decode b_R_sprite 149 = .ok (.if_icmp .ge 7, 3) := by decide +kernel
theorem d_R_sprite_152 : decode b_R_sprite 152 = .ok (.iload 6, 2) := by decide +kernel
theorem d_R_sprite_154 : decode b_R_sprite 154 = .ok (.istore 5, 2) := by decide +kernel
theorem d_R_sprite_156 : decode b_R_sprite 156 = .ok (.iinc 6 4, 3) := by decide +kernel
theorem d_R_sprite_159 : decode b_R_sprite 159 = .ok (.goto (-133), 3) := by decide +kernel
theorem d_R_sprite_162 : decode b_R_sprite 162 = .ok (.iload 5, 2) := by decide +kernel
theorem d_R_sprite_164 : decode b_R_sprite 164 = .ok (.ireturn, 1) := by decide +kernel
theorem d_R_row_0 : decode b_R_row 0 = .ok (.aload_n 0, 1) := by decide +kernel
theorem d_R_row_1 : decode b_R_row 1 = .ok (.iconst 0, 1) := by decide +kernel
theorem d_R_row_2 : decode b_R_row 2 = .ok (.putfield 37, 3) := by decide +kernel
theorem d_R_row_5 : decode b_R_row 5 = .ok (.aload_n 0, 1) := by decide +kernel
theorem d_R_row_6 : decode b_R_row 6 = .ok (.iload_n 1, 1) := by decide +kernel
theorem d_R_row_7 : decode b_R_row 7 = .ok (.iconst 0, 1) := by decide +kernel
theorem d_R_row_8 : decode b_R_row 8 = .ok (.sipush 143, 3) := by decide +kernel
theorem d_R_row_11 : decode b_R_row 11 = .ok (.invokestatic 299, 3) := by decide +kernel
theorem d_R_row_14 : decode b_R_row 14 = .ok (.ifCond .ne 7, 3) := by decide +kernel
theorem d_R_row_17 : decode b_R_row 17 = .ok (.iconst 1, 1) := by decide +kernel
theorem d_R_row_18 : decode b_R_row 18 = .ok (.goto 4, 3) := by decide +kernel
theorem d_R_row_21 : decode b_R_row 21 = .ok (.iconst 0, 1) := by decide +kernel
theorem d_R_row_22 : decode b_R_row 22 = .ok (.iconst 1, 1) := by decide +kernel
theorem d_R_row_23 : decode b_R_row 23 = .ok (.invokevirtual 303, 3) := by decide +kernel
theorem d_R_row_26 : decode b_R_row 26 = .ok (.ifCond .eq 5, 3) := by decide +kernel
theorem d_R_row_29 : decode b_R_row 29 = .ok (.iconst 0, 1) := by decide +kernel
theorem d_R_row_30 : decode b_R_row 30 = .ok (.ireturn, 1) := by decide +kernel
theorem d_R_row_31 : decode b_R_row 31 = .ok (.iconst 0, 1) := by decide +kernel
theorem d_R_row_32 : decode b_R_row 32 = .ok (.istore_n 2, 1) := by decide +kernel
theorem d_R_row_33 : decode b_R_row 33 = .ok (.iconst 0, 1) := by decide +kernel
theorem d_R_row_34 : decode b_R_row 34 = .ok (.istore_n 3, 1) := by decide +kernel
theorem d_R_row_35 : decode b_R_row 35 = .ok (.iload_n 3, 1) := by decide +kernel
theorem d_R_row_36 : decode b_R_row 36 = .ok (.sipush 160, 3) := by decide +kernel
theorem d_R_row_39 : decode b_R_row 39 = .ok (.if_icmp .ge 185, 3) := by decide +kernel
theorem d_R_row_42 : decode b_R_row 42 = .ok (.aload_n 0, 1) := by decide +kernel
theorem d_R_row_43 : decode b_R_row 43 = .ok (.iload_n 3, 1) := by decide +kernel
theorem d_R_row_44 : decode b_R_row 44 = .ok (.iload_n 1, 1) := by decide +kernel
theorem d_R_row_45 : decode b_R_row 45 = .ok (.invokevirtual 329, 3) := by decide +kernel
theorem d_R_row_48 : decode b_R_row 48 = .ok (.istore 4, 2) := by decide +kernel
theorem d_R_row_50 : decode b_R_row 50 = .ok (.aload_n 0, 1) := by decide +kernel
theorem d_R_row_51 : decode b_R_row 51 = .ok (.iload_n 3, 1) := by decide +kernel
theorem d_R_row_52 : decode b_R_row 52 = .ok (.iload_n 1, 1) := by decide +kernel
theorem d_R_row_53 : decode b_R_row 53 = .ok (.invokevirtual 332, 3) := by decide +kernel
theorem d_R_row_56 : decode b_R_row 56 = .ok (.istore 5, 2) := by decide +kernel
theorem d_R_row_58 : decode b_R_row 58 = .ok (.aload_n 0, 1) := by decide +kernel
theorem d_R_row_59 : decode b_R_row 59 = .ok (.getfield 128, 3) := by decide +kernel
theorem d_R_row_62 : decode b_R_row 62 = .ok (.iconst 2, 1) := by decide +kernel
theorem d_R_row_63 : decode b_R_row 63 = .ok (.iload 4, 2) := by decide +kernel
theorem d_R_row_65 : decode b_R_row 65 = .ok (.imul, 1) := by decide +kernel
theorem d_R_row_66 : decode b_R_row 66 = .ok (.ishr, 1) := by decide +kernel
theorem d_R_row_67 : decode b_R_row 67 = .ok (.iconst 3, 1) := by decide +kernel
theorem d_R_row_68 : decode b_R_row 68 = .ok (.iand, 1) := by decide +kernel
theorem d_R_row_69 : decode b_R_row 69 = .ok (.istore 6, 2) := by decide +kernel
theorem d_R_row_71 : decode b_R_row 71 = .ok (.iload 5, 2) := by decide +kernel
theorem d_R_row_73 : decode b_R_row 73 = .ok (.ifCond .lt 113, 3) := by decide +kernel
theorem d_R_row_76 : decode b_R_row 76 = .ok (.aload_n 0, 1) := by decide +kernel
theorem d_R_row_77 : decode b_R_row 77 = .ok (.getfield 22, 3) := by decide +kernel
theorem d_R_row_80 : decode b_R_row 80 = .ok (.iload 5, 2) := by decide +kernel
theorem d_R_row_82 : decode b_R_row 82 = .ok (.iconst 3, 1) := by decide +kernel
theorem d_R_row_83 : decode b_R_row 83 = .ok (.iadd, 1) := by decide +kernel
theorem d_R_row_84 : decode b_R_row 84 = .ok (.iaload, 1) := by decide +kernel
theorem d_R_row_85 : decode b_R_row 85 = .ok (.sipush 128, 3) := by decide +kernel
theorem d_R_row_88 : decode b_R_row 88 = .ok (.iand, 1) := by decide +kernel
theorem d_R_row_89 : decode b_R_row 89 = .ok (.ifCond .eq 8, 3) := by decide +kernel
theorem d_R_row_92 : decode b_R_row 92 = .ok (.iload 4, 2) := by decide +kernel
theorem d_R_row_94 : decode b_R_row 94 = .ok (.ifCond .ne 92, 3) := by decide +kernel
theorem d_R_row_97 : decode b_R_row 97 = .ok (.aload_n 0, 1) := by decide +kernel
theorem d_R_row_98 : decode b_R_row 98 = .ok (.getfield 107, 3) := by decide +kernel
theorem d_R_row_101 : decode b_R_row 101 = .ok (.iconst 4, 1) := by decide +kernel
theorem d_R_row_102 : decode b_R_row 102 = .ok (.iand, 1) := by decide +kernel
theorem d_R_row_103 : decode b_R_row 103 = .ok (.ifCond .le 8, 3) := by decide +kernel
theorem d_R_row_106 : decode b_R_row 106 = .ok (.bipush 16, 2) := by decide +kernel
theorem d_R_row_108 : decode b_R_row 108 = .ok (.goto 5, 3) := by decide +kernel
theorem d_R_row_111 : decode b_R_row 111 = .ok (.bipush 8, 2) := by decide +kernel
theorem d_R_row_113 : decode b_R_row 113 = .ok (.istore 7, 2) := by decide +kernel
theorem d_R_row_115 : decode b_R_row 115 = .ok (.aload_n 0, 1) := by decide +kernel
theorem d_R_row_116 : decode b_R_row 116 = .ok (.iload 5, 2) := by decide +kernel
theorem d_R_row_118 : decode b_R_row 118 = .ok (.iload_n 1, 1) := by decide +kernel
theorem d_R_row_119 : decode b_R_row 119 = .ok (.aload_n 0, 1) := by decide +kernel
theorem d_R_row_120 : decode b_R_row 120 = .ok (.getfield 22, 3) := by decide +kernel
theorem d_R_row_123 : decode b_R_row 123 = .ok (.iload 5, 2) := by decide +kernel
theorem d_R_row_125 : decode b_R_row 125 = .ok (.iaload, 1) := by decide +kernel
theorem d_R_row_126 : decode b_R_row 126 = .ok (.bipush 16, 2) := by decide +kernel
theorem d_R_row_128 : decode b_R_row 128 = .ok (.isub, 1) := by decide +kernel
theorem d_R_row_129 : decode b_R_row 129 = .ok (.isub, 1) := by decide +kernel
theorem d_R_row_130 : decode b_R_row 130 = .ok (.iload_n 3, 1) := by decide +kernel
theorem d_R_row_131 : decode b_R_row 131 = .ok (.aload_n 0, 1) := by decide +kernel
theorem d_R_row_132 : decode b_R_row 132 = .ok (.getfield 22, 3) := by decide +kernel
theorem d_R_row_135 : decode b_R_row 135 = .ok (.iload 5, 2) := by decide +kernel
theorem d_R_row_137 : decode b_R_row 137 = .ok (.iconst 1, 1) := by decide +kernel
theorem d_R_row_138 : decode b_R_row 138 = .ok (.iadd, 1) := by decide +kernel
theorem d_R_row_139 : decode b_R_row 139 = .ok (.iaload, 1) := by decide +kernel
theorem d_R_row_140 : decode b_R_row 140 = .ok (.bipush 8, 2) := by decide +kernel
theorem d_R_row_142 : decode b_R_row 142 = .ok (.isub, 1) := by decide +kernel
theorem d_R_row_143 : decode b_R_row 143 = .ok (.isub, 1) := by decide +kernel
theorem d_R_row_144 : decode b_R_row 144 = .ok (.iload 7, 2) := by decide +kernel
theorem d_R_row_146 : decode b_R_row 146 = .ok (.invokevirtual 325, 3) := by decide +kernel
theorem d_R_row_149 : decode b_R_row 149 = .ok (.istore 8, 2) := by decide +kernel
theorem d_R_row_151 : decode b_R_row 151 = .ok (.aload_n 0, 1) := by decide +kernel
theorem d_R_row_152 : decode b_R_row 152 = .ok (.getfield 22, 3) := by decide +kernel
theorem d_R_row_155 : decode b_R_row 155 = .ok (.iload 5, 2) := by decide +kernel
theorem d_R_row_157 : decode b_R_row 157 = .ok (.iconst 3, 1) := by decide +kernel
theorem d_R_row_158 : decode b_R_row 158 = .ok (.iadd, 1) := by decide +kernel
theorem d_R_row_159 : decode b_R_row 159 = .ok (.iaload, 1) := by decide +kernel
theorem d_R_row_160 : decode b_R_row 160 = .ok (.bipush 16, 2) := by decide +kernel
theorem d_R_row_162 : decode b_R_row 162 = .ok (.iand, 1) := by decide +kernel
theorem d_R_row_163 : decode b_R_row 163 = .ok (.ifCond .le 10, 3) := by decide +kernel
theorem d_R_row_166 : decode b_R_row 166 = .ok (.aload_n 0, 1) := by decide +kernel
theorem d_R_row_167 : decode b_R_row 167 = .ok (.getfield 134, 3) := by decide +kernel
theorem d_R_row_170 : decode b_R_row 170 = .ok (.goto 7, 3) := by decide +kernel
theorem d_R_row_173 : decode b_R_row 173 = .ok (.aload_n 0, 1) := by decide +kernel
theorem d_R_row_174 : decode b_R_row 174 = .ok (.getfield 131, 3) := by decide +kernel
theorem d_R_row_177 : decode b_R_row 177 = .ok (.iconst 2, 1) := by decide +kernel
theorem d_R_row_178 : decode b_R_row 178 = .ok (.iload 8, 2) := by decide +kernel
theorem d_R_row_180 : decode b_R_row 180 = .ok (.imul, 1) := by decide +kernel
theorem d_R_row_181 : decode b_R_row 181 = .ok (.ishr, 1) := by decide +kernel
theorem d_R_row_182 : decode b_R_row 182 = .ok (.iconst 3, 1) := by decide +kernel
theorem d_R_row_183 : decode b_R_row 183 = .ok (.iand, 1) := by decide +kernel
theorem d_R_row_184 : decode b_R_row 184 = .ok (.istore 6, 2) := by decide +kernel
theorem d_R_row_186 : decode b_R_row 186 = .ok (.aload_n 0, 1) := by decide +kernel
theorem d_R_row_187 : decode b_R_row 187 = .ok (.getfield 28, 3) := by decide +kernel
theorem d_R_row_190 : decode b_R_row 190 = .ok (.iload_n 3, 1) := by decide +kernel
theorem d_R_row_191 : decode b_R_row 191 = .ok (.aload_n 0, 1) := by decide +kernel
theorem d_R_row_192 : decode b_R_row 192 = .ok (.getfield 107, 3) := by decide +kernel
theorem d_R_row_195 : decode b_R_row 195 = .ok (.sipush 128, 3) := by decide +kernel
theorem d_R_row_198 : decode b_R_row 198 = .ok (.iand, 1) := by decide +kernel
theorem d_R_row_199 : decode b_R_row 199 = .ok (.ifCond .le 8, 3) := by decide +kernel
theorem d_R_row_202 : decode b_R_row 202 = .ok (.iload 6, 2) := by decide +kernel
theorem d_R_row_204 : decode b_R_row 204 = .ok (.goto 4, 3) := by decide +kernel
theorem d_R_row_207 : decode b_R_row 207 = .ok (.iconst 0, 1) := by decide +kernel
theorem d_R_row_208 : decode b_R_row 208 = .ok (.iastore, 1) := by decide +kernel
theorem d_R_row_209 : decode b_R_row 209 = .ok (.iload_n 2, 1) := by decide +kernel
theorem d_R_row_210 : decode b_R_row 210 = .ok (.aload_n 0, 1) := by decide +kernel
theorem d_R_row_211 : decode b_R_row 211 = .ok (.getfield 28, 3) := by decide +kernel
theorem d_R_row_214 : decode b_R_row 214 = .ok (.iload_n 3, 1) := by decide +kernel
theorem d_R_row_215 : decode b_R_row 215 = .ok (.iaload, 1) := by decide +kernel
theorem d_R_row_216 : decode b_R_row 216 = .ok (.iadd, 1) := by decide +kernel
theorem d_R_row_217 : decode b_R_row 217 = .ok (.istore_n 2, 1) := by decide +kernel
theorem d_R_row_218 : decode b_R_row 218 = .ok (.iinc 3 1, 3) := by decide +kernel
theorem d_R_row_221 : decode b_R_row 221 = .ok (.goto (-186), 3) := by decide +kernel
theorem d_R_row_224 : decode b_R_row 224 = .ok (.iload_n 2, 1) := by decide +kernel
theorem d_R_row_225 : decode b_R_row 225 = .ok (.ireturn, 1) := by decide +kernel
theorem d_R_pixel_0 : decode b_R_pixel 0 = .ok (.aload_n 0, 1) := by decide +kernel
theorem d_R_pixel_1 : decode b_R_pixel 1 = .ok (.iconst 0, 1) := by decide +kernel
theorem d_R_pixel_2 : decode b_R_pixel 2 = .ok (.putfield 37, 3) := by decide +kernel
theorem d_R_pixel_5 : decode b_R_pixel 5 = .ok (.aload_n 0, 1) := by decide +kernel
theorem d_R_pixel_6 : decode b_R_pixel 6 = .ok (.iload_n 1, 1) := by decide +kernel
theorem d_R_pixel_7 : decode b_R_pixel 7 = .ok (.iconst 0, 1) := by decide +kernel
theorem d_R_pixel_8 : decode b_R_pixel 8 = .ok (.sipush 159, 3) := by decide +kernel
theorem d_R_pixel_11 : decode b_R_pixel 11 = .ok (.invokestatic 299, 3) := by decide +kernel
theorem d_R_pixel_14 : decode b_R_pixel 14 = .ok (.ifCond .ne 7, 3) := by decide +kernel
theorem d_R_pixel_17 : decode b_R_pixel 17 = .ok (.iconst 1, 1) := by decide +kernel
theorem d_R_pixel_18 : decode b_R_pixel 18 = .ok (.goto 4, 3) := by decide +kernel
theorem d_R_pixel_21 : decode b_R_pixel 21 = .ok (.iconst 0, 1) := by decide +kernel
theorem d_R_pixel_22 : decode b_R_pixel 22 = .ok (.iconst 1, 1) := by decide +kernel
theorem d_R_pixel_23 : decode b_R_pixel 23 = .ok (.invokevirtual 303, 3) := by decide +kernel
theorem d_R_pixel_26 : decode b_R_pixel 26 = .ok (.ifCond .eq 7, 3) := by decide +kernel
theorem d_R_pixel_29 : decode b_R_pixel 29 = .ok (.iconst 0, 1) := by decide +kernel
theorem d_R_pixel_30 : decode b_R_pixel 30 = .ok (.goto 9, 3) := by decide +kernel
theorem d_R_pixel_33 : decode b_R_pixel 33 = .ok (.aload_n 0, 1) := by decide +kernel
theorem d_R_pixel_34 : decode b_R_pixel 34 = .ok (.getfield 28, 3) := by decide +kernel
theorem d_R_pixel_37 : decode b_R_pixel 37 = .ok (.iload_n 1, 1) := by decide +kernel
theorem d_R_pixel_38 : decode b_R_pixel 38 = .ok (.iaload, 1) := by decide +kernel
theorem d_R_pixel_39 : decode b_R_pixel 39 = .ok (.ireturn, 1) := by decide +kernel
theorem d_R_count_0 : decode b_R_count 0 = .ok (.aload_n 0, 1) := by decide +kernel
theorem d_R_count_1 : decode b_R_count 1 = .ok (.iconst 0, 1) := by decide +kernel
theorem d_R_count_2 : decode b_R_count 2 = .ok (.putfield 37, 3) := by decide +kernel
theorem d_R_count_5 : decode b_R_count 5 = .ok (.aload_n 0, 1) := by decide +kernel
theorem d_R_count_6 : decode b_R_count 6 = .ok (.iload_n 1, 1) := by decide +kernel
theorem d_R_count_7 : decode b_R_count 7 = .ok (.iconst 0, 1) := by decide +kernel
theorem d_R_count_8 : decode b_R_count 8 = .ok (.bipush 8, 2) := by decide +kernel
theorem d_R_count_10 : decode b_R_count 10 = .ok (.invokestatic 299, 3) := by decide +kernel
theorem d_R_count_13 : decode b_R_count 13 = .ok (.ifCond .ne 7, 3) := by decide +kernel
theorem d_R_count_16 : decode b_R_count 16 = .ok (.iconst 1, 1) := by decide +kernel
theorem d_R_count_17 : decode b_R_count 17 = .ok (.goto 4, 3) := by decide +kernel
theorem d_R_count_20 : decode b_R_count 20 = .ok (.iconst 0, 1) := by decide +kernel
theorem d_R_count_21 : decode b_R_count 21 = .ok (.iconst 1, 1) := by decide +kernel
theorem d_R_count_22 : decode b_R_count 22 = .ok (.invokevirtual 303, 3) := by decide +kernel
theorem d_R_count_25 : decode b_R_count 25 = .ok (.ifCond .eq 5, 3) := by decide +kernel
theorem d_R_count_28 : decode b_R_count 28 = .ok (.iconst 0, 1) := by decide +kernel
theorem d_R_count_29 : decode b_R_count 29 = .ok (.ireturn, 1) := by decide +kernel
theorem d_R_count_30 : decode b_R_count 30 = .ok (.iload_n 1, 1) := by decide +kernel
theorem d_R_count_31 : decode b_R_count 31 = .ok (.tableswitch 139 0 7 #[45, 50, 55, 68, 81, 94, 110, 126], 45) := by decide +kernel
theorem d_R_count_76 : decode b_R_count 76 = .ok (.aload_n 0, 1) := by decide +kernel
theorem d_R_count_77 : decode b_R_count 77 = .ok (.getfield 149, 3) := by decide +kernel
theorem d_R_count_80 : decode b_R_count 80 = .ok (.ireturn, 1) := by decide +kernel
theorem d_R_count_81 : decode b_R_count 81 = .ok (.aload_n 0, 1) := by decide +kernel
theorem d_R_count_82 : decode b_R_count 82 = .ok (.getfield 152, 3) := by decide +kernel
theorem d_R_count_85 : decode b_R_count 85 = .ok (.ireturn, 1) := by decide +kernel
theorem d_R_count_86 : decode b_R_count 86 = .ok (.aload_n 0, 1) := by decide +kernel
theorem d_R_count_87 : decode b_R_count 87 = .ok (.getfield 74, 3) := by decide +kernel
theorem d_R_count_90 : decode b_R_count 90 = .ok (.ifCond .eq 7, 3) := by decide +kernel
theorem d_R_count_93 : decode b_R_count 93 = .ok (.iconst 1, 1) := by decide +kernel
theorem d_R_count_94 : decode b_R_count 94 = .ok (.goto 4, 3) := by decide +kernel
theorem d_R_count_97 : decode b_R_count 97 = .ok (.iconst 0, 1) := by decide +kernel
theorem d_R_count_98 : decode b_R_count 98 = .ok (.ireturn, 1) := by decide +kernel
theorem d_R_count_99 : decode b_R_count 99 = .ok (.aload_n 0, 1) := by decide +kernel
theorem d_R_count_100 : decode b_R_count 100 = .ok (.getfield 77, 3) := by decide +kernel
theorem d_R_count_103 : decode b_R_count 103 = .ok (.ifCond .eq 7, 3) := by decide +kernel
theorem d_R_count_106 : decode b_R_count 106 = .ok (.iconst 1, 1) := by decide +kernel
theorem d_R_count_107 : decode b_R_count 107 = .ok (.goto 4, 3) := by decide +kernel
theorem d_R_count_110 : decode b_R_count 110 = .ok (.iconst 0, 1) := by decide +kernel
theorem d_R_count_111 : decode b_R_count 111 = .ok (.ireturn, 1) := by decide +kernel
theorem d_R_count_112 : decode b_R_count 112 = .ok (.aload_n 0, 1) := by decide +kernel
theorem d_R_count_113 : decode b_R_count 113 = .ok (.getfield 80, 3) := by decide +kernel
theorem d_R_count_116 : decode b_R_count 116 = .ok (.ifCond .eq 7, 3) := by decide +kernel
theorem d_R_count_119 : decode b_R_count 119 = .ok (.iconst 1, 1) := by decide +kernel
theorem d_R_count_120 : decode b_R_count 120 = .ok (.goto 4, 3) := by decide +kernel
theorem d_R_count_123 : decode b_R_count 123 = .ok (.iconst 0, 1) := by decide +kernel
theorem d_R_count_124 : decode b_R_count 124 = .ok (.ireturn, 1) := by decide +kernel
theorem d_R_count_125 : decode b_R_count 125 = .ok (.aload_n 0, 1) := by decide +kernel
theorem d_R_count_126 : decode b_R_count 126 = .ok (.getfield 161, 3) := by decide +kernel
theorem d_R_count_129 : decode b_R_count 129 = .ok (.ifCond .eq 10, 3) := by decide +kernel
theorem d_R_count_132 : decode b_R_count 132 = .ok (.aload_n 0, 1) := by decide +kernel
theorem d_R_count_133 : decode b_R_count 133 = .ok (.invokevirtual 178, 3) := by decide +kernel
theorem d_R_count_136 : decode b_R_count 136 = .ok (.goto 4, 3) := by decide +kernel
theorem d_R_count_139 : decode b_R_count 139 = .ok (.iconst 0, 1) := by decide +kernel
theorem d_R_count_140 : decode b_R_count 140 = .ok (.ireturn, 1) := by decide +kernel
theorem d_R_count_141 : decode b_R_count 141 = .ok (.aload_n 0, 1) := by decide +kernel
theorem d_R_count_142 : decode b_R_count 142 = .ok (.getfield 161, 3) := by decide +kernel
theorem d_R_count_145 : decode b_R_count 145 = .ok (.ifCond .eq 10, 3) := by decide +kernel
theorem d_R_count_148 : decode b_R_count 148 = .ok (.aload_n 0, 1) := by decide +kernel
theorem d_R_count_149 : decode b_R_count 149 = .ok (.invokevirtual 187, 3) := by decide +kernel
theorem d_R_count_152 : decode b_R_count 152 = .ok (.goto 4, 3) := by decide +kernel
theorem d_R_count_155 : decode b_R_count 155 = .ok (.iconst 0, 1) := by decide +kernel
theorem d_R_count_156 : decode b_R_count 156 = .ok (.ireturn, 1) := by decide +kernel
theorem d_R_count_157 : decode b_R_count 157 = .ok (.aload_n 0, 1) := by decide +kernel
theorem d_R_count_158 : decode b_R_count 158 = .ok (.invokevirtual 183, 3) := by decide +kernel
theorem d_R_count_161 : decode b_R_count 161 = .ok (.ifCond .eq 7, 3) := by decide +kernel
theorem d_R_count_164 : decode b_R_count 164 = .ok (.iconst 1, 1) := by decide +kernel
theorem d_R_count_165 : decode b_R_count 165 = .ok (.goto 4, 3) := by decide +kernel
theorem d_R_count_168 : decode b_R_count 168 = .ok (.iconst 0, 1) := by decide +kernel
theorem d_R_count_169 : decode b_R_count 169 = .ok (.ireturn, 1) := by decide +kernel
theorem d_R_count_170 : decode b_R_count 170 = .ok (.aload_n 0, 1) := by decide +kernel
theorem d_R_count_171 : decode b_R_count 171 = .ok (.getfield 155, 3) := by decide +kernel
theorem d_R_count_174 : decode b_R_count 174 = .ok (.ireturn, 1) := by decide +kernel
theorem d_R_speed_0 : decode b_R_speed 0 = .ok (.aload_n 0, 1) := by decide +kernel
theorem d_R_speed_1 : decode b_R_speed 1 = .ok (.iconst 0, 1) := by decide +kernel
theorem d_R_speed_2 : decode b_R_speed 2 = .ok (.putfield 37, 3) := by decide +kernel
theorem d_R_speed_5 : decode b_R_speed 5 = .ok (.aload_n 0, 1) := by decide +kernel
theorem d_R_speed_6 : decode b_R_speed 6 = .ok (.aload_n 0, 1) := by decide +kernel
theorem d_R_speed_7 : decode b_R_speed 7 = .ok (.getfield 149, 3) := by decide +kernel
theorem d_R_speed_10 : decode b_R_speed 10 = .ok (.ifCond .ne 7, 3) := by decide +kernel
theorem d_R_speed_13 : decode b_R_speed 13 = .ok (.iconst 1, 1) := by decide +kernel
theorem d_R_speed_14 : decode b_R_speed 14 = .ok (.goto 4, 3) := by decide +kernel
theorem d_R_speed_17 : decode b_R_speed 17 = .ok (.iconst 0, 1) := by decide +kernel
theorem d_R_speed_18 : decode b_R_speed 18 = .ok (.iconst 1, 1) := by decide +kernel
theorem d_R_speed_19 : decode b_R_speed 19 = .ok (.invokevirtual 303, 3) := by decide +kernel
theorem d_R_speed_22 : decode b_R_speed 22 = .ok (.ifCond .eq 5, 3) := by decide +kernel
theorem d_R_speed_25 : decode b_R_speed 25 = .ok (.dconst 0, 1) := by decide +kernel
theorem d_R_speed_26 : decode b_R_speed 26 = .ok (.dreturn, 1) := by decide +kernel
theorem d_R_speed_27 : decode b_R_speed 27 = .ok (.ldc2_w 335, 3) := by decide +kernel
theorem d_R_speed_30 : decode b_R_speed 30 = .ok (.aload_n 0, 1) := by decide +kernel
theorem d_R_speed_31 : decode b_R_speed 31 = .ok (.getfield 149, 3) := by decide +kernel
theorem d_R_speed_34 : decode b_R_speed 34 = .ok (.i2d, 1) := by decide +kernel
theorem d_R_speed_35 : decode b_R_speed 35 = .ok (.ddiv, 1) := by decide +kernel
theorem d_R_speed_36 : decode b_R_speed 36 = .ok (.aload_n 0, 1) := by decide +kernel
theorem d_R_speed_37 : decode b_R_speed 37 = .ok (.getfield 158, 3) := by decide +kernel
theorem d_R_speed_40 : decode b_R_speed 40 = .ok (.i2d, 1) := by decide +kernel
theorem d_R_speed_41 : decode b_R_speed 41 = .ok (.dmul, 1) := by decide +kernel
theorem d_R_speed_42 : decode b_R_speed 42 = .ok (.dreturn, 1) := by decide +kernel
