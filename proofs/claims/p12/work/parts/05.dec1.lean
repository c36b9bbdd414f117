theorem d_Y_store_0 : decode b_Y_store 0 = .ok (.iload_n 1, 1) := by decide +kernel
theorem d_Y_store_1 : decode b_Y_store 1 = .ok (.ldc 36, 2) := by decide +kernel
theorem d_Y_store_3 : decode b_Y_store 3 = .ok (.if_icmp .ge 15, 3) := by decide +kernel
theorem d_Y_store_6 : decode b_Y_store 6 = .ok (.aload_n 0, 1) := by decide +kernel
theorem d_Y_store_7 : decode b_Y_store 7 = .ok (.getfield 22, 3) := by decide +kernel
theorem d_Y_store_10 : decode b_Y_store 10 = .ok (.iload_n 1, 1) := by decide +kernel
theorem d_Y_store_11 : decode b_Y_store 11 = .ok (.iload_n 2, 1) := by decide +kernel
theorem d_Y_store_12 : decode b_Y_store 12 = .ok (.invokevirtual 58, 3) := by decide +kernel
theorem d_Y_store_15 : decode b_Y_store 15 = .ok (.goto 162, 3) := by decide +kernel
theorem d_Y_store_18 : decode b_Y_store 18 = .ok (.iload_n 1, 1) := by decide +kernel
theorem d_Y_store_19 : decode b_Y_store 19 = .ok (.ldc 43, 2) := by decide +kernel
theorem d_Y_store_21 : decode b_Y_store 21 = .ok (.if_icmp .ge 17, 3) := by decide +kernel
theorem d_Y_store_24 : decode b_Y_store 24 = .ok (.aload_n 0, 1) := by decide +kernel
theorem d_Y_store_25 : decode b_Y_store 25 = .ok (.getfield 7, 3) := by decide +kernel
theorem d_Y_store_28 : decode b_Y_store 28 = .ok (.iload_n 1, 1) := by decide +kernel
theorem d_Y_store_29 : decode b_Y_store 29 = .ok (.sipush 8191, 3) := by decide +kernel
theorem d_Y_store_32 : decode b_Y_store 32 = .ok (.iand, 1) := by decide +kernel
theorem d_Y_store_33 : decode b_Y_store 33 = .ok (.iload_n 2, 1) := by decide +kernel
theorem d_Y_store_34 : decode b_Y_store 34 = .ok (.iastore, 1) := by decide +kernel
theorem d_Y_store_35 : decode b_Y_store 35 = .ok (.goto 142, 3) := by decide +kernel
theorem d_Y_store_38 : decode b_Y_store 38 = .ok (.iload_n 1, 1) := by decide +kernel
theorem d_Y_store_39 : decode b_Y_store 39 = .ok (.ldc 44, 2) := by decide +kernel
theorem d_Y_store_41 : decode b_Y_store 41 = .ok (.if_icmp .ge 15, 3) := by decide +kernel
theorem d_Y_store_44 : decode b_Y_store 44 = .ok (.aload_n 0, 1) := by decide +kernel
theorem d_Y_store_45 : decode b_Y_store 45 = .ok (.getfield 22, 3) := by decide +kernel
theorem d_Y_store_48 : decode b_Y_store 48 = .ok (.iload_n 1, 1) := by decide +kernel
theorem d_Y_store_49 : decode b_Y_store 49 = .ok (.iload_n 2, 1) := by decide +kernel
theorem d_Y_store_50 : decode b_Y_store 50 = .ok (.invokevirtual 62, 3) := by decide +kernel
theorem d_Y_store_53 : decode b_Y_store 53 = .ok (.goto 124, 3) := by decide +kernel
theorem d_Y_store_56 : decode b_Y_store 56 = .ok (.iload_n 1, 1) := by decide +kernel
theorem d_Y_store_57 : decode b_Y_store 57 = .ok (.ldc 48, 2) := by decide +kernel
theorem d_Y_store_59 : decode b_Y_store 59 = .ok (.if_icmp .ge 17, 3) := by decide +kernel
theorem d_Y_store_62 : decode b_Y_store 62 = .ok (.aload_n 0, 1) := by decide +kernel
theorem d_Y_store_63 : decode b_Y_store 63 = .ok (.getfield 16, 3) := by decide +kernel
theorem d_Y_store_66 : decode b_Y_store 66 = .ok (.iload_n 1, 1) := by decide +kernel
theorem d_Y_store_67 : decode b_Y_store 67 = .ok (.sipush 1023, 3) := by decide +kernel
theorem d_Y_store_70 : decode b_Y_store 70 = .ok (.iand, 1) := by decide +kernel
theorem d_Y_store_71 : decode b_Y_store 71 = .ok (.iload_n 2, 1) := by decide +kernel
theorem d_Y_store_72 : decode b_Y_store 72 = .ok (.iastore, 1) := by decide +kernel
theorem d_Y_store_73 : decode b_Y_store 73 = .ok (.goto 104, 3) := by decide +kernel
theorem d_Y_store_76 : decode b_Y_store 76 = .ok (.iload_n 1, 1) := by decide +kernel
theorem d_Y_store_77 : decode b_Y_store 77 = .ok (.ldc 49, 2) := by decide +kernel
theorem d_Y_store_79 : decode b_Y_store 79 = .ok (.if_icmp .ge 16, 3) := by decide +kernel
theorem d_Y_store_82 : decode b_Y_store 82 = .ok (.aload_n 0, 1) := by decide +kernel
theorem d_Y_store_83 : decode b_Y_store 83 = .ok (.getfield 13, 3) := by decide +kernel
theorem d_Y_store_86 : decode b_Y_store 86 = .ok (.iload_n 1, 1) := by decide +kernel
theorem d_Y_store_87 : decode b_Y_store 87 = .ok (.ldc 48, 2) := by decide +kernel
theorem d_Y_store_89 : decode b_Y_store 89 = .ok (.isub, 1) := by decide +kernel
theorem d_Y_store_90 : decode b_Y_store 90 = .ok (.iload_n 2, 1) := by decide +kernel
theorem d_Y_store_91 : decode b_Y_store 91 = .ok (.iastore, 1) := by decide +kernel
theorem d_Y_store_92 : decode b_Y_store 92 = .ok (.goto 85, 3) := by decide +kernel
theorem d_Y_store_95 : decode b_Y_store 95 = .ok (.iload_n 1, 1) := by decide +kernel
theorem d_Y_store_96 : decode b_Y_store 96 = .ok (.ldc 51, 2) := by decide +kernel
theorem d_Y_store_98 : decode b_Y_store 98 = .ok (.if_icmp .lt 22, 3) := by decide +kernel
theorem d_Y_store_101 : decode b_Y_store 101 = .ok (.iload_n 1, 1) := by decide +kernel
theorem d_Y_store_102 : decode b_Y_store 102 = .ok (.ldc 52, 2) := by decide +kernel
theorem d_Y_store_104 : decode b_Y_store 104 = .ok (.if_icmp .ge 16, 3) := by decide +kernel
theorem d_Y_store_107 : decode b_Y_store 107 = .ok (.aload_n 0, 1) := by decide +kernel
theorem d_Y_store_108 : decode b_Y_store 108 = .ok (.getfield 19, 3) := by decide +kernel
theorem d_Y_store_111 : decode b_Y_store 111 = .ok (.iload_n 1, 1) := by decide +kernel
theorem d_Y_store_112 : decode b_Y_store 112 = .ok (.bipush 127, 2) := by decide +kernel
theorem d_Y_store_114 : decode b_Y_store 114 = .ok (.iand, 1) := by decide +kernel
theorem d_Y_store_115 : decode b_Y_store 115 = .ok (.iload_n 2, 1) := by decide +kernel
theorem d_Y_store_116 : decode b_Y_store 116 = .ok (.iastore, 1) := by decide +kernel
theorem d_Y_store_117 : decode b_Y_store 117 = .ok (.goto 60, 3) := by decide +kernel
theorem d_Y_store_120 : decode b_Y_store 120 = .ok (.iload_n 1, 1) := by decide +kernel
theorem d_Y_store_121 : decode b_Y_store 121 = .ok (.ldc 50, 2) := by decide +kernel
theorem d_Y_store_123 : decode b_Y_store 123 = .ok (.if_icmp .lt 54, 3) := by decide +kernel
theorem d_Y_store_126 : decode b_Y_store 126 = .ok (.aload_n 0, 1) := by decide +kernel
theorem d_Y_store_127 : decode b_Y_store 127 = .ok (.getfield 26, 3) := by decide +kernel
theorem d_Y_store_130 : decode b_Y_store 130 = .ok (.iload_n 1, 1) := by decide +kernel
theorem d_Y_store_131 : decode b_Y_store 131 = .ok (.sipush 255, 3) := by decide +kernel
theorem d_Y_store_134 : decode b_Y_store 134 = .ok (.iand, 1) := by decide +kernel
theorem d_Y_store_135 : decode b_Y_store 135 = .ok (.iload_n 2, 1) := by decide +kernel
theorem d_Y_store_136 : decode b_Y_store 136 = .ok (.invokevirtual 65, 3) := by decide +kernel
theorem d_Y_store_139 : decode b_Y_store 139 = .ok (.iload_n 1, 1) := by decide +kernel
theorem d_Y_store_140 : decode b_Y_store 140 = .ok (.ldc 68, 2) := by decide +kernel
theorem d_Y_store_142 : decode b_Y_store 142 = .ok (.if_icmp .ne 35, 3) := by decide +kernel
theorem d_Y_store_145 : decode b_Y_store 145 = .ok (.iconst 0, 1) := by decide +kernel
theorem d_Y_store_146 : decode b_Y_store 146 = .ok (.istore_n 3, 1) := by decide +kernel
theorem d_Y_store_147 : decode b_Y_store 147 = .ok (.iload_n 3, 1) := by decide +kernel
theorem d_Y_store_148 : decode b_Y_store 148 = .ok (.sipush 160, 3) := by decide +kernel
theorem d_Y_store_151 : decode b_Y_store 151 = .ok (.if_icmp .ge 26, 3) := by decide +kernel
theorem d_Y_store_154 : decode b_Y_store 154 = .ok (.aload_n 0, 1) := by decide +kernel
theorem d_Y_store_155 : decode b_Y_store 155 = .ok (.getfield 13, 3) := by decide +kernel
theorem d_Y_store_158 : decode b_Y_store 158 = .ok (.iload_n 3, 1) := by decide +kernel
theorem d_Y_store_159 : decode b_Y_store 159 = .ok (.aload_n 0, 1) := by decide +kernel
theorem d_Y_store_160 : decode b_Y_store 160 = .ok (.iload_n 2, 1) := by decide +kernel
theorem d_Y_store_161 : decode b_Y_store 161 = .ok (.sipush 256, 3) := by decide +kernel
theorem d_Y_store_164 : decode b_Y_store 164 = .ok (.imul, 1) := by decide +kernel
theorem d_Y_store_165 : decode b_Y_store 165 = .ok (.iload_n 3, 1) := by decide +kernel
theorem d_Y_store_166 : decode b_Y_store 166 = .ok (.iadd, 1) := by decide +kernel
theorem d_Y_store_167 : decode b_Y_store 167 = .ok (.invokevirtual 69, 3) := by decide +kernel
theorem d_Y_store_170 : decode b_Y_store 170 = .ok (.iastore, 1) := by decide +kernel
theorem d_Y_store_171 : decode b_Y_store 171 = .ok (.iinc 3 1, 3) := by decide +kernel
theorem d_Y_store_174 : decode b_Y_store 174 = .ok (.goto (-27), 3) := by decide +kernel
theorem d_Y_store_177 : decode b_Y_store 177 = .ok (.return_, 1) := by decide +kernel
theorem d_Q_push_0 : decode b_Q_push 0 = .ok (.aload_n 0, 1) := by decide +kernel
theorem d_Q_push_1 : decode b_Q_push 1 = .ok (.getfield 13, 3) := by decide +kernel
theorem d_Q_push_4 : decode b_Q_push 4 = .ok (.aload_n 0, 1) := by decide +kernel
theorem d_Q_push_5 : decode b_Q_push 5 = .ok (.getfield 26, 3) := by decide +kernel
theorem d_Q_push_8 : decode b_Q_push 8 = .ok (.iconst 1, 1) := by decide +kernel
theorem d_Q_push_9 : decode b_Q_push 9 = .ok (.isub, 1) := by decide +kernel
theorem d_Q_push_10 : decode b_Q_push 10 = .ok (.ldc 58, 2) := by decide +kernel
theorem d_Q_push_12 : decode b_Q_push 12 = .ok (.iand, 1) := by decide +kernel
theorem d_Q_push_13 : decode b_Q_push 13 = .ok (.iload_n 1, 1) := by decide +kernel
theorem d_Q_push_14 : decode b_Q_push 14 = .ok (.bipush 8, 2) := by decide +kernel
theorem d_Q_push_16 : decode b_Q_push 16 = .ok (.ishr, 1) := by decide +kernel
theorem d_Q_push_17 : decode b_Q_push 17 = .ok (.invokevirtual 188, 3) := by decide +kernel
theorem d_Q_push_20 : decode b_Q_push 20 = .ok (.aload_n 0, 1) := by decide +kernel
theorem d_Q_push_21 : decode b_Q_push 21 = .ok (.getfield 13, 3) := by decide +kernel
theorem d_Q_push_24 : decode b_Q_push 24 = .ok (.aload_n 0, 1) := by decide +kernel
theorem d_Q_push_25 : decode b_Q_push 25 = .ok (.getfield 26, 3) := by decide +kernel
theorem d_Q_push_28 : decode b_Q_push 28 = .ok (.iconst 2, 1) := by decide +kernel
theorem d_Q_push_29 : decode b_Q_push 29 = .ok (.isub, 1) := by decide +kernel
theorem d_Q_push_30 : decode b_Q_push 30 = .ok (.ldc 58, 2) := by decide +kernel
theorem d_Q_push_32 : decode b_Q_push 32 = .ok (.iand, 1) := by decide +kernel
theorem d_Q_push_33 : decode b_Q_push 33 = .ok (.iload_n 1, 1) := by decide +kernel
theorem d_Q_push_34 : decode b_Q_push 34 = .ok (.sipush 255, 3) := by decide +kernel
theorem d_Q_push_37 : decode b_Q_push 37 = .ok (.iand, 1) := by decide +kernel
theorem d_Q_push_38 : decode b_Q_push 38 = .ok (.invokevirtual 188, 3) := by decide +kernel
theorem d_Q_push_41 : decode b_Q_push 41 = .ok (.aload_n 0, 1) := by decide +kernel
theorem d_Q_push_42 : decode b_Q_push 42 = .ok (.aload_n 0, 1) := by decide +kernel
theorem d_Q_push_43 : decode b_Q_push 43 = .ok (.getfield 26, 3) := by decide +kernel
theorem d_Q_push_46 : decode b_Q_push 46 = .ok (.iconst 2, 1) := by decide +kernel
theorem d_Q_push_47 : decode b_Q_push 47 = .ok (.isub, 1) := by decide +kernel
theorem d_Q_push_48 : decode b_Q_push 48 = .ok (.ldc 58, 2) := by decide +kernel
theorem d_Q_push_50 : decode b_Q_push 50 = .ok (.iand, 1) := by decide +kernel
theorem d_Q_push_51 : decode b_Q_push 51 = .ok (.putfield 26, 3) := by decide +kernel
theorem d_Q_push_54 : decode b_Q_push 54 = .ok (.aload_n 0, 1) := by decide +kernel
theorem d_Q_push_55 : decode b_Q_push 55 = .ok (.dup, 1) := by decide +kernel
theorem d_Q_push_56 : decode b_Q_push 56 = .ok (.getfield 65, 3) := by decide +kernel
theorem d_Q_push_59 : decode b_Q_push 59 = .ok (.iconst 3, 1) := by decide +kernel
theorem d_Q_push_60 : decode b_Q_push 60 = .ok (.iadd, 1) := by decide +kernel
theorem d_Q_push_61 : decode b_Q_push 61 = .ok (.putfield 65, 3) := by decide +kernel
theorem d_Q_push_64 : decode b_Q_push 64 = .ok (.return_, 1) := by decide +kernel
theorem d_Q_takeInterrupt_0 : decode b_Q_takeInterrupt 0 = .ok (.iconst 0, 1) := by decide +kernel
theorem d_Q_takeInterrupt_1 : decode b_Q_takeInterrupt 1 = .ok (.istore_n 2, 1) := by decide +kernel
theorem d_Q_takeInterrupt_2 : decode b_Q_takeInterrupt 2 = .ok (.iload_n 2, 1) := by decide +kernel
theorem d_Q_takeInterrupt_3 : decode b_Q_takeInterrupt 3 = .ok (.iconst 4, 1) := by decide +kernel
theorem d_Q_takeInterrupt_4 : decode b_Q_takeInterrupt 4 = .ok (.if_icmp .ge 17, 3) := by decide +kernel
theorem d_Q_takeInterrupt_7 : decode b_Q_takeInterrupt 7 = .ok (.iload_n 1, 1) := by decide +kernel
theorem d_Q_takeInterrupt_8 : decode b_Q_takeInterrupt 8 = .ok (.iload_n 2, 1) := by decide +kernel
theorem d_Q_takeInterrupt_9 : decode b_Q_takeInterrupt 9 = .ok (.ishr, 1) := by decide +kernel
theorem d_Q_takeInterrupt_10 : decode b_Q_takeInterrupt 10 = .ok (.iconst 1, 1) := by decide +kernel
theorem d_Q_takeInterrupt_11 : decode b_Q_takeInterrupt 11 = .ok (.iand, 1) := by decide +kernel
theorem d_Q_takeInterrupt_12 : decode b_Q_takeInterrupt 12 = .ok (.ifCond .ne 9, 3) := by decide +kernel
theorem d_Q_takeInterrupt_15 : decode b_Q_takeInterrupt 15 = .ok (.iinc 2 1, 3) := by decide +kernel
theorem d_Q_takeInterrupt_18 : decode b_Q_takeInterrupt 18 = .ok (.goto (-16), 3) := by decide +kernel
theorem d_Q_takeInterrupt_21 : decode b_Q_takeInterrupt 21 = .ok (.aload_n 0, 1) := by decide +kernel
theorem d_Q_takeInterrupt_22 : decode b_Q_takeInterrupt 22 = .ok (.iconst 0, 1) := by decide +kernel
theorem d_Q_takeInterrupt_23 : decode b_Q_takeInterrupt 23 = .ok (.putfield 33, 3) := by decide +kernel
theorem d_Q_takeInterrupt_26 : decode b_Q_takeInterrupt 26 = .ok (.aload_n 0, 1) := by decide +kernel
theorem d_Q_takeInterrupt_27 : decode b_Q_takeInterrupt 27 = .ok (.getfield 17, 3) := by decide +kernel
theorem d_Q_takeInterrupt_30 : decode b_Q_takeInterrupt 30 = .ok (.getfield 106, 3) := by decide +kernel
theorem d_Q_takeInterrupt_33 : decode b_Q_takeInterrupt 33 = .ok (.bipush 15, 2) := by decide +kernel
theorem d_Q_takeInterrupt_35 : decode b_Q_takeInterrupt 35 = .ok (.dup2, 1) := by decide +kernel
theorem d_Q_takeInterrupt_36 : decode b_Q_takeInterrupt 36 = .ok (.iaload, 1) := by decide +kernel
theorem d_Q_takeInterrupt_37 : decode b_Q_takeInterrupt 37 = .ok (.iconst 1, 1) := by decide +kernel
theorem d_Q_takeInterrupt_38 : decode b_Q_takeInterrupt 38 = .ok (.iload_n 2, 1) := by decide +kernel
theorem d_Q_takeInterrupt_39 : decode b_Q_takeInterrupt 39 = .ok (.ishl, 1) := by decide +kernel
theorem d_Q_takeInterrupt_40 : decode b_Q_takeInterrupt 40 = .ok (.iconst (-1), 1) := by decide +kernel
theorem d_Q_takeInterrupt_41 : decode b_Q_takeInterrupt 41 = .ok (.ixor, 1) := by decide +kernel
theorem d_Q_takeInterrupt_42 : decode b_Q_takeInterrupt 42 = .ok (.iand, 1) := by decide +kernel
theorem d_Q_takeInterrupt_43 : decode b_Q_takeInterrupt 43 = .ok (.iastore, 1) := by decide +kernel
theorem d_Q_takeInterrupt_44 : decode b_Q_takeInterrupt 44 = .ok (.aload_n 0, 1) := by decide +kernel
theorem d_Q_takeInterrupt_45 : decode b_Q_takeInterrupt 45 = .ok (.aload_n 0, 1) := by decide +kernel
theorem d_Q_takeInterrupt_46 : decode b_Q_takeInterrupt 46 = .ok (.getfield 30, 3) := by decide +kernel
theorem d_Q_takeInterrupt_49 : decode b_Q_takeInterrupt 49 = .ok (.invokevirtual 109, 3) := by decide +kernel
theorem d_Q_takeInterrupt_52 : decode b_Q_takeInterrupt 52 = .ok (.aload_n 0, 1) := by decide +kernel
theorem d_Q_takeInterrupt_53 : decode b_Q_takeInterrupt 53 = .ok (.bipush 64, 2) := by decide +kernel
theorem d_Q_takeInterrupt_55 : decode b_Q_takeInterrupt 55 = .ok (.bipush 8, 2) := by decide +kernel
theorem d_Q_takeInterrupt_57 : decode b_Q_takeInterrupt 57 = .ok (.iload_n 2, 1) := by decide +kernel
theorem d_Q_takeInterrupt_58 : decode b_Q_takeInterrupt 58 = .ok (.imul, 1) := by decide +kernel
theorem d_Q_takeInterrupt_59 : decode b_Q_takeInterrupt 59 = .ok (.iadd, 1) := by decide +kernel
theorem d_Q_takeInterrupt_60 : decode b_Q_takeInterrupt 60 = .ok (.putfield 30, 3) := by decide +kernel
theorem d_Q_takeInterrupt_63 : decode b_Q_takeInterrupt 63 = .ok (.aload_n 0, 1) := by decide +kernel
theorem d_Q_takeInterrupt_64 : decode b_Q_takeInterrupt 64 = .ok (.iconst 5, 1) := by decide +kernel
theorem d_Q_takeInterrupt_65 : decode b_Q_takeInterrupt 65 = .ok (.putfield 65, 3) := by decide +kernel
theorem d_Q_takeInterrupt_68 : decode b_Q_takeInterrupt 68 = .ok (.aload_n 0, 1) := by decide +kernel
theorem d_Q_takeInterrupt_69 : decode b_Q_takeInterrupt 69 = .ok (.dup, 1) := by decide +kernel
theorem d_Q_takeInterrupt_70 : decode b_Q_takeInterrupt 70 = .ok (.getfield 52, 3) := by decide +kernel
theorem d_Q_takeInterrupt_73 : decode b_Q_takeInterrupt 73 = .ok (.iconst 1, 1) := by decide +kernel
theorem d_Q_takeInterrupt_74 : decode b_Q_takeInterrupt 74 = .ok (.iadd, 1) := by decide +kernel
theorem d_Q_takeInterrupt_75 : decode b_Q_takeInterrupt 75 = .ok (.putfield 52, 3) := by decide +kernel
theorem d_Q_takeInterrupt_78 : decode b_Q_takeInterrupt 78 = .ok (.return_, 1) := by decide +kernel
theorem d_P_moveTimer_0 : decode b_P_moveTimer 0 = .ok (.aload_n 0, 1) := by decide +kernel
theorem d_P_moveTimer_1 : decode b_P_moveTimer 1 = .ok (.getfield 7, 3) := by decide +kernel
theorem d_P_moveTimer_4 : decode b_P_moveTimer 4 = .ok (.bipush 7, 2) := by decide +kernel
theorem d_P_moveTimer_6 : decode b_P_moveTimer 6 = .ok (.iaload, 1) := by decide +kernel
theorem d_P_moveTimer_7 : decode b_P_moveTimer 7 = .ok (.istore_n 1, 1) := by decide +kernel
theorem d_P_moveTimer_8 : decode b_P_moveTimer 8 = .ok (.iload_n 1, 1) := by decide +kernel
theorem d_P_moveTimer_9 : decode b_P_moveTimer 9 = .ok (.iconst 4, 1) := by decide +kernel
theorem d_P_moveTimer_10 : decode b_P_moveTimer 10 = .ok (.iand, 1) := by decide +kernel
theorem d_P_moveTimer_11 : decode b_P_moveTimer 11 = .ok (.ifCond .eq 18, 3) := by decide +kernel
theorem d_P_moveTimer_14 : decode b_P_moveTimer 14 = .ok (.aload_n 0, 1) := by decide +kernel
theorem d_P_moveTimer_15 : decode b_P_moveTimer 15 = .ok (.getfield 23, 3) := by decide +kernel
theorem d_P_moveTimer_18 : decode b_P_moveTimer 18 = .ok (.getstatic 58, 3) := by decide +kernel
theorem d_P_moveTimer_21 : decode b_P_moveTimer 21 = .ok (.iload_n 1, 1) := by decide +kernel
theorem d_P_moveTimer_22 : decode b_P_moveTimer 22 = .ok (.iconst 3, 1) := by decide +kernel
theorem d_P_moveTimer_23 : decode b_P_moveTimer 23 = .ok (.iand, 1) := by decide +kernel
theorem d_P_moveTimer_24 : decode b_P_moveTimer 24 = .ok (.iaload, 1) := by decide +kernel
theorem d_P_moveTimer_25 : decode b_P_moveTimer 25 = .ok (.iand, 1) := by decide +kernel
theorem d_P_moveTimer_26 : decode b_P_moveTimer 26 = .ok (.ifCond .eq 4, 3) := by decide +kernel
theorem d_P_moveTimer_29 : decode b_P_moveTimer 29 = .ok (.return_, 1) := by decide +kernel
theorem d_P_moveTimer_30 : decode b_P_moveTimer 30 = .ok (.aload_n 0, 1) := by decide +kernel
theorem d_P_moveTimer_31 : decode b_P_moveTimer 31 = .ok (.getfield 7, 3) := by decide +kernel
theorem d_P_moveTimer_34 : decode b_P_moveTimer 34 = .ok (.iconst 5, 1) := by decide +kernel
theorem d_P_moveTimer_35 : decode b_P_moveTimer 35 = .ok (.iaload, 1) := by decide +kernel
theorem d_P_moveTimer_36 : decode b_P_moveTimer 36 = .ok (.sipush 255, 3) := by decide +kernel
theorem d_P_moveTimer_39 : decode b_P_moveTimer 39 = .ok (.if_icmp .ne 30, 3) := by decide +kernel
theorem d_P_moveTimer_42 : decode b_P_moveTimer 42 = .ok (.aload_n 0, 1) := by decide +kernel
theorem d_P_moveTimer_43 : decode b_P_moveTimer 43 = .ok (.getfield 7, 3) := by decide +kernel
theorem d_P_moveTimer_46 : decode b_P_moveTimer 46 = .ok (.iconst 5, 1) := by decide +kernel
theorem d_P_moveTimer_47 : decode b_P_moveTimer 47 = .ok (.aload_n 0, 1) := by decide +kernel
theorem d_P_moveTimer_48 : decode b_P_moveTimer 48 = .ok (.getfield 7, 3) := by decide +kernel
theorem d_P_moveTimer_51 : decode b_P_moveTimer 51 = .ok (.bipush 6, 2) := by decide +kernel
theorem d_P_moveTimer_53 : decode b_P_moveTimer 53 = .ok (.iaload, 1) := by decide +kernel
theorem d_P_moveTimer_54 : decode b_P_moveTimer 54 = .ok (.iastore, 1) := by decide +kernel
theorem d_P_moveTimer_55 : decode b_P_moveTimer 55 = .ok (.aload_n 0, 1) := by decide +kernel
theorem d_P_moveTimer_56 : decode b_P_moveTimer 56 = .ok (.getfield 7, 3) := by decide +kernel
theorem d_P_moveTimer_59 : decode b_P_moveTimer 59 = .ok (.bipush 15, 2) := by decide +kernel
theorem d_P_moveTimer_61 : decode b_P_moveTimer 61 = .ok (.dup2, 1) := by decide +kernel
theorem d_P_moveTimer_62 : decode b_P_moveTimer 62 = .ok (.iaload, 1) := by decide +kernel
theorem d_P_moveTimer_63 : decode b_P_moveTimer 63 = .ok (.iconst 4, 1) := by decide +kernel
theorem d_P_moveTimer_64 : decode b_P_moveTimer 64 = .ok (.ior, 1) := by decide +kernel
theorem d_P_moveTimer_65 : decode b_P_moveTimer 65 = .ok (.iastore, 1) := by decide +kernel
theorem d_P_moveTimer_66 : decode b_P_moveTimer 66 = .ok (.goto 13, 3) := by decide +kernel
theorem d_P_moveTimer_69 : decode b_P_moveTimer 69 = .ok (.aload_n 0, 1) := by decide +kernel
theorem d_P_moveTimer_70 : decode b_P_moveTimer 70 = .ok (.getfield 7, 3) := by decide +kernel
theorem d_P_moveTimer_73 : decode b_P_moveTimer 73 = .ok (.iconst 5, 1) := by decide +kernel
theorem d_P_moveTimer_74 : decode b_P_moveTimer 74 = .ok (.dup2, 1) := by decide +kernel
theorem d_P_moveTimer_75 : decode b_P_moveTimer 75 = .ok (.iaload, 1) := by decide +kernel
theorem d_P_moveTimer_76 : decode b_P_moveTimer 76 = .ok (.iconst 1, 1) := by decide +kernel
theorem d_P_moveTimer_77 : decode b_P_moveTimer 77 = .ok (.iadd, 1) := by decide +kernel
theorem d_P_moveTimer_78 : decode b_P_moveTimer 78 = .ok (.iastore, 1) := by decide +kernel
theorem d_P_moveTimer_79 : decode b_P_moveTimer 79 = .ok (.return_, 1) := by decide +kernel
theorem d_P_moveDot_0 : decode b_P_moveDot 0 = .ok (.aload_n 0, 1) := by decide +kernel
theorem d_P_moveDot_1 : decode b_P_moveDot 1 = .ok (.getfield 7, 3) := by decide +kernel
theorem d_P_moveDot_4 : decode b_P_moveDot 4 = .ok (.bipush 64, 2) := by decide +kernel
theorem d_P_moveDot_6 : decode b_P_moveDot 6 = .ok (.iaload, 1) := by decide +kernel
theorem d_P_moveDot_7 : decode b_P_moveDot 7 = .ok (.sipush 128, 3) := by decide +kernel
theorem d_P_moveDot_10 : decode b_P_moveDot 10 = .ok (.iand, 1) := by decide +kernel
theorem d_P_moveDot_11 : decode b_P_moveDot 11 = .ok (.ifCond .ne 4, 3) := by decide +kernel
theorem d_P_moveDot_14 : decode b_P_moveDot 14 = .ok (.return_, 1) := by decide +kernel
theorem d_P_moveDot_15 : decode b_P_moveDot 15 = .ok (.aload_n 0, 1) := by decide +kernel
theorem d_P_moveDot_16 : decode b_P_moveDot 16 = .ok (.dup, 1) := by decide +kernel
theorem d_P_moveDot_17 : decode b_P_moveDot 17 = .ok (.getfield 26, 3) := by decide +kernel
theorem d_P_moveDot_20 : decode b_P_moveDot 20 = .ok (.iconst 1, 1) := by decide +kernel
theorem d_P_moveDot_21 : decode b_P_moveDot 21 = .ok (.iadd, 1) := by decide +kernel
theorem d_P_moveDot_22 : decode b_P_moveDot 22 = .ok (.putfield 26, 3) := by decide +kernel
theorem d_P_moveDot_25 : decode b_P_moveDot 25 = .ok (.aload_n 0, 1) := by decide +kernel
theorem d_P_moveDot_26 : decode b_P_moveDot 26 = .ok (.getfield 26, 3) := by decide +kernel
theorem d_P_moveDot_29 : decode b_P_moveDot 29 = .ok (.bipush 114, 2) := by decide +kernel
theorem d_P_moveDot_31 : decode b_P_moveDot 31 = .ok (.if_icmp .ge 4, 3) := by decide +kernel
theorem d_P_moveDot_34 : decode b_P_moveDot 34 = .ok (.return_, 1) := by decide +kernel
theorem d_P_moveDot_35 : decode b_P_moveDot 35 = .ok (.aload_n 0, 1) := by decide +kernel
theorem d_P_moveDot_36 : decode b_P_moveDot 36 = .ok (.iconst 0, 1) := by decide +kernel
theorem d_P_moveDot_37 : decode b_P_moveDot 37 = .ok (.putfield 26, 3) := by decide +kernel
theorem d_P_moveDot_40 : decode b_P_moveDot 40 = .ok (.aload_n 0, 1) := by decide +kernel
theorem d_P_moveDot_41 : decode b_P_moveDot 41 = .ok (.aload_n 0, 1) := by decide +kernel
theorem d_P_moveDot_42 : decode b_P_moveDot 42 = .ok (.getfield 29, 3) := by decide +kernel
theorem d_P_moveDot_45 : decode b_P_moveDot 45 = .ok (.iconst 1, 1) := by decide +kernel
theorem d_P_moveDot_46 : decode b_P_moveDot 46 = .ok (.iadd, 1) := by decide +kernel
theorem d_P_moveDot_47 : decode b_P_moveDot 47 = .ok (.sipush 154, 3) := by decide +kernel
theorem d_P_moveDot_50 : decode b_P_moveDot 50 = .ok (.if_icmp .ge 12, 3) := by decide +kernel
theorem d_P_moveDot_53 : decode b_P_moveDot 53 = .ok (.aload_n 0, 1) := by decide +kernel
theorem d_P_moveDot_54 : decode b_P_moveDot 54 = .ok (.getfield 29, 3) := by decide +kernel
theorem d_P_moveDot_57 : decode b_P_moveDot 57 = .ok (.iconst 1, 1) := by decide +kernel
theorem d_P_moveDot_58 : decode b_P_moveDot 58 = .ok (.iadd, 1) := by decide +kernel
theorem d_P_moveDot_59 : decode b_P_moveDot 59 = .ok (.goto 4, 3) := by decide +kernel
theorem d_P_moveDot_62 : decode b_P_moveDot 62 = .ok (.iconst 0, 1) := by decide +kernel
theorem d_P_moveDot_63 : decode b_P_moveDot 63 = .ok (.putfield 29, 3) := by decide +kernel
theorem d_P_moveDot_66 : decode b_P_moveDot 66 = .ok (.aload_n 0, 1) := by decide +kernel
theorem d_P_moveDot_67 : decode b_P_moveDot 67 = .ok (.getfield 29, 3) := by decide +kernel
theorem d_P_moveDot_70 : decode b_P_moveDot 70 = .ok (.sipush 144, 3) := by decide +kernel
theorem d_P_moveDot_73 : decode b_P_moveDot 73 = .ok (.if_icmp .ne 24, 3) := by decide +kernel
theorem d_P_moveDot_76 : decode b_P_moveDot 76 = .ok (.aload_n 0, 1) := by decide +kernel
theorem d_P_moveDot_77 : decode b_P_moveDot 77 = .ok (.getfield 7, 3) := by decide +kernel
theorem d_P_moveDot_80 : decode b_P_moveDot 80 = .ok (.bipush 15, 2) := by decide +kernel
theorem d_P_moveDot_82 : decode b_P_moveDot 82 = .ok (.dup2, 1) := by decide +kernel
theorem d_P_moveDot_83 : decode b_P_moveDot 83 = .ok (.iaload, 1) := by decide +kernel
theorem d_P_moveDot_84 : decode b_P_moveDot 84 = .ok (.iconst 1, 1) := by decide +kernel
theorem d_P_moveDot_85 : decode b_P_moveDot 85 = .ok (.ior, 1) := by decide +kernel
theorem d_P_moveDot_86 : decode b_P_moveDot 86 = .ok (.iastore, 1) := by decide +kernel
theorem d_P_moveDot_87 : decode b_P_moveDot 87 = .ok (.aload_n 0, 1) := by decide +kernel
theorem d_P_moveDot_88 : decode b_P_moveDot 88 = .ok (.dup, 1) := by decide +kernel
theorem d_P_moveDot_89 : decode b_P_moveDot 89 = .ok (.getfield 19, 3) := by decide +kernel
theorem d_P_moveDot_92 : decode b_P_moveDot 92 = .ok (.iconst 1, 1) := by decide +kernel
theorem d_P_moveDot_93 : decode b_P_moveDot 93 = .ok (.iadd, 1) := by decide +kernel
theorem d_P_moveDot_94 : decode b_P_moveDot 94 = .ok (.putfield 19, 3) := by decide +kernel
theorem d_P_moveDot_97 : decode b_P_moveDot 97 = .ok (.return_, 1) := by decide +kernel
theorem d_P_rowSignals_0 : decode b_P_rowSignals 0 = .ok (.aload_n 0, 1) := by decide +kernel
theorem d_P_rowSignals_1 : decode b_P_rowSignals 1 = .ok (.getfield 7, 3) := by decide +kernel
theorem d_P_rowSignals_4 : decode b_P_rowSignals 4 = .ok (.bipush 65, 2) := by decide +kernel
theorem d_P_rowSignals_6 : decode b_P_rowSignals 6 = .ok (.iaload, 1) := by decide +kernel
theorem d_P_rowSignals_7 : decode b_P_rowSignals 7 = .ok (.bipush 64, 2) := by decide +kernel
theorem d_P_rowSignals_9 : decode b_P_rowSignals 9 = .ok (.iand, 1) := by decide +kernel
theorem d_P_rowSignals_10 : decode b_P_rowSignals 10 = .ok (.ifCond .eq 21, 3) := by decide +kernel
theorem d_P_rowSignals_13 : decode b_P_rowSignals 13 = .ok (.aload_n 0, 1) := by decide +kernel
theorem d_P_rowSignals_14 : decode b_P_rowSignals 14 = .ok (.getfield 29, 3) := by decide +kernel
theorem d_P_rowSignals_17 : decode b_P_rowSignals 17 = .ok (.aload_n 0, 1) := by decide +kernel
theorem d_P_rowSignals_18 : decode b_P_rowSignals 18 = .ok (.getfield 7, 3) := by decide +kernel
theorem d_P_rowSignals_21 : decode b_P_rowSignals 21 = .ok (.bipush 69, 2) := by decide +kernel
theorem d_P_rowSignals_23 : decode b_P_rowSignals 23 = .ok (.iaload, 1) := by decide +kernel
theorem d_P_rowSignals_24 : decode b_P_rowSignals 24 = .ok (.if_icmp .ne 7, 3) := by decide +kernel
theorem d_P_rowSignals_27 : decode b_P_rowSignals 27 = .ok (.iconst 1, 1) := by decide +kernel
theorem d_P_rowSignals_28 : decode b_P_rowSignals 28 = .ok (.goto 4, 3) := by decide +kernel
theorem d_P_rowSignals_31 : decode b_P_rowSignals 31 = .ok (.iconst 0, 1) := by decide +kernel
theorem d_P_rowSignals_32 : decode b_P_rowSignals 32 = .ok (.ireturn, 1) := by decide +kernel
theorem d_P_stateSignals_0 : decode b_P_stateSignals 0 = .ok (.aload_n 0, 1) := by decide +kernel
theorem d_P_stateSignals_1 : decode b_P_stateSignals 1 = .ok (.getfield 42, 3) := by decide +kernel
theorem d_P_stateSignals_4 : decode b_P_stateSignals 4 = .ok (.iconst 3, 1) := by decide +kernel
theorem d_P_stateSignals_5 : decode b_P_stateSignals 5 = .ok (.if_icmp .ge 25, 3) := by decide +kernel
theorem d_P_stateSignals_8 : decode b_P_stateSignals 8 = .ok (.aload_n 0, 1) := by decide +kernel
theorem d_P_stateSignals_9 : decode b_P_stateSignals 9 = .ok (.getfield 7, 3) := by decide +kernel
theorem d_P_stateSignals_12 : decode b_P_stateSignals 12 = .ok (.bipush 65, 2) := by decide +kernel
theorem d_P_stateSignals_14 : decode b_P_stateSignals 14 = .ok (.iaload, 1) := by decide +kernel
theorem d_P_stateSignals_15 : decode b_P_stateSignals 15 = .ok (.bipush 8, 2) := by decide +kernel
theorem d_P_stateSignals_17 : decode b_P_stateSignals 17 = .ok (.aload_n 0, 1) := by decide +kernel
theorem d_P_stateSignals_18 : decode b_P_stateSignals 18 = .ok (.getfield 42, 3) := by decide +kernel
theorem d_P_stateSignals_21 : decode b_P_stateSignals 21 = .ok (.ishl, 1) := by decide +kernel
theorem d_P_stateSignals_22 : decode b_P_stateSignals 22 = .ok (.iand, 1) := by decide +kernel
theorem d_P_stateSignals_23 : decode b_P_stateSignals 23 = .ok (.ifCond .eq 7, 3) := by decide +kernel
theorem d_P_stateSignals_26 : decode b_P_stateSignals 26 = .ok (.iconst 1, 1) := by decide +kernel
theorem d_P_stateSignals_27 : decode b_P_stateSignals 27 = .ok (.goto 4, 3) := by decide +kernel
theorem d_P_stateSignals_30 : decode b_P_stateSignals 30 = .ok (.iconst 0, 1) := by decide +kernel
theorem d_P_stateSignals_31 : decode b_P_stateSignals 31 = .ok (.ireturn, 1) := by decide +kernel
theorem d_P_lookAtSignal_0 : decode b_P_lookAtSignal 0 = .ok (.aload_n 0, 1) := by decide +kernel
theorem d_P_lookAtSignal_1 : decode b_P_lookAtSignal 1 = .ok (.getfield 7, 3) := by decide +kernel
theorem d_P_lookAtSignal_4 : decode b_P_lookAtSignal 4 = .ok (.bipush 64, 2) := by decide +kernel
theorem d_P_lookAtSignal_6 : decode b_P_lookAtSignal 6 = .ok (.iaload, 1) := by decide +kernel
theorem d_P_lookAtSignal_7 : decode b_P_lookAtSignal 7 = .ok (.sipush 128, 3) := by decide +kernel
theorem d_P_lookAtSignal_10 : decode b_P_lookAtSignal 10 = .ok (.iand, 1) := by decide +kernel
theorem d_P_lookAtSignal_11 : decode b_P_lookAtSignal 11 = .ok (.ifCond .eq 21, 3) := by decide +kernel
theorem d_P_lookAtSignal_14 : decode b_P_lookAtSignal 14 = .ok (.aload_n 0, 1) := by decide +kernel
theorem d_P_lookAtSignal_15 : decode b_P_lookAtSignal 15 = .ok (.invokevirtual 61, 3) := by decide +kernel
theorem d_P_lookAtSignal_18 : decode b_P_lookAtSignal 18 = .ok (.ifCond .ne 10, 3) := by decide +kernel
theorem d_P_lookAtSignal_21 : decode b_P_lookAtSignal 21 = .ok (.aload_n 0, 1) := by decide +kernel
theorem d_P_lookAtSignal_22 : decode b_P_lookAtSignal 22 = .ok (.invokevirtual 65, 3) := by decide +kernel
theorem d_P_lookAtSignal_25 : decode b_P_lookAtSignal 25 = .ok (.ifCond .eq 7, 3) := by decide +kernel
theorem d_P_lookAtSignal_28 : decode b_P_lookAtSignal 28 = .ok (.iconst 1, 1) := by decide +kernel
theorem d_P_lookAtSignal_29 : decode b_P_lookAtSignal 29 = .ok (.goto 4, 3) := by decide +kernel
theorem d_P_lookAtSignal_32 : decode b_P_lookAtSignal 32 = .ok (.iconst 0, 1) := by decide +kernel
theorem d_P_lookAtSignal_33 : decode b_P_lookAtSignal 33 = .ok (.istore_n 1, 1) := by decide +kernel
theorem d_P_lookAtSignal_34 : decode b_P_lookAtSignal 34 = .ok (.iload_n 1, 1) := by decide +kernel
theorem d_P_lookAtSignal_35 : decode b_P_lookAtSignal 35 = .ok (.ifCond .eq 21, 3) := by decide +kernel
theorem d_P_lookAtSignal_38 : decode b_P_lookAtSignal 38 = .ok (.aload_n 0, 1) := by decide +kernel
theorem d_P_lookAtSignal_39 : decode b_P_lookAtSignal 39 = .ok (.getfield 32, 3) := by decide +kernel
theorem d_P_lookAtSignal_42 : decode b_P_lookAtSignal 42 = .ok (.ifCond .ne 14, 3) := by decide +kernel
theorem d_P_lookAtSignal_45 : decode b_P_lookAtSignal 45 = .ok (.aload_n 0, 1) := by decide +kernel
theorem d_P_lookAtSignal_46 : decode b_P_lookAtSignal 46 = .ok (.getfield 7, 3) := by decide +kernel
theorem d_P_lookAtSignal_49 : decode b_P_lookAtSignal 49 = .ok (.bipush 15, 2) := by decide +kernel
theorem d_P_lookAtSignal_51 : decode b_P_lookAtSignal 51 = .ok (.dup2, 1) := by decide +kernel
theorem d_P_lookAtSignal_52 : decode b_P_lookAtSignal 52 = .ok (.iaload, 1) := by decide +kernel
theorem d_P_lookAtSignal_53 : decode b_P_lookAtSignal 53 = .ok (.iconst 2, 1) := by decide +kernel
theorem d_P_lookAtSignal_54 : decode b_P_lookAtSignal 54 = .ok (.ior, 1) := by decide +kernel
theorem d_P_lookAtSignal_55 : decode b_P_lookAtSignal 55 = .ok (.iastore, 1) := by decide +kernel
theorem d_P_lookAtSignal_56 : decode b_P_lookAtSignal 56 = .ok (.aload_n 0, 1) := by decide +kernel
theorem d_P_lookAtSignal_57 : decode b_P_lookAtSignal 57 = .ok (.iload_n 1, 1) := by decide +kernel
theorem d_P_lookAtSignal_58 : decode b_P_lookAtSignal 58 = .ok (.putfield 32, 3) := by decide +kernel
theorem d_P_lookAtSignal_61 : decode b_P_lookAtSignal 61 = .ok (.return_, 1) := by decide +kernel
theorem d_P_pass_0 : decode b_P_pass 0 = .ok (.iconst 0, 1) := by decide +kernel
theorem d_P_pass_1 : decode b_P_pass 1 = .ok (.istore_n 2, 1) := by decide +kernel
theorem d_P_pass_2 : decode b_P_pass 2 = .ok (.iload_n 2, 1) := by decide +kernel
theorem d_P_pass_3 : decode b_P_pass 3 = .ok (.iload_n 1, 1) := by decide +kernel
theorem d_P_pass_4 : decode b_P_pass 4 = .ok (.if_icmp .ge 38, 3) := by decide +kernel
theorem d_P_pass_7 : decode b_P_pass 7 = .ok (.aload_n 0, 1) := by decide +kernel
theorem d_P_pass_8 : decode b_P_pass 8 = .ok (.aload_n 0, 1) := by decide +kernel
theorem d_P_pass_9 : decode b_P_pass 9 = .ok (.getfield 23, 3) := by decide +kernel
theorem d_P_pass_12 : decode b_P_pass 12 = .ok (.iconst 1, 1) := by decide +kernel
theorem d_P_pass_13 : decode b_P_pass 13 = .ok (.iadd, 1) := by decide +kernel
theorem d_P_pass_14 : decode b_P_pass 14 = .ok (.ldc 48, 2) := by decide +kernel
theorem d_P_pass_16 : decode b_P_pass 16 = .ok (.iand, 1) := by decide +kernel
theorem d_P_pass_17 : decode b_P_pass 17 = .ok (.putfield 23, 3) := by decide +kernel
theorem d_P_pass_20 : decode b_P_pass 20 = .ok (.aload_n 0, 1) := by decide +kernel
theorem d_P_pass_21 : decode b_P_pass 21 = .ok (.invokevirtual 49, 3) := by decide +kernel
theorem d_P_pass_24 : decode b_P_pass 24 = .ok (.aload_n 0, 1) := by decide +kernel
theorem d_P_pass_25 : decode b_P_pass 25 = .ok (.invokevirtual 52, 3) := by decide +kernel
theorem d_P_pass_28 : decode b_P_pass 28 = .ok (.aload_n 0, 1) := by decide +kernel
theorem d_P_pass_29 : decode b_P_pass 29 = .ok (.invokevirtual 36, 3) := by decide +kernel
theorem d_P_pass_32 : decode b_P_pass 32 = .ok (.aload_n 0, 1) := by decide +kernel
theorem d_P_pass_33 : decode b_P_pass 33 = .ok (.invokevirtual 55, 3) := by decide +kernel
theorem d_P_pass_36 : decode b_P_pass 36 = .ok (.iinc 2 1, 3) := by decide +kernel
theorem d_P_pass_39 : decode b_P_pass 39 = .ok (.goto (-37), 3) := by decide +kernel
theorem d_P_pass_42 : decode b_P_pass 42 = .ok (.return_, 1) := by decide +kernel
theorem d_Q_passHalted_0 : decode b_Q_passHalted 0 = .ok (.aload_n 0, 1) := by decide +kernel
theorem d_Q_passHalted_1 : decode b_Q_passHalted 1 = .ok (.dup, 1) := by decide +kernel
theorem d_Q_passHalted_2 : decode b_Q_passHalted 2 = .ok (.getfield 46, 3) := by decide +kernel
theorem d_Q_passHalted_5 : decode b_Q_passHalted 5 = .ok (.iconst 1, 1) := by decide +kernel
theorem d_Q_passHalted_6 : decode b_Q_passHalted 6 = .ok (.iadd, 1) := by decide +kernel
theorem d_Q_passHalted_7 : decode b_Q_passHalted 7 = .ok (.putfield 46, 3) := by decide +kernel
theorem d_Q_passHalted_10 : decode b_Q_passHalted 10 = .ok (.aload_n 0, 1) := by decide +kernel
theorem d_Q_passHalted_11 : decode b_Q_passHalted 11 = .ok (.getfield 17, 3) := by decide +kernel
theorem d_Q_passHalted_14 : decode b_Q_passHalted 14 = .ok (.iconst 1, 1) := by decide +kernel
theorem d_Q_passHalted_15 : decode b_Q_passHalted 15 = .ok (.invokevirtual 103, 3) := by decide +kernel
theorem d_Q_passHalted_18 : decode b_Q_passHalted 18 = .ok (.return_, 1) := by decide +kernel
theorem d_Q_fetch_0 : decode b_Q_fetch 0 = .ok (.aload_n 0, 1) := by decide +kernel
theorem d_Q_fetch_1 : decode b_Q_fetch 1 = .ok (.getfield 13, 3) := by decide +kernel
theorem d_Q_fetch_4 : decode b_Q_fetch 4 = .ok (.aload_n 0, 1) := by decide +kernel
theorem d_Q_fetch_5 : decode b_Q_fetch 5 = .ok (.getfield 30, 3) := by decide +kernel
theorem d_Q_fetch_8 : decode b_Q_fetch 8 = .ok (.invokevirtual 183, 3) := by decide +kernel
theorem d_Q_fetch_11 : decode b_Q_fetch 11 = .ok (.istore_n 1, 1) := by decide +kernel
theorem d_Q_fetch_12 : decode b_Q_fetch 12 = .ok (.aload_n 0, 1) := by decide +kernel
theorem d_Q_fetch_13 : decode b_Q_fetch 13 = .ok (.aload_n 0, 1) := by decide +kernel
theorem d_Q_fetch_14 : decode b_Q_fetch 14 = .ok (.getfield 30, 3) := by decide +kernel
theorem d_Q_fetch_17 : decode b_Q_fetch 17 = .ok (.iconst 1, 1) := by decide +kernel
theorem d_Q_fetch_18 : decode b_Q_fetch 18 = .ok (.iadd, 1) := by decide +kernel
theorem d_Q_fetch_19 : decode b_Q_fetch 19 = .ok (.ldc 58, 2) := by decide +kernel
theorem d_Q_fetch_21 : decode b_Q_fetch 21 = .ok (.iand, 1) := by decide +kernel
theorem d_Q_fetch_22 : decode b_Q_fetch 22 = .ok (.putfield 30, 3) := by decide +kernel
theorem d_Q_fetch_25 : decode b_Q_fetch 25 = .ok (.aload_n 0, 1) := by decide +kernel
theorem d_Q_fetch_26 : decode b_Q_fetch 26 = .ok (.dup, 1) := by decide +kernel
theorem d_Q_fetch_27 : decode b_Q_fetch 27 = .ok (.getfield 65, 3) := by decide +kernel
theorem d_Q_fetch_30 : decode b_Q_fetch 30 = .ok (.iconst 1, 1) := by decide +kernel
theorem d_Q_fetch_31 : decode b_Q_fetch 31 = .ok (.iadd, 1) := by decide +kernel
theorem d_Q_fetch_32 : decode b_Q_fetch 32 = .ok (.putfield 65, 3) := by decide +kernel
theorem d_Q_fetch_35 : decode b_Q_fetch 35 = .ok (.iload_n 1, 1) := by decide +kernel
theorem d_Q_fetch_36 : decode b_Q_fetch 36 = .ok (.ireturn, 1) := by decide +kernel
theorem d_Q_fetchWord_0 : decode b_Q_fetchWord 0 = .ok (.aload_n 0, 1) := by decide +kernel
theorem d_Q_fetchWord_1 : decode b_Q_fetchWord 1 = .ok (.invokevirtual 75, 3) := by decide +kernel
theorem d_Q_fetchWord_4 : decode b_Q_fetchWord 4 = .ok (.istore_n 1, 1) := by decide +kernel
theorem d_Q_fetchWord_5 : decode b_Q_fetchWord 5 = .ok (.aload_n 0, 1) := by decide +kernel
theorem d_Q_fetchWord_6 : decode b_Q_fetchWord 6 = .ok (.invokevirtual 75, 3) := by decide +kernel
theorem d_Q_fetchWord_9 : decode b_Q_fetchWord 9 = .ok (.bipush 8, 2) := by decide +kernel
theorem d_Q_fetchWord_11 : decode b_Q_fetchWord 11 = .ok (.ishl, 1) := by decide +kernel
theorem d_Q_fetchWord_12 : decode b_Q_fetchWord 12 = .ok (.iload_n 1, 1) := by decide +kernel
theorem d_Q_fetchWord_13 : decode b_Q_fetchWord 13 = .ok (.ior, 1) := by decide +kernel
theorem d_Q_fetchWord_14 : decode b_Q_fetchWord 14 = .ok (.ireturn, 1) := by decide +kernel
theorem d_Q_storeStackPointer_0 : decode b_Q_storeStackPointer 0 = .ok (.aload_n 0, 1) := by decide +kernel
theorem d_Q_storeStackPointer_1 : decode b_Q_storeStackPointer 1 = .ok (.getfield 13, 3) := by decide +kernel
theorem d_Q_storeStackPointer_4 : decode b_Q_storeStackPointer 4 = .ok (.iload_n 1, 1) := by decide +kernel
theorem d_Q_storeStackPointer_5 : decode b_Q_storeStackPointer 5 = .ok (.aload_n 0, 1) := by decide +kernel
theorem d_Q_storeStackPointer_6 : decode b_Q_storeStackPointer 6 = .ok (.getfield 26, 3) := by decide +kernel
theorem d_Q_storeStackPointer_9 : decode b_Q_storeStackPointer 9 = .ok (.sipush 255, 3) := by decide +kernel
theorem d_Q_storeStackPointer_12 : decode b_Q_storeStackPointer 12 = .ok (.iand, 1) := by decide +kernel
theorem d_Q_storeStackPointer_13 : decode b_Q_storeStackPointer 13 = .ok (.invokevirtual 188, 3) := by decide +kernel
theorem d_Q_storeStackPointer_16 : decode b_Q_storeStackPointer 16 = .ok (.aload_n 0, 1) := by decide +kernel
theorem d_Q_storeStackPointer_17 : decode b_Q_storeStackPointer 17 = .ok (.getfield 13, 3) := by decide +kernel
theorem d_Q_storeStackPointer_20 : decode b_Q_storeStackPointer 20 = .ok (.iload_n 1, 1) := by decide +kernel
theorem d_Q_storeStackPointer_21 : decode b_Q_storeStackPointer 21 = .ok (.iconst 1, 1) := by decide +kernel
theorem d_Q_storeStackPointer_22 : decode b_Q_storeStackPointer 22 = .ok (.iadd, 1) := by decide +kernel
theorem d_Q_storeStackPointer_23 : decode b_Q_storeStackPointer 23 = .ok (.ldc 58, 2) := by decide +kernel
theorem d_Q_storeStackPointer_25 : decode b_Q_storeStackPointer 25 = .ok (.iand, 1) := by decide +kernel
theorem d_Q_storeStackPointer_26 : decode b_Q_storeStackPointer 26 = .ok (.aload_n 0, 1) := by decide +kernel
theorem d_Q_storeStackPointer_27 : decode b_Q_storeStackPointer 27 = .ok (.getfield 26, 3) := by decide +kernel
theorem d_Q_storeStackPointer_30 : decode b_Q_storeStackPointer 30 = .ok (.bipush 8, 2) := by decide +kernel
theorem d_Q_storeStackPointer_32 : decode b_Q_storeStackPointer 32 = .ok (.ishr, 1) := by decide +kernel
theorem d_Q_storeStackPointer_33 : decode b_Q_storeStackPointer 33 = .ok (.invokevirtual 188, 3) := by decide +kernel
theorem d_Q_storeStackPointer_36 : decode b_Q_storeStackPointer 36 = .ok (.aload_n 0, 1) := by decide +kernel
theorem d_Q_storeStackPointer_37 : decode b_Q_storeStackPointer 37 = .ok (.dup, 1) := by decide +kernel
theorem d_Q_storeStackPointer_38 : decode b_Q_storeStackPointer 38 = .ok (.getfield 65, 3) := by decide +kernel
theorem d_Q_storeStackPointer_41 : decode b_Q_storeStackPointer 41 = .ok (.iconst 2, 1) := by decide +kernel
theorem d_Q_storeStackPointer_42 : decode b_Q_storeStackPointer 42 = .ok (.iadd, 1) := by decide +kernel
theorem d_Q_storeStackPointer_43 : decode b_Q_storeStackPointer 43 = .ok (.putfield 65, 3) := by decide +kernel
theorem d_Q_storeStackPointer_46 : decode b_Q_storeStackPointer 46 = .ok (.return_, 1) := by decide +kernel
theorem d_Q_holds_0 : decode b_Q_holds 0 = .ok (.aload_n 0, 1) := by decide +kernel
theorem d_Q_holds_1 : decode b_Q_holds 1 = .ok (.getfield 7, 3) := by decide +kernel
theorem d_Q_holds_4 : decode b_Q_holds 4 = .ok (.bipush 6, 2) := by decide +kernel
theorem d_Q_holds_6 : decode b_Q_holds 6 = .ok (.iaload, 1) := by decide +kernel
theorem d_Q_holds_7 : decode b_Q_holds 7 = .ok (.iload_n 1, 1) := by decide +kernel
theorem d_Q_holds_8 : decode b_Q_holds 8 = .ok (.iconst 2, 1) := by decide +kernel
theorem d_Q_holds_9 : decode b_Q_holds 9 = .ok (.if_icmp .ge 9, 3) := by decide +kernel
theorem d_Q_holds_12 : decode b_Q_holds 12 = .ok (.sipush 128, 3) := by decide +kernel
theorem d_Q_holds_15 : decode b_Q_holds 15 = .ok (.goto 5, 3) := by decide +kernel
theorem d_Q_holds_18 : decode b_Q_holds 18 = .ok (.bipush 16, 2) := by decide +kernel
theorem d_Q_holds_20 : decode b_Q_holds 20 = .ok (.iand, 1) := by decide +kernel
theorem d_Q_holds_21 : decode b_Q_holds 21 = .ok (.ifCond .eq 7, 3) := by decide +kernel
theorem d_Q_holds_24 : decode b_Q_holds 24 = .ok (.iconst 1, 1) := by decide +kernel
theorem d_Q_holds_25 : decode b_Q_holds 25 = .ok (.goto 4, 3) := by decide +kernel
theorem d_Q_holds_28 : decode b_Q_holds 28 = .ok (.iconst 0, 1) := by decide +kernel
theorem d_Q_holds_29 : decode b_Q_holds 29 = .ok (.istore_n 2, 1) := by decide +kernel
theorem d_Q_holds_30 : decode b_Q_holds 30 = .ok (.iload_n 2, 1) := by decide +kernel
theorem d_Q_holds_31 : decode b_Q_holds 31 = .ok (.iload_n 1, 1) := by decide +kernel
theorem d_Q_holds_32 : decode b_Q_holds 32 = .ok (.iconst 1, 1) := by decide +kernel
theorem d_Q_holds_33 : decode b_Q_holds 33 = .ok (.iand, 1) := by decide +kernel
theorem d_Q_holds_34 : decode b_Q_holds 34 = .ok (.ifCond .eq 7, 3) := by decide +kernel
theorem d_Q_holds_37 : decode b_Q_holds 37 = .ok (.iconst 1, 1) := by decide +kernel
theorem d_Q_holds_38 : decode b_Q_holds 38 = .ok (.goto 4, 3) := by decide +kernel
theorem d_Q_holds_41 : decode b_Q_holds 41 = .ok (.iconst 0, 1) := by decide +kernel
theorem d_Q_holds_42 : decode b_Q_holds 42 = .ok (.if_icmp .ne 7, 3) := by decide +kernel
theorem d_Q_holds_45 : decode b_Q_holds 45 = .ok (.iconst 1, 1) := by decide +kernel
theorem d_Q_holds_46 : decode b_Q_holds 46 = .ok (.goto 4, 3) := by decide +kernel
theorem d_Q_holds_49 : decode b_Q_holds 49 = .ok (.iconst 0, 1) := by decide +kernel
theorem d_Q_holds_50 : decode b_Q_holds 50 = .ok (.ireturn, 1) := by decide +kernel
theorem d_Q_jump_0 : decode b_Q_jump 0 = .ok (.iload_n 1, 1) := by decide +kernel
theorem d_Q_jump_1 : decode b_Q_jump 1 = .ok (.ifCond .eq 21, 3) := by decide +kernel
theorem d_Q_jump_4 : decode b_Q_jump 4 = .ok (.aload_n 0, 1) := by decide +kernel
theorem d_Q_jump_5 : decode b_Q_jump 5 = .ok (.iload_n 2, 1) := by decide +kernel
theorem d_Q_jump_6 : decode b_Q_jump 6 = .ok (.ldc 58, 2) := by decide +kernel
theorem d_Q_jump_8 : decode b_Q_jump 8 = .ok (.iand, 1) := by decide +kernel
theorem d_Q_jump_9 : decode b_Q_jump 9 = .ok (.putfield 30, 3) := by decide +kernel
theorem d_Q_jump_12 : decode b_Q_jump 12 = .ok (.aload_n 0, 1) := by decide +kernel
theorem d_Q_jump_13 : decode b_Q_jump 13 = .ok (.dup, 1) := by decide +kernel
theorem d_Q_jump_14 : decode b_Q_jump 14 = .ok (.getfield 65, 3) := by decide +kernel
theorem d_Q_jump_17 : decode b_Q_jump 17 = .ok (.iconst 1, 1) := by decide +kernel
theorem d_Q_jump_18 : decode b_Q_jump 18 = .ok (.iadd, 1) := by decide +kernel
theorem d_Q_jump_19 : decode b_Q_jump 19 = .ok (.putfield 65, 3) := by decide +kernel
theorem d_Q_jump_22 : decode b_Q_jump 22 = .ok (.return_, 1) := by decide +kernel
theorem d_Q_pair_0 : decode b_Q_pair 0 = .ok (.iload_n 1, 1) := by decide +kernel
theorem d_Q_pair_1 : decode b_Q_pair 1 = .ok (.iconst 3, 1) := by decide +kernel
theorem d_Q_pair_2 : decode b_Q_pair 2 = .ok (.if_icmp .ne 10, 3) := by decide +kernel
theorem d_Q_pair_5 : decode b_Q_pair 5 = .ok (.aload_n 0, 1) := by decide +kernel
theorem d_Q_pair_6 : decode b_Q_pair 6 = .ok (.getfield 26, 3) := by decide +kernel
theorem d_Q_pair_9 : decode b_Q_pair 9 = .ok (.goto 31, 3) := by decide +kernel
theorem d_Q_pair_12 : decode b_Q_pair 12 = .ok (.aload_n 0, 1) := by decide +kernel
theorem d_Q_pair_13 : decode b_Q_pair 13 = .ok (.getfield 7, 3) := by decide +kernel
theorem d_Q_pair_16 : decode b_Q_pair 16 = .ok (.iconst 2, 1) := by decide +kernel
theorem d_Q_pair_17 : decode b_Q_pair 17 = .ok (.iload_n 1, 1) := by decide +kernel
theorem d_Q_pair_18 : decode b_Q_pair 18 = .ok (.imul, 1) := by decide +kernel
theorem d_Q_pair_19 : decode b_Q_pair 19 = .ok (.bipush 7, 2) := by decide +kernel
theorem d_Q_pair_21 : decode b_Q_pair 21 = .ok (.iand, 1) := by decide +kernel
theorem d_Q_pair_22 : decode b_Q_pair 22 = .ok (.iaload, 1) := by decide +kernel
theorem d_Q_pair_23 : decode b_Q_pair 23 = .ok (.bipush 8, 2) := by decide +kernel
theorem d_Q_pair_25 : decode b_Q_pair 25 = .ok (.ishl, 1) := by decide +kernel
theorem d_Q_pair_26 : decode b_Q_pair 26 = .ok (.aload_n 0, 1) := by decide +kernel
theorem d_Q_pair_27 : decode b_Q_pair 27 = .ok (.getfield 7, 3) := by decide +kernel
theorem d_Q_pair_30 : decode b_Q_pair 30 = .ok (.iconst 2, 1) := by decide +kernel
theorem d_Q_pair_31 : decode b_Q_pair 31 = .ok (.iload_n 1, 1) := by decide +kernel
theorem d_Q_pair_32 : decode b_Q_pair 32 = .ok (.imul, 1) := by decide +kernel
theorem d_Q_pair_33 : decode b_Q_pair 33 = .ok (.iconst 1, 1) := by decide +kernel
theorem d_Q_pair_34 : decode b_Q_pair 34 = .ok (.iadd, 1) := by decide +kernel
theorem d_Q_pair_35 : decode b_Q_pair 35 = .ok (.bipush 7, 2) := by decide +kernel
theorem d_Q_pair_37 : decode b_Q_pair 37 = .ok (.iand, 1) := by decide +kernel
theorem d_Q_pair_38 : decode b_Q_pair 38 = .ok (.iaload, 1) := by decide +kernel
theorem d_Q_pair_39 : decode b_Q_pair 39 = .ok (.ior, 1) := by decide +kernel
theorem d_Q_pair_40 : decode b_Q_pair 40 = .ok (.ireturn, 1) := by decide +kernel
theorem d_Q_addToHl_0 : decode b_Q_addToHl 0 = .ok (.aload_n 0, 1) := by decide +kernel
theorem d_Q_addToHl_1 : decode b_Q_addToHl 1 = .ok (.iconst 2, 1) := by decide +kernel
theorem d_Q_addToHl_2 : decode b_Q_addToHl 2 = .ok (.invokevirtual 129, 3) := by decide +kernel
theorem d_Q_addToHl_5 : decode b_Q_addToHl 5 = .ok (.istore_n 2, 1) := by decide +kernel
theorem d_Q_addToHl_6 : decode b_Q_addToHl 6 = .ok (.iload_n 2, 1) := by decide +kernel
theorem d_Q_addToHl_7 : decode b_Q_addToHl 7 = .ok (.sipush 4095, 3) := by decide +kernel
theorem d_Q_addToHl_10 : decode b_Q_addToHl 10 = .ok (.iand, 1) := by decide +kernel
theorem d_Q_addToHl_11 : decode b_Q_addToHl 11 = .ok (.iload_n 1, 1) := by decide +kernel
theorem d_Q_addToHl_12 : decode b_Q_addToHl 12 = .ok (.sipush 4095, 3) := by decide +kernel
theorem d_Q_addToHl_15 : decode b_Q_addToHl 15 = .ok (.iand, 1) := by decide +kernel
theorem d_Q_addToHl_16 : decode b_Q_addToHl 16 = .ok (.iadd, 1) := by decide +kernel
theorem d_Q_addToHl_17 : decode b_Q_addToHl 17 = .ok (.sipush 4095, 3) := by decide +kernel
theorem d_Q_addToHl_20 : decode b_Q_addToHl 20 = .ok (.if_icmp .le 8, 3) := by decide +kernel
theorem d_Q_addToHl_23 : decode b_Q_addToHl 23 = .ok (.bipush 32, 2) := by decide +kernel
theorem d_Q_addToHl_25 : decode b_Q_addToHl 25 = .ok (.goto 4, 3) := by decide +kernel
theorem d_Q_addToHl_28 : decode b_Q_addToHl 28 = .ok (.iconst 0, 1) := by decide +kernel
theorem d_Q_addToHl_29 : decode b_Q_addToHl 29 = .ok (.istore_n 3, 1) := by decide +kernel
theorem d_Q_addToHl_30 : decode b_Q_addToHl 30 = .ok (.iload_n 2, 1) := by decide +kernel
theorem d_Q_addToHl_31 : decode b_Q_addToHl 31 = .ok (.iload_n 1, 1) := by decide +kernel
theorem d_Q_addToHl_32 : decode b_Q_addToHl 32 = .ok (.iadd, 1) := by decide +kernel
theorem d_Q_addToHl_33 : decode b_Q_addToHl 33 = .ok (.ldc 58, 2) := by decide +kernel
theorem d_Q_addToHl_35 : decode b_Q_addToHl 35 = .ok (.if_icmp .le 8, 3) := by decide +kernel
theorem d_Q_addToHl_38 : decode b_Q_addToHl 38 = .ok (.bipush 16, 2) := by decide +kernel
theorem d_Q_addToHl_40 : decode b_Q_addToHl 40 = .ok (.goto 4, 3) := by decide +kernel
theorem d_Q_addToHl_43 : decode b_Q_addToHl 43 = .ok (.iconst 0, 1) := by decide +kernel
theorem d_Q_addToHl_44 : decode b_Q_addToHl 44 = .ok (.istore 4, 2) := by decide +kernel
theorem d_Q_addToHl_46 : decode b_Q_addToHl 46 = .ok (.aload_n 0, 1) := by decide +kernel
theorem d_Q_addToHl_47 : decode b_Q_addToHl 47 = .ok (.getfield 7, 3) := by decide +kernel
theorem d_Q_addToHl_50 : decode b_Q_addToHl 50 = .ok (.bipush 6, 2) := by decide +kernel
theorem d_Q_addToHl_52 : decode b_Q_addToHl 52 = .ok (.aload_n 0, 1) := by decide +kernel
theorem d_Q_addToHl_53 : decode b_Q_addToHl 53 = .ok (.getfield 7, 3) := by decide +kernel
theorem d_Q_addToHl_56 : decode b_Q_addToHl 56 = .ok (.bipush 6, 2) := by decide +kernel
theorem d_Q_addToHl_58 : decode b_Q_addToHl 58 = .ok (.iaload, 1) := by decide +kernel
theorem d_Q_addToHl_59 : decode b_Q_addToHl 59 = .ok (.sipush 128, 3) := by decide +kernel
theorem d_Q_addToHl_62 : decode b_Q_addToHl 62 = .ok (.iand, 1) := by decide +kernel
theorem d_Q_addToHl_63 : decode b_Q_addToHl 63 = .ok (.iload_n 3, 1) := by decide +kernel
theorem d_Q_addToHl_64 : decode b_Q_addToHl 64 = .ok (.ior, 1) := by decide +kernel
theorem d_Q_addToHl_65 : decode b_Q_addToHl 65 = .ok (.iload 4, 2) := by decide +kernel
theorem d_Q_addToHl_67 : decode b_Q_addToHl 67 = .ok (.ior, 1) := by decide +kernel
theorem d_Q_addToHl_68 : decode b_Q_addToHl 68 = .ok (.iastore, 1) := by decide +kernel
theorem d_Q_addToHl_69 : decode b_Q_addToHl 69 = .ok (.aload_n 0, 1) := by decide +kernel
theorem d_Q_addToHl_70 : decode b_Q_addToHl 70 = .ok (.iconst 2, 1) := by decide +kernel
theorem d_Q_addToHl_71 : decode b_Q_addToHl 71 = .ok (.iload_n 2, 1) := by decide +kernel
theorem d_Q_addToHl_72 : decode b_Q_addToHl 72 = .ok (.iload_n 1, 1) := by decide +kernel
theorem d_Q_addToHl_73 : decode b_Q_addToHl 73 = .ok (.iadd, 1) := by decide +kernel
theorem d_Q_addToHl_74 : decode b_Q_addToHl 74 = .ok (.invokevirtual 21, 3) := by decide +kernel
theorem d_Q_addToHl_77 : decode b_Q_addToHl 77 = .ok (.aload_n 0, 1) := by decide +kernel
theorem d_Q_addToHl_78 : decode b_Q_addToHl 78 = .ok (.dup, 1) := by decide +kernel
theorem d_Q_addToHl_79 : decode b_Q_addToHl 79 = .ok (.getfield 65, 3) := by decide +kernel
theorem d_Q_addToHl_82 : decode b_Q_addToHl 82 = .ok (.iconst 1, 1) := by decide +kernel
theorem d_Q_addToHl_83 : decode b_Q_addToHl 83 = .ok (.iadd, 1) := by decide +kernel
theorem d_Q_addToHl_84 : decode b_Q_addToHl 84 = .ok (.putfield 65, 3) := by decide +kernel
theorem d_Q_addToHl_87 : decode b_Q_addToHl 87 = .ok (.return_, 1) := by decide +kernel
theorem d_Q_copyA_0 : decode b_Q_copyA 0 = .ok (.aload_n 0, 1) := by decide +kernel
theorem d_Q_copyA_1 : decode b_Q_copyA 1 = .ok (.dup, 1) := by decide +kernel
theorem d_Q_copyA_2 : decode b_Q_copyA 2 = .ok (.getfield 65, 3) := by decide +kernel
theorem d_Q_copyA_5 : decode b_Q_copyA 5 = .ok (.iconst 1, 1) := by decide +kernel
theorem d_Q_copyA_6 : decode b_Q_copyA 6 = .ok (.iadd, 1) := by decide +kernel
theorem d_Q_copyA_7 : decode b_Q_copyA 7 = .ok (.putfield 65, 3) := by decide +kernel
theorem d_Q_copyA_10 : decode b_Q_copyA 10 = .ok (.iload_n 2, 1) := by decide +kernel
theorem d_Q_copyA_11 : decode b_Q_copyA 11 = .ok (.ifCond .eq 21, 3) := by decide +kernel
theorem d_Q_copyA_14 : decode b_Q_copyA 14 = .ok (.aload_n 0, 1) := by decide +kernel
theorem d_Q_copyA_15 : decode b_Q_copyA 15 = .ok (.getfield 7, 3) := by decide +kernel
theorem d_Q_copyA_18 : decode b_Q_copyA 18 = .ok (.bipush 7, 2) := by decide +kernel
theorem d_Q_copyA_20 : decode b_Q_copyA 20 = .ok (.aload_n 0, 1) := by decide +kernel
theorem d_Q_copyA_21 : decode b_Q_copyA 21 = .ok (.getfield 13, 3) := by decide +kernel
theorem d_Q_copyA_24 : decode b_Q_copyA 24 = .ok (.iload_n 1, 1) := by decide +kernel
theorem d_Q_copyA_25 : decode b_Q_copyA 25 = .ok (.invokevirtual 183, 3) := by decide +kernel
theorem d_Q_copyA_28 : decode b_Q_copyA 28 = .ok (.iastore, 1) := by decide +kernel
theorem d_Q_copyA_29 : decode b_Q_copyA 29 = .ok (.goto 18, 3) := by decide +kernel
theorem d_Q_copyA_32 : decode b_Q_copyA 32 = .ok (.aload_n 0, 1) := by decide +kernel
theorem d_Q_copyA_33 : decode b_Q_copyA 33 = .ok (.getfield 13, 3) := by decide +kernel
theorem d_Q_copyA_36 : decode b_Q_copyA 36 = .ok (.iload_n 1, 1) := by decide +kernel
theorem d_Q_copyA_37 : decode b_Q_copyA 37 = .ok (.aload_n 0, 1) := by decide +kernel
theorem d_Q_copyA_38 : decode b_Q_copyA 38 = .ok (.getfield 7, 3) := by decide +kernel
theorem d_Q_copyA_41 : decode b_Q_copyA 41 = .ok (.bipush 7, 2) := by decide +kernel
theorem d_Q_copyA_43 : decode b_Q_copyA 43 = .ok (.iaload, 1) := by decide +kernel
theorem d_Q_copyA_44 : decode b_Q_copyA 44 = .ok (.invokevirtual 188, 3) := by decide +kernel
theorem d_Q_copyA_47 : decode b_Q_copyA 47 = .ok (.return_, 1) := by decide +kernel
theorem d_Q_octetAt_0 : decode b_Q_octetAt 0 = .ok (.iload_n 1, 1) := by decide +kernel
theorem d_Q_octetAt_1 : decode b_Q_octetAt 1 = .ok (.bipush 6, 2) := by decide +kernel
theorem d_Q_octetAt_3 : decode b_Q_octetAt 3 = .ok (.if_icmp .eq 13, 3) := by decide +kernel
theorem d_Q_octetAt_6 : decode b_Q_octetAt 6 = .ok (.aload_n 0, 1) := by decide +kernel
theorem d_Q_octetAt_7 : decode b_Q_octetAt 7 = .ok (.getfield 7, 3) := by decide +kernel
theorem d_Q_octetAt_10 : decode b_Q_octetAt 10 = .ok (.iload_n 1, 1) := by decide +kernel
theorem d_Q_octetAt_11 : decode b_Q_octetAt 11 = .ok (.bipush 7, 2) := by decide +kernel
theorem d_Q_octetAt_13 : decode b_Q_octetAt 13 = .ok (.iand, 1) := by decide +kernel
theorem d_Q_octetAt_14 : decode b_Q_octetAt 14 = .ok (.iaload, 1) := by decide +kernel
theorem d_Q_octetAt_15 : decode b_Q_octetAt 15 = .ok (.ireturn, 1) := by decide +kernel
theorem d_Q_octetAt_16 : decode b_Q_octetAt 16 = .ok (.aload_n 0, 1) := by decide +kernel
theorem d_Q_octetAt_17 : decode b_Q_octetAt 17 = .ok (.dup, 1) := by decide +kernel
theorem d_Q_octetAt_18 : decode b_Q_octetAt 18 = .ok (.getfield 65, 3) := by decide +kernel
theorem d_Q_octetAt_21 : decode b_Q_octetAt 21 = .ok (.iconst 1, 1) := by decide +kernel
theorem d_Q_octetAt_22 : decode b_Q_octetAt 22 = .ok (.iadd, 1) := by decide +kernel
theorem d_Q_octetAt_23 : decode b_Q_octetAt 23 = .ok (.putfield 65, 3) := by decide +kernel
theorem d_Q_octetAt_26 : decode b_Q_octetAt 26 = .ok (.aload_n 0, 1) := by decide +kernel
theorem d_Q_octetAt_27 : decode b_Q_octetAt 27 = .ok (.getfield 13, 3) := by decide +kernel
theorem d_Q_octetAt_30 : decode b_Q_octetAt 30 = .ok (.aload_n 0, 1) := by decide +kernel
theorem d_Q_octetAt_31 : decode b_Q_octetAt 31 = .ok (.iconst 2, 1) := by decide +kernel
theorem d_Q_octetAt_32 : decode b_Q_octetAt 32 = .ok (.invokevirtual 129, 3) := by decide +kernel
theorem d_Q_octetAt_35 : decode b_Q_octetAt 35 = .ok (.invokevirtual 183, 3) := by decide +kernel
theorem d_Q_octetAt_38 : decode b_Q_octetAt 38 = .ok (.ireturn, 1) := by decide +kernel
theorem d_Q_zero_0 : decode b_Q_zero 0 = .ok (.iload_n 0, 1) := by decide +kernel
theorem d_Q_zero_1 : decode b_Q_zero 1 = .ok (.ifCond .ne 9, 3) := by decide +kernel
theorem d_Q_zero_4 : decode b_Q_zero 4 = .ok (.sipush 128, 3) := by decide +kernel
theorem d_Q_zero_7 : decode b_Q_zero 7 = .ok (.goto 4, 3) := by decide +kernel
theorem d_Q_zero_10 : decode b_Q_zero 10 = .ok (.iconst 0, 1) := by decide +kernel
theorem d_Q_zero_11 : decode b_Q_zero 11 = .ok (.ireturn, 1) := by decide +kernel
theorem d_Q_increased_0 : decode b_Q_increased 0 = .ok (.iload_n 1, 1) := by decide +kernel
theorem d_Q_increased_1 : decode b_Q_increased 1 = .ok (.iconst 1, 1) := by decide +kernel
theorem d_Q_increased_2 : decode b_Q_increased 2 = .ok (.iadd, 1) := by decide +kernel
theorem d_Q_increased_3 : decode b_Q_increased 3 = .ok (.sipush 255, 3) := by decide +kernel
theorem d_Q_increased_6 : decode b_Q_increased 6 = .ok (.iand, 1) := by decide +kernel
theorem d_Q_increased_7 : decode b_Q_increased 7 = .ok (.istore_n 2, 1) := by decide +kernel
theorem d_Q_increased_8 : decode b_Q_increased 8 = .ok (.aload_n 0, 1) := by decide +kernel
theorem d_Q_increased_9 : decode b_Q_increased 9 = .ok (.getfield 7, 3) := by decide +kernel
theorem d_Q_increased_12 : decode b_Q_increased 12 = .ok (.bipush 6, 2) := by decide +kernel
theorem d_Q_increased_14 : decode b_Q_increased 14 = .ok (.aload_n 0, 1) := by decide +kernel
theorem d_Q_increased_15 : decode b_Q_increased 15 = .ok (.getfield 7, 3) := by decide +kernel
theorem d_Q_increased_18 : decode b_Q_increased 18 = .ok (.bipush 6, 2) := by decide +kernel
theorem d_Q_increased_20 : decode b_Q_increased 20 = .ok (.iaload, 1) := by decide +kernel
theorem d_Q_increased_21 : decode b_Q_increased 21 = .ok (.bipush 16, 2) := by decide +kernel
theorem d_Q_increased_23 : decode b_Q_increased 23 = .ok (.iand, 1) := by decide +kernel
theorem d_Q_increased_24 : decode b_Q_increased 24 = .ok (.iload_n 2, 1) := by decide +kernel
theorem d_Q_increased_25 : decode b_Q_increased 25 = .ok (.invokestatic 180, 3) := by decide +kernel
theorem d_Q_increased_28 : decode b_Q_increased 28 = .ok (.ior, 1) := by decide +kernel
theorem d_Q_increased_29 : decode b_Q_increased 29 = .ok (.iload_n 2, 1) := by decide +kernel
theorem d_Q_increased_30 : decode b_Q_increased 30 = .ok (.bipush 15, 2) := by decide +kernel
theorem d_Q_increased_32 : decode b_Q_increased 32 = .ok (.iand, 1) := by decide +kernel
theorem d_Q_increased_33 : decode b_Q_increased 33 = .ok (.ifCond .ne 8, 3) := by decide +kernel
theorem d_Q_increased_36 : decode b_Q_increased 36 = .ok (.bipush 32, 2) := by decide +kernel
theorem d_Q_increased_38 : decode b_Q_increased 38 = .ok (.goto 4, 3) := by decide +kernel
theorem d_Q_increased_41 : decode b_Q_increased 41 = .ok (.iconst 0, 1) := by decide +kernel
theorem d_Q_increased_42 : decode b_Q_increased 42 = .ok (.ior, 1) := by decide +kernel
theorem d_Q_increased_43 : decode b_Q_increased 43 = .ok (.iastore, 1) := by decide +kernel
theorem d_Q_increased_44 : decode b_Q_increased 44 = .ok (.iload_n 2, 1) := by decide +kernel
theorem d_Q_increased_45 : decode b_Q_increased 45 = .ok (.ireturn, 1) := by decide +kernel
theorem d_Q_setOctet_0 : decode b_Q_setOctet 0 = .ok (.iload_n 1, 1) := by decide +kernel
theorem d_Q_setOctet_1 : decode b_Q_setOctet 1 = .ok (.bipush 6, 2) := by decide +kernel
theorem d_Q_setOctet_3 : decode b_Q_setOctet 3 = .ok (.if_icmp .eq 14, 3) := by decide +kernel
theorem d_Q_setOctet_6 : decode b_Q_setOctet 6 = .ok (.aload_n 0, 1) := by decide +kernel
theorem d_Q_setOctet_7 : decode b_Q_setOctet 7 = .ok (.getfield 7, 3) := by decide +kernel
theorem d_Q_setOctet_10 : decode b_Q_setOctet 10 = .ok (.iload_n 1, 1) := by decide +kernel
theorem d_Q_setOctet_11 : decode b_Q_setOctet 11 = .ok (.bipush 7, 2) := by decide +kernel
theorem d_Q_setOctet_13 : decode b_Q_setOctet 13 = .ok (.iand, 1) := by decide +kernel
theorem d_Q_setOctet_14 : decode b_Q_setOctet 14 = .ok (.iload_n 2, 1) := by decide +kernel
theorem d_Q_setOctet_15 : decode b_Q_setOctet 15 = .ok (.iastore, 1) := by decide +kernel
theorem d_Q_setOctet_16 : decode b_Q_setOctet 16 = .ok (.return_, 1) := by decide +kernel
theorem d_Q_setOctet_17 : decode b_Q_setOctet 17 = .ok (.aload_n 0, 1) := by decide +kernel
theorem d_Q_setOctet_18 : decode b_Q_setOctet 18 = .ok (.dup, 1) := by decide +kernel
theorem d_Q_setOctet_19 : decode b_Q_setOctet 19 = .ok (.getfield 65, 3) := by decide +kernel
theorem d_Q_setOctet_22 : decode b_Q_setOctet 22 = .ok (.iconst 1, 1) := by decide +kernel
theorem d_Q_setOctet_23 : decode b_Q_setOctet 23 = .ok (.iadd, 1) := by decide +kernel
theorem d_Q_setOctet_24 : decode b_Q_setOctet 24 = .ok (.putfield 65, 3) := by decide +kernel
theorem d_Q_setOctet_27 : decode b_Q_setOctet 27 = .ok (.aload_n 0, 1) := by decide +kernel
theorem d_Q_setOctet_28 : decode b_Q_setOctet 28 = .ok (.getfield 13, 3) := by decide +kernel
theorem d_Q_setOctet_31 : decode b_Q_setOctet 31 = .ok (.aload_n 0, 1) := by decide +kernel
theorem d_Q_setOctet_32 : decode b_Q_setOctet 32 = .ok (.iconst 2, 1) := by decide +kernel
theorem d_Q_setOctet_33 : decode b_Q_setOctet 33 = .ok (.invokevirtual 129, 3) := by decide +kernel
theorem d_Q_setOctet_36 : decode b_Q_setOctet 36 = .ok (.iload_n 2, 1) := by decide +kernel
theorem d_Q_setOctet_37 : decode b_Q_setOctet 37 = .ok (.invokevirtual 188, 3) := by decide +kernel
theorem d_Q_setOctet_40 : decode b_Q_setOctet 40 = .ok (.return_, 1) := by decide +kernel
theorem d_Q_decreased_0 : decode b_Q_decreased 0 = .ok (.iload_n 1, 1) := by decide +kernel
theorem d_Q_decreased_1 : decode b_Q_decreased 1 = .ok (.iconst 1, 1) := by decide +kernel
theorem d_Q_decreased_2 : decode b_Q_decreased 2 = .ok (.isub, 1) := by decide +kernel
theorem d_Q_decreased_3 : decode b_Q_decreased 3 = .ok (.sipush 255, 3) := by decide +kernel
theorem d_Q_decreased_6 : decode b_Q_decreased 6 = .ok (.iand, 1) := by decide +kernel
theorem d_Q_decreased_7 : decode b_Q_decreased 7 = .ok (.istore_n 2, 1) := by decide +kernel
theorem d_Q_decreased_8 : decode b_Q_decreased 8 = .ok (.aload_n 0, 1) := by decide +kernel
theorem d_Q_decreased_9 : decode b_Q_decreased 9 = .ok (.getfield 7, 3) := by decide +kernel
theorem d_Q_decreased_12 : decode b_Q_decreased 12 = .ok (.bipush 6, 2) := by decide +kernel
theorem d_Q_decreased_14 : decode b_Q_decreased 14 = .ok (.aload_n 0, 1) := by decide +kernel
theorem d_Q_decreased_15 : decode b_Q_decreased 15 = .ok (.getfield 7, 3) := by decide +kernel
theorem d_Q_decreased_18 : decode b_Q_decreased 18 = .ok (.bipush 6, 2) := by decide +kernel
theorem d_Q_decreased_20 : decode b_Q_decreased 20 = .ok (.iaload, 1) := by decide +kernel
theorem d_Q_decreased_21 : decode b_Q_decreased 21 = .ok (.bipush 16, 2) := by decide +kernel
theorem d_Q_decreased_23 : decode b_Q_decreased 23 = .ok (.iand, 1) := by decide +kernel
theorem d_Q_decreased_24 : decode b_Q_decreased 24 = .ok (.bipush 64, 2) := by decide +kernel
theorem d_Q_decreased_26 : decode b_Q_decreased 26 = .ok (.ior, 1) := by decide +kernel
theorem d_Q_decreased_27 : decode b_Q_decreased 27 = .ok (.iload_n 2, 1) := by decide +kernel
theorem d_Q_decreased_28 : decode b_Q_decreased 28 = .ok (.invokestatic 180, 3) := by decide +kernel
theorem d_Q_decreased_31 : decode b_Q_decreased 31 = .ok (.ior, 1) := by decide +kernel
theorem d_Q_decreased_32 : decode b_Q_decreased 32 = .ok (.iload_n 2, 1) := by decide +kernel
theorem d_Q_decreased_33 : decode b_Q_decreased 33 = .ok (.bipush 15, 2) := by decide +kernel
theorem d_Q_decreased_35 : decode b_Q_decreased 35 = .ok (.iand, 1) := by decide +kernel
theorem d_Q_decreased_36 : decode b_Q_decreased 36 = .ok (.bipush 15, 2) := by decide +kernel
theorem d_Q_decreased_38 : decode b_Q_decreased 38 = .ok (.if_icmp .ne 8, 3) := by decide +kernel
theorem d_Q_decreased_41 : decode b_Q_decreased 41 = .ok (.bipush 32, 2) := by decide +kernel
theorem d_Q_decreased_43 : decode b_Q_decreased 43 = .ok (.goto 4, 3) := by decide +kernel
theorem d_Q_decreased_46 : decode b_Q_decreased 46 = .ok (.iconst 0, 1) := by decide +kernel
theorem d_Q_decreased_47 : decode b_Q_decreased 47 = .ok (.ior, 1) := by decide +kernel
theorem d_Q_decreased_48 : decode b_Q_decreased 48 = .ok (.iastore, 1) := by decide +kernel
theorem d_Q_decreased_49 : decode b_Q_decreased 49 = .ok (.iload_n 2, 1) := by decide +kernel
theorem d_Q_decreased_50 : decode b_Q_decreased 50 = .ok (.ireturn, 1) := by decide +kernel
