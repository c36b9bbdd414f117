theorem d_Q_returnIf_0 : decode b_Q_returnIf 0 = .ok (.aload_n 0, 1) := by decide +kernel
theorem d_Q_returnIf_1 : decode b_Q_returnIf 1 = .ok (.dup, 1) := by decide +kernel
theorem d_Q_returnIf_2 : decode b_Q_returnIf 2 = .ok (.getfield 65, 3) := by decide +kernel
theorem d_Q_returnIf_5 : decode b_Q_returnIf 5 = .ok (.iconst 1, 1) := by decide +kernel
theorem d_Q_returnIf_6 : decode b_Q_returnIf 6 = .ok (.iadd, 1) := by decide +kernel
theorem d_Q_returnIf_7 : decode b_Q_returnIf 7 = .ok (.putfield 65, 3) := by decide +kernel
theorem d_Q_returnIf_10 : decode b_Q_returnIf 10 = .ok (.iload_n 1, 1) := by decide +kernel
theorem d_Q_returnIf_11 : decode b_Q_returnIf 11 = .ok (.ifCond .eq 12, 3) := by decide +kernel
theorem d_Q_returnIf_14 : decode b_Q_returnIf 14 = .ok (.aload_n 0, 1) := by decide +kernel
theorem d_Q_returnIf_15 : decode b_Q_returnIf 15 = .ok (.iconst 1, 1) := by decide +kernel
theorem d_Q_returnIf_16 : decode b_Q_returnIf 16 = .ok (.aload_n 0, 1) := by decide +kernel
theorem d_Q_returnIf_17 : decode b_Q_returnIf 17 = .ok (.invokevirtual 165, 3) := by decide +kernel
theorem d_Q_returnIf_20 : decode b_Q_returnIf 20 = .ok (.invokevirtual 125, 3) := by decide +kernel
theorem d_Q_returnIf_23 : decode b_Q_returnIf 23 = .ok (.return_, 1) := by decide +kernel
theorem d_Q_addToStackPointer_0 : decode b_Q_addToStackPointer 0 = .ok (.aload_n 0, 1) := by decide +kernel
theorem d_Q_addToStackPointer_1 : decode b_Q_addToStackPointer 1 = .ok (.getfield 26, 3) := by decide +kernel
theorem d_Q_addToStackPointer_4 : decode b_Q_addToStackPointer 4 = .ok (.bipush 15, 2) := by decide +kernel
theorem d_Q_addToStackPointer_6 : decode b_Q_addToStackPointer 6 = .ok (.iand, 1) := by decide +kernel
theorem d_Q_addToStackPointer_7 : decode b_Q_addToStackPointer 7 = .ok (.iload_n 2, 1) := by decide +kernel
theorem d_Q_addToStackPointer_8 : decode b_Q_addToStackPointer 8 = .ok (.bipush 15, 2) := by decide +kernel
theorem d_Q_addToStackPointer_10 : decode b_Q_addToStackPointer 10 = .ok (.iand, 1) := by decide +kernel
theorem d_Q_addToStackPointer_11 : decode b_Q_addToStackPointer 11 = .ok (.iadd, 1) := by decide +kernel
theorem d_Q_addToStackPointer_12 : decode b_Q_addToStackPointer 12 = .ok (.bipush 15, 2) := by decide +kernel
theorem d_Q_addToStackPointer_14 : decode b_Q_addToStackPointer 14 = .ok (.if_icmp .le 8, 3) := by decide +kernel
theorem d_Q_addToStackPointer_17 : decode b_Q_addToStackPointer 17 = .ok (.bipush 32, 2) := by decide +kernel
theorem d_Q_addToStackPointer_19 : decode b_Q_addToStackPointer 19 = .ok (.goto 4, 3) := by decide +kernel
theorem d_Q_addToStackPointer_22 : decode b_Q_addToStackPointer 22 = .ok (.iconst 0, 1) := by decide +kernel
theorem d_Q_addToStackPointer_23 : decode b_Q_addToStackPointer 23 = .ok (.istore_n 3, 1) := by decide +kernel
theorem d_Q_addToStackPointer_24 : decode b_Q_addToStackPointer 24 = .ok (.aload_n 0, 1) := by decide +kernel
theorem d_Q_addToStackPointer_25 : decode b_Q_addToStackPointer 25 = .ok (.getfield 26, 3) := by decide +kernel
theorem d_Q_addToStackPointer_28 : decode b_Q_addToStackPointer 28 = .ok (.sipush 255, 3) := by decide +kernel
theorem d_Q_addToStackPointer_31 : decode b_Q_addToStackPointer 31 = .ok (.iand, 1) := by decide +kernel
theorem d_Q_addToStackPointer_32 : decode b_Q_addToStackPointer 32 = .ok (.iload_n 2, 1) := by decide +kernel
theorem d_Q_addToStackPointer_33 : decode b_Q_addToStackPointer 33 = .ok (.iadd, 1) := by decide +kernel
theorem d_Q_addToStackPointer_34 : decode b_Q_addToStackPointer 34 = .ok (.sipush 255, 3) := by decide +kernel
theorem d_Q_addToStackPointer_37 : decode b_Q_addToStackPointer 37 = .ok (.if_icmp .le 8, 3) := by decide +kernel
theorem d_Q_addToStackPointer_40 : decode b_Q_addToStackPointer 40 = .ok (.bipush 16, 2) := by decide +kernel
theorem d_Q_addToStackPointer_42 : decode b_Q_addToStackPointer 42 = .ok (.goto 4, 3) := by decide +kernel
theorem d_Q_addToStackPointer_45 : decode b_Q_addToStackPointer 45 = .ok (.iconst 0, 1) := by decide +kernel
theorem d_Q_addToStackPointer_46 : decode b_Q_addToStackPointer 46 = .ok (.istore 4, 2) := by decide +kernel
theorem d_Q_addToStackPointer_48 : decode b_Q_addToStackPointer 48 = .ok (.aload_n 0, 1) := by decide +kernel
theorem d_Q_addToStackPointer_49 : decode b_Q_addToStackPointer 49 = .ok (.getfield 7, 3) := by decide +kernel
theorem d_Q_addToStackPointer_52 : decode b_Q_addToStackPointer 52 = .ok (.bipush 6, 2) := by decide +kernel
theorem d_Q_addToStackPointer_54 : decode b_Q_addToStackPointer 54 = .ok (.iload_n 3, 1) := by decide +kernel
theorem d_Q_addToStackPointer_55 : decode b_Q_addToStackPointer 55 = .ok (.iload 4, 2) := by decide +kernel
theorem d_Q_addToStackPointer_57 : decode b_Q_addToStackPointer 57 = .ok (.ior, 1) := by decide +kernel
theorem d_Q_addToStackPointer_58 : decode b_Q_addToStackPointer 58 = .ok (.iastore, 1) := by decide +kernel
theorem d_Q_addToStackPointer_59 : decode b_Q_addToStackPointer 59 = .ok (.aload_n 0, 1) := by decide +kernel
theorem d_Q_addToStackPointer_60 : decode b_Q_addToStackPointer 60 = .ok (.iload_n 1, 1) := by decide +kernel
theorem d_Q_addToStackPointer_61 : decode b_Q_addToStackPointer 61 = .ok (.aload_n 0, 1) := by decide +kernel
theorem d_Q_addToStackPointer_62 : decode b_Q_addToStackPointer 62 = .ok (.getfield 26, 3) := by decide +kernel
theorem d_Q_addToStackPointer_65 : decode b_Q_addToStackPointer 65 = .ok (.iload_n 2, 1) := by decide +kernel
theorem d_Q_addToStackPointer_66 : decode b_Q_addToStackPointer 66 = .ok (.i2b, 1) := by decide +kernel
theorem d_Q_addToStackPointer_67 : decode b_Q_addToStackPointer 67 = .ok (.iadd, 1) := by decide +kernel
theorem d_Q_addToStackPointer_68 : decode b_Q_addToStackPointer 68 = .ok (.invokevirtual 21, 3) := by decide +kernel
theorem d_Q_addToStackPointer_71 : decode b_Q_addToStackPointer 71 = .ok (.aload_n 0, 1) := by decide +kernel
theorem d_Q_addToStackPointer_72 : decode b_Q_addToStackPointer 72 = .ok (.dup, 1) := by decide +kernel
theorem d_Q_addToStackPointer_73 : decode b_Q_addToStackPointer 73 = .ok (.getfield 65, 3) := by decide +kernel
theorem d_Q_addToStackPointer_76 : decode b_Q_addToStackPointer 76 = .ok (.iload_n 1, 1) := by decide +kernel
theorem d_Q_addToStackPointer_77 : decode b_Q_addToStackPointer 77 = .ok (.iconst 3, 1) := by decide +kernel
theorem d_Q_addToStackPointer_78 : decode b_Q_addToStackPointer 78 = .ok (.if_icmp .ne 7, 3) := by decide +kernel
theorem d_Q_addToStackPointer_81 : decode b_Q_addToStackPointer 81 = .ok (.iconst 2, 1) := by decide +kernel
theorem d_Q_addToStackPointer_82 : decode b_Q_addToStackPointer 82 = .ok (.goto 4, 3) := by decide +kernel
theorem d_Q_addToStackPointer_85 : decode b_Q_addToStackPointer 85 = .ok (.iconst 1, 1) := by decide +kernel
theorem d_Q_addToStackPointer_86 : decode b_Q_addToStackPointer 86 = .ok (.iadd, 1) := by decide +kernel
theorem d_Q_addToStackPointer_87 : decode b_Q_addToStackPointer 87 = .ok (.putfield 65, 3) := by decide +kernel
theorem d_Q_addToStackPointer_90 : decode b_Q_addToStackPointer 90 = .ok (.return_, 1) := by decide +kernel
theorem d_Q_setStackPair_0 : decode b_Q_setStackPair 0 = .ok (.iload_n 1, 1) := by decide +kernel
theorem d_Q_setStackPair_1 : decode b_Q_setStackPair 1 = .ok (.iconst 3, 1) := by decide +kernel
theorem d_Q_setStackPair_2 : decode b_Q_setStackPair 2 = .ok (.if_icmp .ne 29, 3) := by decide +kernel
theorem d_Q_setStackPair_5 : decode b_Q_setStackPair 5 = .ok (.aload_n 0, 1) := by decide +kernel
theorem d_Q_setStackPair_6 : decode b_Q_setStackPair 6 = .ok (.getfield 7, 3) := by decide +kernel
theorem d_Q_setStackPair_9 : decode b_Q_setStackPair 9 = .ok (.bipush 7, 2) := by decide +kernel
theorem d_Q_setStackPair_11 : decode b_Q_setStackPair 11 = .ok (.iload_n 2, 1) := by decide +kernel
theorem d_Q_setStackPair_12 : decode b_Q_setStackPair 12 = .ok (.bipush 8, 2) := by decide +kernel
theorem d_Q_setStackPair_14 : decode b_Q_setStackPair 14 = .ok (.ishr, 1) := by decide +kernel
theorem d_Q_setStackPair_15 : decode b_Q_setStackPair 15 = .ok (.iastore, 1) := by decide +kernel
theorem d_Q_setStackPair_16 : decode b_Q_setStackPair 16 = .ok (.aload_n 0, 1) := by decide +kernel
theorem d_Q_setStackPair_17 : decode b_Q_setStackPair 17 = .ok (.getfield 7, 3) := by decide +kernel
theorem d_Q_setStackPair_20 : decode b_Q_setStackPair 20 = .ok (.bipush 6, 2) := by decide +kernel
theorem d_Q_setStackPair_22 : decode b_Q_setStackPair 22 = .ok (.iload_n 2, 1) := by decide +kernel
theorem d_Q_setStackPair_23 : decode b_Q_setStackPair 23 = .ok (.sipush 240, 3) := by decide +kernel
theorem d_Q_setStackPair_26 : decode b_Q_setStackPair 26 = .ok (.iand, 1) := by decide +kernel
theorem d_Q_setStackPair_27 : decode b_Q_setStackPair 27 = .ok (.iastore, 1) := by decide +kernel
theorem d_Q_setStackPair_28 : decode b_Q_setStackPair 28 = .ok (.goto 9, 3) := by decide +kernel
theorem d_Q_setStackPair_31 : decode b_Q_setStackPair 31 = .ok (.aload_n 0, 1) := by decide +kernel
theorem d_Q_setStackPair_32 : decode b_Q_setStackPair 32 = .ok (.iload_n 1, 1) := by decide +kernel
theorem d_Q_setStackPair_33 : decode b_Q_setStackPair 33 = .ok (.iload_n 2, 1) := by decide +kernel
theorem d_Q_setStackPair_34 : decode b_Q_setStackPair 34 = .ok (.invokevirtual 21, 3) := by decide +kernel
theorem d_Q_setStackPair_37 : decode b_Q_setStackPair 37 = .ok (.return_, 1) := by decide +kernel
theorem d_Q_switchInterrupts_0 : decode b_Q_switchInterrupts 0 = .ok (.aload_n 0, 1) := by decide +kernel
theorem d_Q_switchInterrupts_1 : decode b_Q_switchInterrupts 1 = .ok (.iload_n 1, 1) := by decide +kernel
theorem d_Q_switchInterrupts_2 : decode b_Q_switchInterrupts 2 = .ok (.ifCond .eq 14, 3) := by decide +kernel
theorem d_Q_switchInterrupts_5 : decode b_Q_switchInterrupts 5 = .ok (.aload_n 0, 1) := by decide +kernel
theorem d_Q_switchInterrupts_6 : decode b_Q_switchInterrupts 6 = .ok (.getfield 33, 3) := by decide +kernel
theorem d_Q_switchInterrupts_9 : decode b_Q_switchInterrupts 9 = .ok (.ifCond .ne 7, 3) := by decide +kernel
theorem d_Q_switchInterrupts_12 : decode b_Q_switchInterrupts 12 = .ok (.iconst 1, 1) := by decide +kernel
theorem d_Q_switchInterrupts_13 : decode b_Q_switchInterrupts 13 = .ok (.goto 4, 3) := by decide +kernel
theorem d_Q_switchInterrupts_16 : decode b_Q_switchInterrupts 16 = .ok (.iconst 0, 1) := by decide +kernel
theorem d_Q_switchInterrupts_17 : decode b_Q_switchInterrupts 17 = .ok (.putfield 43, 3) := by decide +kernel
theorem d_Q_switchInterrupts_20 : decode b_Q_switchInterrupts 20 = .ok (.aload_n 0, 1) := by decide +kernel
theorem d_Q_switchInterrupts_21 : decode b_Q_switchInterrupts 21 = .ok (.aload_n 0, 1) := by decide +kernel
theorem d_Q_switchInterrupts_22 : decode b_Q_switchInterrupts 22 = .ok (.getfield 33, 3) := by decide +kernel
theorem d_Q_switchInterrupts_25 : decode b_Q_switchInterrupts 25 = .ok (.ifCond .eq 11, 3) := by decide +kernel
theorem d_Q_switchInterrupts_28 : decode b_Q_switchInterrupts 28 = .ok (.iload_n 1, 1) := by decide +kernel
theorem d_Q_switchInterrupts_29 : decode b_Q_switchInterrupts 29 = .ok (.ifCond .eq 7, 3) := by decide +kernel
theorem d_Q_switchInterrupts_32 : decode b_Q_switchInterrupts 32 = .ok (.iconst 1, 1) := by decide +kernel
theorem d_Q_switchInterrupts_33 : decode b_Q_switchInterrupts 33 = .ok (.goto 4, 3) := by decide +kernel
theorem d_Q_switchInterrupts_36 : decode b_Q_switchInterrupts 36 = .ok (.iconst 0, 1) := by decide +kernel
theorem d_Q_switchInterrupts_37 : decode b_Q_switchInterrupts 37 = .ok (.putfield 33, 3) := by decide +kernel
theorem d_Q_switchInterrupts_40 : decode b_Q_switchInterrupts 40 = .ok (.return_, 1) := by decide +kernel
theorem d_Q_doHigh_0 : decode b_Q_doHigh 0 = .ok (.iload_n 1, 1) := by decide +kernel
theorem d_Q_doHigh_1 : decode b_Q_doHigh 1 = .ok (.iconst 1, 1) := by decide +kernel
theorem d_Q_doHigh_2 : decode b_Q_doHigh 2 = .ok (.iand, 1) := by decide +kernel
theorem d_Q_doHigh_3 : decode b_Q_doHigh 3 = .ok (.ifCond .eq 7, 3) := by decide +kernel
theorem d_Q_doHigh_6 : decode b_Q_doHigh 6 = .ok (.iconst 1, 1) := by decide +kernel
theorem d_Q_doHigh_7 : decode b_Q_doHigh 7 = .ok (.goto 4, 3) := by decide +kernel
theorem d_Q_doHigh_10 : decode b_Q_doHigh 10 = .ok (.iconst 0, 1) := by decide +kernel
theorem d_Q_doHigh_11 : decode b_Q_doHigh 11 = .ok (.istore_n 3, 1) := by decide +kernel
theorem d_Q_doHigh_12 : decode b_Q_doHigh 12 = .ok (.iload_n 2, 1) := by decide +kernel
theorem d_Q_doHigh_13 : decode b_Q_doHigh 13 = .ok (.tableswitch 248 0 2 #[27, 94, 189], 27) := by decide +kernel
theorem d_Q_doHigh_40 : decode b_Q_doHigh 40 = .ok (.iload_n 1, 1) := by decide +kernel
theorem d_Q_doHigh_41 : decode b_Q_doHigh 41 = .ok (.iconst 4, 1) := by decide +kernel
theorem d_Q_doHigh_42 : decode b_Q_doHigh 42 = .ok (.if_icmp .ge 15, 3) := by decide +kernel
theorem d_Q_doHigh_45 : decode b_Q_doHigh 45 = .ok (.aload_n 0, 1) := by decide +kernel
theorem d_Q_doHigh_46 : decode b_Q_doHigh 46 = .ok (.aload_n 0, 1) := by decide +kernel
theorem d_Q_doHigh_47 : decode b_Q_doHigh 47 = .ok (.iload_n 1, 1) := by decide +kernel
theorem d_Q_doHigh_48 : decode b_Q_doHigh 48 = .ok (.invokevirtual 121, 3) := by decide +kernel
theorem d_Q_doHigh_51 : decode b_Q_doHigh 51 = .ok (.invokevirtual 157, 3) := by decide +kernel
theorem d_Q_doHigh_54 : decode b_Q_doHigh 54 = .ok (.goto 252, 3) := by decide +kernel
theorem d_Q_doHigh_57 : decode b_Q_doHigh 57 = .ok (.iload_n 3, 1) := by decide +kernel
theorem d_Q_doHigh_58 : decode b_Q_doHigh 58 = .ok (.ifCond .eq 24, 3) := by decide +kernel
theorem d_Q_doHigh_61 : decode b_Q_doHigh 61 = .ok (.aload_n 0, 1) := by decide +kernel
theorem d_Q_doHigh_62 : decode b_Q_doHigh 62 = .ok (.iload_n 1, 1) := by decide +kernel
theorem d_Q_doHigh_63 : decode b_Q_doHigh 63 = .ok (.iconst 5, 1) := by decide +kernel
theorem d_Q_doHigh_64 : decode b_Q_doHigh 64 = .ok (.if_icmp .ne 7, 3) := by decide +kernel
theorem d_Q_doHigh_67 : decode b_Q_doHigh 67 = .ok (.iconst 3, 1) := by decide +kernel
theorem d_Q_doHigh_68 : decode b_Q_doHigh 68 = .ok (.goto 4, 3) := by decide +kernel
theorem d_Q_doHigh_71 : decode b_Q_doHigh 71 = .ok (.iconst 2, 1) := by decide +kernel
theorem d_Q_doHigh_72 : decode b_Q_doHigh 72 = .ok (.aload_n 0, 1) := by decide +kernel
theorem d_Q_doHigh_73 : decode b_Q_doHigh 73 = .ok (.invokevirtual 75, 3) := by decide +kernel
theorem d_Q_doHigh_76 : decode b_Q_doHigh 76 = .ok (.invokevirtual 161, 3) := by decide +kernel
theorem d_Q_doHigh_79 : decode b_Q_doHigh 79 = .ok (.goto 227, 3) := by decide +kernel
theorem d_Q_doHigh_82 : decode b_Q_doHigh 82 = .ok (.aload_n 0, 1) := by decide +kernel
theorem d_Q_doHigh_83 : decode b_Q_doHigh 83 = .ok (.ldc 164, 2) := by decide +kernel
theorem d_Q_doHigh_85 : decode b_Q_doHigh 85 = .ok (.aload_n 0, 1) := by decide +kernel
theorem d_Q_doHigh_86 : decode b_Q_doHigh 86 = .ok (.invokevirtual 75, 3) := by decide +kernel
theorem d_Q_doHigh_89 : decode b_Q_doHigh 89 = .ok (.ior, 1) := by decide +kernel
theorem d_Q_doHigh_90 : decode b_Q_doHigh 90 = .ok (.iload_n 1, 1) := by decide +kernel
theorem d_Q_doHigh_91 : decode b_Q_doHigh 91 = .ok (.bipush 6, 2) := by decide +kernel
theorem d_Q_doHigh_93 : decode b_Q_doHigh 93 = .ok (.if_icmp .ne 7, 3) := by decide +kernel
theorem d_Q_doHigh_96 : decode b_Q_doHigh 96 = .ok (.iconst 1, 1) := by decide +kernel
theorem d_Q_doHigh_97 : decode b_Q_doHigh 97 = .ok (.goto 4, 3) := by decide +kernel
theorem d_Q_doHigh_100 : decode b_Q_doHigh 100 = .ok (.iconst 0, 1) := by decide +kernel
theorem d_Q_doHigh_101 : decode b_Q_doHigh 101 = .ok (.invokevirtual 141, 3) := by decide +kernel
theorem d_Q_doHigh_104 : decode b_Q_doHigh 104 = .ok (.goto 202, 3) := by decide +kernel
theorem d_Q_doHigh_107 : decode b_Q_doHigh 107 = .ok (.iload_n 3, 1) := by decide +kernel
theorem d_Q_doHigh_108 : decode b_Q_doHigh 108 = .ok (.ifCond .ne 17, 3) := by decide +kernel
theorem d_Q_doHigh_111 : decode b_Q_doHigh 111 = .ok (.aload_n 0, 1) := by decide +kernel
theorem d_Q_doHigh_112 : decode b_Q_doHigh 112 = .ok (.iload_n 1, 1) := by decide +kernel
theorem d_Q_doHigh_113 : decode b_Q_doHigh 113 = .ok (.iconst 1, 1) := by decide +kernel
theorem d_Q_doHigh_114 : decode b_Q_doHigh 114 = .ok (.ishr, 1) := by decide +kernel
theorem d_Q_doHigh_115 : decode b_Q_doHigh 115 = .ok (.aload_n 0, 1) := by decide +kernel
theorem d_Q_doHigh_116 : decode b_Q_doHigh 116 = .ok (.invokevirtual 165, 3) := by decide +kernel
theorem d_Q_doHigh_119 : decode b_Q_doHigh 119 = .ok (.invokevirtual 168, 3) := by decide +kernel
theorem d_Q_doHigh_122 : decode b_Q_doHigh 122 = .ok (.goto 184, 3) := by decide +kernel
theorem d_Q_doHigh_125 : decode b_Q_doHigh 125 = .ok (.iload_n 1, 1) := by decide +kernel
theorem d_Q_doHigh_126 : decode b_Q_doHigh 126 = .ok (.iconst 4, 1) := by decide +kernel
theorem d_Q_doHigh_127 : decode b_Q_doHigh 127 = .ok (.if_icmp .ge 36, 3) := by decide +kernel
theorem d_Q_doHigh_130 : decode b_Q_doHigh 130 = .ok (.aload_n 0, 1) := by decide +kernel
theorem d_Q_doHigh_131 : decode b_Q_doHigh 131 = .ok (.iconst 1, 1) := by decide +kernel
theorem d_Q_doHigh_132 : decode b_Q_doHigh 132 = .ok (.aload_n 0, 1) := by decide +kernel
theorem d_Q_doHigh_133 : decode b_Q_doHigh 133 = .ok (.invokevirtual 165, 3) := by decide +kernel
theorem d_Q_doHigh_136 : decode b_Q_doHigh 136 = .ok (.invokevirtual 125, 3) := by decide +kernel
theorem d_Q_doHigh_139 : decode b_Q_doHigh 139 = .ok (.aload_n 0, 1) := by decide +kernel
theorem d_Q_doHigh_140 : decode b_Q_doHigh 140 = .ok (.aload_n 0, 1) := by decide +kernel
theorem d_Q_doHigh_141 : decode b_Q_doHigh 141 = .ok (.getfield 33, 3) := by decide +kernel
theorem d_Q_doHigh_144 : decode b_Q_doHigh 144 = .ok (.ifCond .ne 8, 3) := by decide +kernel
theorem d_Q_doHigh_147 : decode b_Q_doHigh 147 = .ok (.iload_n 1, 1) := by decide +kernel
theorem d_Q_doHigh_148 : decode b_Q_doHigh 148 = .ok (.iconst 3, 1) := by decide +kernel
theorem d_Q_doHigh_149 : decode b_Q_doHigh 149 = .ok (.if_icmp .ne 7, 3) := by decide +kernel
theorem d_Q_doHigh_152 : decode b_Q_doHigh 152 = .ok (.iconst 1, 1) := by decide +kernel
theorem d_Q_doHigh_153 : decode b_Q_doHigh 153 = .ok (.goto 4, 3) := by decide +kernel
theorem d_Q_doHigh_156 : decode b_Q_doHigh 156 = .ok (.iconst 0, 1) := by decide +kernel
theorem d_Q_doHigh_157 : decode b_Q_doHigh 157 = .ok (.putfield 33, 3) := by decide +kernel
theorem d_Q_doHigh_160 : decode b_Q_doHigh 160 = .ok (.goto 146, 3) := by decide +kernel
theorem d_Q_doHigh_163 : decode b_Q_doHigh 163 = .ok (.iload_n 1, 1) := by decide +kernel
theorem d_Q_doHigh_164 : decode b_Q_doHigh 164 = .ok (.iconst 5, 1) := by decide +kernel
theorem d_Q_doHigh_165 : decode b_Q_doHigh 165 = .ok (.if_icmp .ne 15, 3) := by decide +kernel
theorem d_Q_doHigh_168 : decode b_Q_doHigh 168 = .ok (.aload_n 0, 1) := by decide +kernel
theorem d_Q_doHigh_169 : decode b_Q_doHigh 169 = .ok (.aload_n 0, 1) := by decide +kernel
theorem d_Q_doHigh_170 : decode b_Q_doHigh 170 = .ok (.iconst 2, 1) := by decide +kernel
theorem d_Q_doHigh_171 : decode b_Q_doHigh 171 = .ok (.invokevirtual 129, 3) := by decide +kernel
theorem d_Q_doHigh_174 : decode b_Q_doHigh 174 = .ok (.putfield 30, 3) := by decide +kernel
theorem d_Q_doHigh_177 : decode b_Q_doHigh 177 = .ok (.goto 129, 3) := by decide +kernel
theorem d_Q_doHigh_180 : decode b_Q_doHigh 180 = .ok (.aload_n 0, 1) := by decide +kernel
theorem d_Q_doHigh_181 : decode b_Q_doHigh 181 = .ok (.aload_n 0, 1) := by decide +kernel
theorem d_Q_doHigh_182 : decode b_Q_doHigh 182 = .ok (.iconst 2, 1) := by decide +kernel
theorem d_Q_doHigh_183 : decode b_Q_doHigh 183 = .ok (.invokevirtual 129, 3) := by decide +kernel
theorem d_Q_doHigh_186 : decode b_Q_doHigh 186 = .ok (.putfield 26, 3) := by decide +kernel
theorem d_Q_doHigh_189 : decode b_Q_doHigh 189 = .ok (.aload_n 0, 1) := by decide +kernel
theorem d_Q_doHigh_190 : decode b_Q_doHigh 190 = .ok (.dup, 1) := by decide +kernel
theorem d_Q_doHigh_191 : decode b_Q_doHigh 191 = .ok (.getfield 65, 3) := by decide +kernel
theorem d_Q_doHigh_194 : decode b_Q_doHigh 194 = .ok (.iconst 1, 1) := by decide +kernel
theorem d_Q_doHigh_195 : decode b_Q_doHigh 195 = .ok (.iadd, 1) := by decide +kernel
theorem d_Q_doHigh_196 : decode b_Q_doHigh 196 = .ok (.putfield 65, 3) := by decide +kernel
theorem d_Q_doHigh_199 : decode b_Q_doHigh 199 = .ok (.goto 107, 3) := by decide +kernel
theorem d_Q_doHigh_202 : decode b_Q_doHigh 202 = .ok (.iload_n 1, 1) := by decide +kernel
theorem d_Q_doHigh_203 : decode b_Q_doHigh 203 = .ok (.iconst 4, 1) := by decide +kernel
theorem d_Q_doHigh_204 : decode b_Q_doHigh 204 = .ok (.if_icmp .ge 19, 3) := by decide +kernel
theorem d_Q_doHigh_207 : decode b_Q_doHigh 207 = .ok (.aload_n 0, 1) := by decide +kernel
theorem d_Q_doHigh_208 : decode b_Q_doHigh 208 = .ok (.aload_n 0, 1) := by decide +kernel
theorem d_Q_doHigh_209 : decode b_Q_doHigh 209 = .ok (.iload_n 1, 1) := by decide +kernel
theorem d_Q_doHigh_210 : decode b_Q_doHigh 210 = .ok (.invokevirtual 121, 3) := by decide +kernel
theorem d_Q_doHigh_213 : decode b_Q_doHigh 213 = .ok (.aload_n 0, 1) := by decide +kernel
theorem d_Q_doHigh_214 : decode b_Q_doHigh 214 = .ok (.invokevirtual 112, 3) := by decide +kernel
theorem d_Q_doHigh_217 : decode b_Q_doHigh 217 = .ok (.invokevirtual 125, 3) := by decide +kernel
theorem d_Q_doHigh_220 : decode b_Q_doHigh 220 = .ok (.goto 86, 3) := by decide +kernel
theorem d_Q_doHigh_223 : decode b_Q_doHigh 223 = .ok (.aload_n 0, 1) := by decide +kernel
theorem d_Q_doHigh_224 : decode b_Q_doHigh 224 = .ok (.iload_n 3, 1) := by decide +kernel
theorem d_Q_doHigh_225 : decode b_Q_doHigh 225 = .ok (.ifCond .eq 10, 3) := by decide +kernel
theorem d_Q_doHigh_228 : decode b_Q_doHigh 228 = .ok (.aload_n 0, 1) := by decide +kernel
theorem d_Q_doHigh_229 : decode b_Q_doHigh 229 = .ok (.invokevirtual 112, 3) := by decide +kernel
theorem d_Q_doHigh_232 : decode b_Q_doHigh 232 = .ok (.goto 12, 3) := by decide +kernel
theorem d_Q_doHigh_235 : decode b_Q_doHigh 235 = .ok (.ldc 164, 2) := by decide +kernel
theorem d_Q_doHigh_237 : decode b_Q_doHigh 237 = .ok (.aload_n 0, 1) := by decide +kernel
theorem d_Q_doHigh_238 : decode b_Q_doHigh 238 = .ok (.getfield 7, 3) := by decide +kernel
theorem d_Q_doHigh_241 : decode b_Q_doHigh 241 = .ok (.iconst 1, 1) := by decide +kernel
theorem d_Q_doHigh_242 : decode b_Q_doHigh 242 = .ok (.iaload, 1) := by decide +kernel
theorem d_Q_doHigh_243 : decode b_Q_doHigh 243 = .ok (.ior, 1) := by decide +kernel
theorem d_Q_doHigh_244 : decode b_Q_doHigh 244 = .ok (.iload_n 1, 1) := by decide +kernel
theorem d_Q_doHigh_245 : decode b_Q_doHigh 245 = .ok (.bipush 6, 2) := by decide +kernel
theorem d_Q_doHigh_247 : decode b_Q_doHigh 247 = .ok (.if_icmp .lt 7, 3) := by decide +kernel
theorem d_Q_doHigh_250 : decode b_Q_doHigh 250 = .ok (.iconst 1, 1) := by decide +kernel
theorem d_Q_doHigh_251 : decode b_Q_doHigh 251 = .ok (.goto 4, 3) := by decide +kernel
theorem d_Q_doHigh_254 : decode b_Q_doHigh 254 = .ok (.iconst 0, 1) := by decide +kernel
theorem d_Q_doHigh_255 : decode b_Q_doHigh 255 = .ok (.invokevirtual 141, 3) := by decide +kernel
theorem d_Q_doHigh_258 : decode b_Q_doHigh 258 = .ok (.goto 48, 3) := by decide +kernel
theorem d_Q_doHigh_261 : decode b_Q_doHigh 261 = .ok (.iload_n 1, 1) := by decide +kernel
theorem d_Q_doHigh_262 : decode b_Q_doHigh 262 = .ok (.ifCond .ne 15, 3) := by decide +kernel
theorem d_Q_doHigh_265 : decode b_Q_doHigh 265 = .ok (.aload_n 0, 1) := by decide +kernel
theorem d_Q_doHigh_266 : decode b_Q_doHigh 266 = .ok (.iconst 1, 1) := by decide +kernel
theorem d_Q_doHigh_267 : decode b_Q_doHigh 267 = .ok (.aload_n 0, 1) := by decide +kernel
theorem d_Q_doHigh_268 : decode b_Q_doHigh 268 = .ok (.invokevirtual 112, 3) := by decide +kernel
theorem d_Q_doHigh_271 : decode b_Q_doHigh 271 = .ok (.invokevirtual 125, 3) := by decide +kernel
theorem d_Q_doHigh_274 : decode b_Q_doHigh 274 = .ok (.goto 32, 3) := by decide +kernel
theorem d_Q_doHigh_277 : decode b_Q_doHigh 277 = .ok (.iload_n 1, 1) := by decide +kernel
theorem d_Q_doHigh_278 : decode b_Q_doHigh 278 = .ok (.bipush 6, 2) := by decide +kernel
theorem d_Q_doHigh_280 : decode b_Q_doHigh 280 = .ok (.if_icmp .lt 21, 3) := by decide +kernel
theorem d_Q_doHigh_283 : decode b_Q_doHigh 283 = .ok (.aload_n 0, 1) := by decide +kernel
theorem d_Q_doHigh_284 : decode b_Q_doHigh 284 = .ok (.iload_n 1, 1) := by decide +kernel
theorem d_Q_doHigh_285 : decode b_Q_doHigh 285 = .ok (.bipush 7, 2) := by decide +kernel
theorem d_Q_doHigh_287 : decode b_Q_doHigh 287 = .ok (.if_icmp .ne 7, 3) := by decide +kernel
theorem d_Q_doHigh_290 : decode b_Q_doHigh 290 = .ok (.iconst 1, 1) := by decide +kernel
theorem d_Q_doHigh_291 : decode b_Q_doHigh 291 = .ok (.goto 4, 3) := by decide +kernel
theorem d_Q_doHigh_294 : decode b_Q_doHigh 294 = .ok (.iconst 0, 1) := by decide +kernel
theorem d_Q_doHigh_295 : decode b_Q_doHigh 295 = .ok (.invokevirtual 171, 3) := by decide +kernel
theorem d_Q_doHigh_298 : decode b_Q_doHigh 298 = .ok (.goto 8, 3) := by decide +kernel
theorem d_Q_doHigh_301 : decode b_Q_doHigh 301 = .ok (.aload_n 0, 1) := by decide +kernel
theorem d_Q_doHigh_302 : decode b_Q_doHigh 302 = .ok (.iconst 1, 1) := by decide +kernel
theorem d_Q_doHigh_303 : decode b_Q_doHigh 303 = .ok (.putfield 40, 3) := by decide +kernel
theorem d_Q_doHigh_306 : decode b_Q_doHigh 306 = .ok (.return_, 1) := by decide +kernel
theorem d_Q_stackPair_0 : decode b_Q_stackPair 0 = .ok (.iload_n 1, 1) := by decide +kernel
theorem d_Q_stackPair_1 : decode b_Q_stackPair 1 = .ok (.iconst 3, 1) := by decide +kernel
theorem d_Q_stackPair_2 : decode b_Q_stackPair 2 = .ok (.if_icmp .ne 24, 3) := by decide +kernel
theorem d_Q_stackPair_5 : decode b_Q_stackPair 5 = .ok (.aload_n 0, 1) := by decide +kernel
theorem d_Q_stackPair_6 : decode b_Q_stackPair 6 = .ok (.getfield 7, 3) := by decide +kernel
theorem d_Q_stackPair_9 : decode b_Q_stackPair 9 = .ok (.bipush 7, 2) := by decide +kernel
theorem d_Q_stackPair_11 : decode b_Q_stackPair 11 = .ok (.iaload, 1) := by decide +kernel
theorem d_Q_stackPair_12 : decode b_Q_stackPair 12 = .ok (.bipush 8, 2) := by decide +kernel
theorem d_Q_stackPair_14 : decode b_Q_stackPair 14 = .ok (.ishl, 1) := by decide +kernel
theorem d_Q_stackPair_15 : decode b_Q_stackPair 15 = .ok (.aload_n 0, 1) := by decide +kernel
theorem d_Q_stackPair_16 : decode b_Q_stackPair 16 = .ok (.getfield 7, 3) := by decide +kernel
theorem d_Q_stackPair_19 : decode b_Q_stackPair 19 = .ok (.bipush 6, 2) := by decide +kernel
theorem d_Q_stackPair_21 : decode b_Q_stackPair 21 = .ok (.iaload, 1) := by decide +kernel
theorem d_Q_stackPair_22 : decode b_Q_stackPair 22 = .ok (.ior, 1) := by decide +kernel
theorem d_Q_stackPair_23 : decode b_Q_stackPair 23 = .ok (.goto 8, 3) := by decide +kernel
theorem d_Q_stackPair_26 : decode b_Q_stackPair 26 = .ok (.aload_n 0, 1) := by decide +kernel
theorem d_Q_stackPair_27 : decode b_Q_stackPair 27 = .ok (.iload_n 1, 1) := by decide +kernel
theorem d_Q_stackPair_28 : decode b_Q_stackPair 28 = .ok (.invokevirtual 129, 3) := by decide +kernel
theorem d_Q_stackPair_31 : decode b_Q_stackPair 31 = .ok (.ireturn, 1) := by decide +kernel
theorem d_Q_doHighest_0 : decode b_Q_doHighest 0 = .ok (.iload_n 2, 1) := by decide +kernel
theorem d_Q_doHighest_1 : decode b_Q_doHighest 1 = .ok (.bipush 6, 2) := by decide +kernel
theorem d_Q_doHighest_3 : decode b_Q_doHighest 3 = .ok (.if_icmp .ne 15, 3) := by decide +kernel
theorem d_Q_doHighest_6 : decode b_Q_doHighest 6 = .ok (.aload_n 0, 1) := by decide +kernel
theorem d_Q_doHighest_7 : decode b_Q_doHighest 7 = .ok (.iload_n 1, 1) := by decide +kernel
theorem d_Q_doHighest_8 : decode b_Q_doHighest 8 = .ok (.aload_n 0, 1) := by decide +kernel
theorem d_Q_doHighest_9 : decode b_Q_doHighest 9 = .ok (.invokevirtual 75, 3) := by decide +kernel
theorem d_Q_doHighest_12 : decode b_Q_doHighest 12 = .ok (.invokevirtual 88, 3) := by decide +kernel
theorem d_Q_doHighest_15 : decode b_Q_doHighest 15 = .ok (.goto 112, 3) := by decide +kernel
theorem d_Q_doHighest_18 : decode b_Q_doHighest 18 = .ok (.iload_n 2, 1) := by decide +kernel
theorem d_Q_doHighest_19 : decode b_Q_doHighest 19 = .ok (.bipush 7, 2) := by decide +kernel
theorem d_Q_doHighest_21 : decode b_Q_doHighest 21 = .ok (.if_icmp .ne 22, 3) := by decide +kernel
theorem d_Q_doHighest_24 : decode b_Q_doHighest 24 = .ok (.aload_n 0, 1) := by decide +kernel
theorem d_Q_doHighest_25 : decode b_Q_doHighest 25 = .ok (.aload_n 0, 1) := by decide +kernel
theorem d_Q_doHighest_26 : decode b_Q_doHighest 26 = .ok (.getfield 30, 3) := by decide +kernel
theorem d_Q_doHighest_29 : decode b_Q_doHighest 29 = .ok (.invokevirtual 109, 3) := by decide +kernel
theorem d_Q_doHighest_32 : decode b_Q_doHighest 32 = .ok (.aload_n 0, 1) := by decide +kernel
theorem d_Q_doHighest_33 : decode b_Q_doHighest 33 = .ok (.bipush 8, 2) := by decide +kernel
theorem d_Q_doHighest_35 : decode b_Q_doHighest 35 = .ok (.iload_n 1, 1) := by decide +kernel
theorem d_Q_doHighest_36 : decode b_Q_doHighest 36 = .ok (.imul, 1) := by decide +kernel
theorem d_Q_doHighest_37 : decode b_Q_doHighest 37 = .ok (.putfield 30, 3) := by decide +kernel
theorem d_Q_doHighest_40 : decode b_Q_doHighest 40 = .ok (.goto 87, 3) := by decide +kernel
theorem d_Q_doHighest_43 : decode b_Q_doHighest 43 = .ok (.iload_n 2, 1) := by decide +kernel
theorem d_Q_doHighest_44 : decode b_Q_doHighest 44 = .ok (.iconst 5, 1) := by decide +kernel
theorem d_Q_doHighest_45 : decode b_Q_doHighest 45 = .ok (.if_icmp .ne 23, 3) := by decide +kernel
theorem d_Q_doHighest_48 : decode b_Q_doHighest 48 = .ok (.iload_n 1, 1) := by decide +kernel
theorem d_Q_doHighest_49 : decode b_Q_doHighest 49 = .ok (.iconst 1, 1) := by decide +kernel
theorem d_Q_doHighest_50 : decode b_Q_doHighest 50 = .ok (.iand, 1) := by decide +kernel
theorem d_Q_doHighest_51 : decode b_Q_doHighest 51 = .ok (.ifCond .ne 17, 3) := by decide +kernel
theorem d_Q_doHighest_54 : decode b_Q_doHighest 54 = .ok (.aload_n 0, 1) := by decide +kernel
theorem d_Q_doHighest_55 : decode b_Q_doHighest 55 = .ok (.aload_n 0, 1) := by decide +kernel
theorem d_Q_doHighest_56 : decode b_Q_doHighest 56 = .ok (.iload_n 1, 1) := by decide +kernel
theorem d_Q_doHighest_57 : decode b_Q_doHighest 57 = .ok (.iconst 1, 1) := by decide +kernel
theorem d_Q_doHighest_58 : decode b_Q_doHighest 58 = .ok (.ishr, 1) := by decide +kernel
theorem d_Q_doHighest_59 : decode b_Q_doHighest 59 = .ok (.invokevirtual 174, 3) := by decide +kernel
theorem d_Q_doHighest_62 : decode b_Q_doHighest 62 = .ok (.invokevirtual 109, 3) := by decide +kernel
theorem d_Q_doHighest_65 : decode b_Q_doHighest 65 = .ok (.goto 62, 3) := by decide +kernel
theorem d_Q_doHighest_68 : decode b_Q_doHighest 68 = .ok (.iload_n 2, 1) := by decide +kernel
theorem d_Q_doHighest_69 : decode b_Q_doHighest 69 = .ok (.iconst 4, 1) := by decide +kernel
theorem d_Q_doHighest_70 : decode b_Q_doHighest 70 = .ok (.if_icmp .ne 8, 3) := by decide +kernel
theorem d_Q_doHighest_73 : decode b_Q_doHighest 73 = .ok (.iload_n 1, 1) := by decide +kernel
theorem d_Q_doHighest_74 : decode b_Q_doHighest 74 = .ok (.iconst 4, 1) := by decide +kernel
theorem d_Q_doHighest_75 : decode b_Q_doHighest 75 = .ok (.if_icmp .lt 13, 3) := by decide +kernel
theorem d_Q_doHighest_78 : decode b_Q_doHighest 78 = .ok (.iload_n 2, 1) := by decide +kernel
theorem d_Q_doHighest_79 : decode b_Q_doHighest 79 = .ok (.iconst 5, 1) := by decide +kernel
theorem d_Q_doHighest_80 : decode b_Q_doHighest 80 = .ok (.if_icmp .ne 42, 3) := by decide +kernel
theorem d_Q_doHighest_83 : decode b_Q_doHighest 83 = .ok (.iload_n 1, 1) := by decide +kernel
theorem d_Q_doHighest_84 : decode b_Q_doHighest 84 = .ok (.iconst 1, 1) := by decide +kernel
theorem d_Q_doHighest_85 : decode b_Q_doHighest 85 = .ok (.if_icmp .ne 37, 3) := by decide +kernel
theorem d_Q_doHighest_88 : decode b_Q_doHighest 88 = .ok (.aload_n 0, 1) := by decide +kernel
theorem d_Q_doHighest_89 : decode b_Q_doHighest 89 = .ok (.invokevirtual 112, 3) := by decide +kernel
theorem d_Q_doHighest_92 : decode b_Q_doHighest 92 = .ok (.istore_n 3, 1) := by decide +kernel
theorem d_Q_doHighest_93 : decode b_Q_doHighest 93 = .ok (.iload_n 2, 1) := by decide +kernel
theorem d_Q_doHighest_94 : decode b_Q_doHighest 94 = .ok (.iconst 5, 1) := by decide +kernel
theorem d_Q_doHighest_95 : decode b_Q_doHighest 95 = .ok (.if_icmp .eq 11, 3) := by decide +kernel
theorem d_Q_doHighest_98 : decode b_Q_doHighest 98 = .ok (.aload_n 0, 1) := by decide +kernel
theorem d_Q_doHighest_99 : decode b_Q_doHighest 99 = .ok (.iload_n 1, 1) := by decide +kernel
theorem d_Q_doHighest_100 : decode b_Q_doHighest 100 = .ok (.invokevirtual 121, 3) := by decide +kernel
theorem d_Q_doHighest_103 : decode b_Q_doHighest 103 = .ok (.ifCond .eq 16, 3) := by decide +kernel
theorem d_Q_doHighest_106 : decode b_Q_doHighest 106 = .ok (.aload_n 0, 1) := by decide +kernel
theorem d_Q_doHighest_107 : decode b_Q_doHighest 107 = .ok (.aload_n 0, 1) := by decide +kernel
theorem d_Q_doHighest_108 : decode b_Q_doHighest 108 = .ok (.getfield 30, 3) := by decide +kernel
theorem d_Q_doHighest_111 : decode b_Q_doHighest 111 = .ok (.invokevirtual 109, 3) := by decide +kernel
theorem d_Q_doHighest_114 : decode b_Q_doHighest 114 = .ok (.aload_n 0, 1) := by decide +kernel
theorem d_Q_doHighest_115 : decode b_Q_doHighest 115 = .ok (.iload_n 3, 1) := by decide +kernel
theorem d_Q_doHighest_116 : decode b_Q_doHighest 116 = .ok (.putfield 30, 3) := by decide +kernel
theorem d_Q_doHighest_119 : decode b_Q_doHighest 119 = .ok (.goto 8, 3) := by decide +kernel
theorem d_Q_doHighest_122 : decode b_Q_doHighest 122 = .ok (.aload_n 0, 1) := by decide +kernel
theorem d_Q_doHighest_123 : decode b_Q_doHighest 123 = .ok (.iconst 1, 1) := by decide +kernel
theorem d_Q_doHighest_124 : decode b_Q_doHighest 124 = .ok (.putfield 40, 3) := by decide +kernel
theorem d_Q_doHighest_127 : decode b_Q_doHighest 127 = .ok (.return_, 1) := by decide +kernel
theorem d_Q_finish_0 : decode b_Q_finish 0 = .ok (.aload_n 0, 1) := by decide +kernel
theorem d_Q_finish_1 : decode b_Q_finish 1 = .ok (.getfield 40, 3) := by decide +kernel
theorem d_Q_finish_4 : decode b_Q_finish 4 = .ok (.ifCond .eq 4, 3) := by decide +kernel
theorem d_Q_finish_7 : decode b_Q_finish 7 = .ok (.return_, 1) := by decide +kernel
theorem d_Q_finish_8 : decode b_Q_finish 8 = .ok (.aload_n 0, 1) := by decide +kernel
theorem d_Q_finish_9 : decode b_Q_finish 9 = .ok (.dup, 1) := by decide +kernel
theorem d_Q_finish_10 : decode b_Q_finish 10 = .ok (.getfield 49, 3) := by decide +kernel
theorem d_Q_finish_13 : decode b_Q_finish 13 = .ok (.iconst 1, 1) := by decide +kernel
theorem d_Q_finish_14 : decode b_Q_finish 14 = .ok (.iadd, 1) := by decide +kernel
theorem d_Q_finish_15 : decode b_Q_finish 15 = .ok (.putfield 49, 3) := by decide +kernel
theorem d_Q_finish_18 : decode b_Q_finish 18 = .ok (.aload_n 0, 1) := by decide +kernel
theorem d_Q_finish_19 : decode b_Q_finish 19 = .ok (.dup, 1) := by decide +kernel
theorem d_Q_finish_20 : decode b_Q_finish 20 = .ok (.getfield 46, 3) := by decide +kernel
theorem d_Q_finish_23 : decode b_Q_finish 23 = .ok (.aload_n 0, 1) := by decide +kernel
theorem d_Q_finish_24 : decode b_Q_finish 24 = .ok (.getfield 65, 3) := by decide +kernel
theorem d_Q_finish_27 : decode b_Q_finish 27 = .ok (.iadd, 1) := by decide +kernel
theorem d_Q_finish_28 : decode b_Q_finish 28 = .ok (.putfield 46, 3) := by decide +kernel
theorem d_Q_finish_31 : decode b_Q_finish 31 = .ok (.aload_n 0, 1) := by decide +kernel
theorem d_Q_finish_32 : decode b_Q_finish 32 = .ok (.getfield 17, 3) := by decide +kernel
theorem d_Q_finish_35 : decode b_Q_finish 35 = .ok (.aload_n 0, 1) := by decide +kernel
theorem d_Q_finish_36 : decode b_Q_finish 36 = .ok (.getfield 65, 3) := by decide +kernel
theorem d_Q_finish_39 : decode b_Q_finish 39 = .ok (.invokevirtual 103, 3) := by decide +kernel
theorem d_Q_finish_42 : decode b_Q_finish 42 = .ok (.return_, 1) := by decide +kernel
theorem d_Q_step_0 : decode b_Q_step 0 = .ok (.aload_n 0, 1) := by decide +kernel
theorem d_Q_step_1 : decode b_Q_step 1 = .ok (.getfield 17, 3) := by decide +kernel
theorem d_Q_step_4 : decode b_Q_step 4 = .ok (.invokevirtual 59, 3) := by decide +kernel
theorem d_Q_step_7 : decode b_Q_step 7 = .ok (.istore_n 1, 1) := by decide +kernel
theorem d_Q_step_8 : decode b_Q_step 8 = .ok (.aload_n 0, 1) := by decide +kernel
theorem d_Q_step_9 : decode b_Q_step 9 = .ok (.iconst 0, 1) := by decide +kernel
theorem d_Q_step_10 : decode b_Q_step 10 = .ok (.putfield 65, 3) := by decide +kernel
theorem d_Q_step_13 : decode b_Q_step 13 = .ok (.iload_n 1, 1) := by decide +kernel
theorem d_Q_step_14 : decode b_Q_step 14 = .ok (.ifCond .eq 8, 3) := by decide +kernel
theorem d_Q_step_17 : decode b_Q_step 17 = .ok (.aload_n 0, 1) := by decide +kernel
theorem d_Q_step_18 : decode b_Q_step 18 = .ok (.iconst 0, 1) := by decide +kernel
theorem d_Q_step_19 : decode b_Q_step 19 = .ok (.putfield 37, 3) := by decide +kernel
theorem d_Q_step_22 : decode b_Q_step 22 = .ok (.iload_n 1, 1) := by decide +kernel
theorem d_Q_step_23 : decode b_Q_step 23 = .ok (.ifCond .eq 18, 3) := by decide +kernel
theorem d_Q_step_26 : decode b_Q_step 26 = .ok (.aload_n 0, 1) := by decide +kernel
theorem d_Q_step_27 : decode b_Q_step 27 = .ok (.getfield 33, 3) := by decide +kernel
theorem d_Q_step_30 : decode b_Q_step 30 = .ok (.ifCond .eq 11, 3) := by decide +kernel
theorem d_Q_step_33 : decode b_Q_step 33 = .ok (.aload_n 0, 1) := by decide +kernel
theorem d_Q_step_34 : decode b_Q_step 34 = .ok (.iload_n 1, 1) := by decide +kernel
theorem d_Q_step_35 : decode b_Q_step 35 = .ok (.invokevirtual 68, 3) := by decide +kernel
theorem d_Q_step_38 : decode b_Q_step 38 = .ok (.goto 161, 3) := by decide +kernel
theorem d_Q_step_41 : decode b_Q_step 41 = .ok (.aload_n 0, 1) := by decide +kernel
theorem d_Q_step_42 : decode b_Q_step 42 = .ok (.getfield 37, 3) := by decide +kernel
theorem d_Q_step_45 : decode b_Q_step 45 = .ok (.ifCond .eq 8, 3) := by decide +kernel
theorem d_Q_step_48 : decode b_Q_step 48 = .ok (.aload_n 0, 1) := by decide +kernel
theorem d_Q_step_49 : decode b_Q_step 49 = .ok (.invokevirtual 72, 3) := by decide +kernel
theorem d_Q_step_52 : decode b_Q_step 52 = .ok (.return_, 1) := by decide +kernel
theorem d_Q_step_53 : decode b_Q_step 53 = .ok (.aload_n 0, 1) := by decide +kernel
theorem d_Q_step_54 : decode b_Q_step 54 = .ok (.aload_n 0, 1) := by decide +kernel
theorem d_Q_step_55 : decode b_Q_step 55 = .ok (.getfield 33, 3) := by decide +kernel
theorem d_Q_step_58 : decode b_Q_step 58 = .ok (.ifCond .ne 10, 3) := by decide +kernel
theorem d_Q_step_61 : decode b_Q_step 61 = .ok (.aload_n 0, 1) := by decide +kernel
theorem d_Q_step_62 : decode b_Q_step 62 = .ok (.getfield 43, 3) := by decide +kernel
theorem d_Q_step_65 : decode b_Q_step 65 = .ok (.ifCond .eq 7, 3) := by decide +kernel
theorem d_Q_step_68 : decode b_Q_step 68 = .ok (.iconst 1, 1) := by decide +kernel
theorem d_Q_step_69 : decode b_Q_step 69 = .ok (.goto 4, 3) := by decide +kernel
theorem d_Q_step_72 : decode b_Q_step 72 = .ok (.iconst 0, 1) := by decide +kernel
theorem d_Q_step_73 : decode b_Q_step 73 = .ok (.putfield 33, 3) := by decide +kernel
theorem d_Q_step_76 : decode b_Q_step 76 = .ok (.aload_n 0, 1) := by decide +kernel
theorem d_Q_step_77 : decode b_Q_step 77 = .ok (.iconst 0, 1) := by decide +kernel
theorem d_Q_step_78 : decode b_Q_step 78 = .ok (.putfield 43, 3) := by decide +kernel
theorem d_Q_step_81 : decode b_Q_step 81 = .ok (.aload_n 0, 1) := by decide +kernel
theorem d_Q_step_82 : decode b_Q_step 82 = .ok (.invokevirtual 75, 3) := by decide +kernel
theorem d_Q_step_85 : decode b_Q_step 85 = .ok (.istore_n 2, 1) := by decide +kernel
theorem d_Q_step_86 : decode b_Q_step 86 = .ok (.iload_n 2, 1) := by decide +kernel
theorem d_Q_step_87 : decode b_Q_step 87 = .ok (.iconst 3, 1) := by decide +kernel
theorem d_Q_step_88 : decode b_Q_step 88 = .ok (.ishr, 1) := by decide +kernel
theorem d_Q_step_89 : decode b_Q_step 89 = .ok (.bipush 7, 2) := by decide +kernel
theorem d_Q_step_91 : decode b_Q_step 91 = .ok (.iand, 1) := by decide +kernel
theorem d_Q_step_92 : decode b_Q_step 92 = .ok (.istore_n 3, 1) := by decide +kernel
theorem d_Q_step_93 : decode b_Q_step 93 = .ok (.iload_n 2, 1) := by decide +kernel
theorem d_Q_step_94 : decode b_Q_step 94 = .ok (.bipush 7, 2) := by decide +kernel
theorem d_Q_step_96 : decode b_Q_step 96 = .ok (.iand, 1) := by decide +kernel
theorem d_Q_step_97 : decode b_Q_step 97 = .ok (.istore 4, 2) := by decide +kernel
theorem d_Q_step_99 : decode b_Q_step 99 = .ok (.iload_n 2, 1) := by decide +kernel
theorem d_Q_step_100 : decode b_Q_step 100 = .ok (.bipush 6, 2) := by decide +kernel
theorem d_Q_step_102 : decode b_Q_step 102 = .ok (.ishr, 1) := by decide +kernel
theorem d_Q_step_103 : decode b_Q_step 103 = .ok (.tableswitch 59 0 2 #[25, 35, 45], 25) := by decide +kernel
theorem d_Q_step_128 : decode b_Q_step 128 = .ok (.aload_n 0, 1) := by decide +kernel
theorem d_Q_step_129 : decode b_Q_step 129 = .ok (.iload_n 3, 1) := by decide +kernel
theorem d_Q_step_130 : decode b_Q_step 130 = .ok (.iload 4, 2) := by decide +kernel
theorem d_Q_step_132 : decode b_Q_step 132 = .ok (.invokevirtual 78, 3) := by decide +kernel
theorem d_Q_step_135 : decode b_Q_step 135 = .ok (.goto 64, 3) := by decide +kernel
theorem d_Q_step_138 : decode b_Q_step 138 = .ok (.aload_n 0, 1) := by decide +kernel
theorem d_Q_step_139 : decode b_Q_step 139 = .ok (.iload_n 3, 1) := by decide +kernel
theorem d_Q_step_140 : decode b_Q_step 140 = .ok (.iload 4, 2) := by decide +kernel
theorem d_Q_step_142 : decode b_Q_step 142 = .ok (.invokevirtual 81, 3) := by decide +kernel
theorem d_Q_step_145 : decode b_Q_step 145 = .ok (.goto 54, 3) := by decide +kernel
theorem d_Q_step_148 : decode b_Q_step 148 = .ok (.aload_n 0, 1) := by decide +kernel
theorem d_Q_step_149 : decode b_Q_step 149 = .ok (.iload_n 3, 1) := by decide +kernel
theorem d_Q_step_150 : decode b_Q_step 150 = .ok (.aload_n 0, 1) := by decide +kernel
theorem d_Q_step_151 : decode b_Q_step 151 = .ok (.iload 4, 2) := by decide +kernel
theorem d_Q_step_153 : decode b_Q_step 153 = .ok (.invokevirtual 84, 3) := by decide +kernel
theorem d_Q_step_156 : decode b_Q_step 156 = .ok (.invokevirtual 88, 3) := by decide +kernel
theorem d_Q_step_159 : decode b_Q_step 159 = .ok (.goto 40, 3) := by decide +kernel
theorem d_Q_step_162 : decode b_Q_step 162 = .ok (.iload_n 2, 1) := by decide +kernel
theorem d_Q_step_163 : decode b_Q_step 163 = .ok (.sipush 203, 3) := by decide +kernel
theorem d_Q_step_166 : decode b_Q_step 166 = .ok (.if_icmp .ne 10, 3) := by decide +kernel
theorem d_Q_step_169 : decode b_Q_step 169 = .ok (.aload_n 0, 1) := by decide +kernel
theorem d_Q_step_170 : decode b_Q_step 170 = .ok (.invokevirtual 91, 3) := by decide +kernel
theorem d_Q_step_173 : decode b_Q_step 173 = .ok (.goto 26, 3) := by decide +kernel
theorem d_Q_step_176 : decode b_Q_step 176 = .ok (.iload 4, 2) := by decide +kernel
theorem d_Q_step_178 : decode b_Q_step 178 = .ok (.iconst 4, 1) := by decide +kernel
theorem d_Q_step_179 : decode b_Q_step 179 = .ok (.if_icmp .ge 13, 3) := by decide +kernel
theorem d_Q_step_182 : decode b_Q_step 182 = .ok (.aload_n 0, 1) := by decide +kernel
theorem d_Q_step_183 : decode b_Q_step 183 = .ok (.iload_n 3, 1) := by decide +kernel
theorem d_Q_step_184 : decode b_Q_step 184 = .ok (.iload 4, 2) := by decide +kernel
theorem d_Q_step_186 : decode b_Q_step 186 = .ok (.invokevirtual 94, 3) := by decide +kernel
theorem d_Q_step_189 : decode b_Q_step 189 = .ok (.goto 10, 3) := by decide +kernel
theorem d_Q_step_192 : decode b_Q_step 192 = .ok (.aload_n 0, 1) := by decide +kernel
theorem d_Q_step_193 : decode b_Q_step 193 = .ok (.iload_n 3, 1) := by decide +kernel
theorem d_Q_step_194 : decode b_Q_step 194 = .ok (.iload 4, 2) := by decide +kernel
theorem d_Q_step_196 : decode b_Q_step 196 = .ok (.invokevirtual 97, 3) := by decide +kernel
theorem d_Q_step_199 : decode b_Q_step 199 = .ok (.aload_n 0, 1) := by decide +kernel
theorem d_Q_step_200 : decode b_Q_step 200 = .ok (.invokevirtual 100, 3) := by decide +kernel
theorem d_Q_step_203 : decode b_Q_step 203 = .ok (.return_, 1) := by decide +kernel
theorem d_Q_valueOf_0 : decode b_Q_valueOf 0 = .ok (.iload_n 1, 1) := by decide +kernel
theorem d_Q_valueOf_1 : decode b_Q_valueOf 1 = .ok (.bipush 8, 2) := by decide +kernel
theorem d_Q_valueOf_3 : decode b_Q_valueOf 3 = .ok (.if_icmp .ge 17, 3) := by decide +kernel
theorem d_Q_valueOf_6 : decode b_Q_valueOf 6 = .ok (.aload_n 0, 1) := by decide +kernel
theorem d_Q_valueOf_7 : decode b_Q_valueOf 7 = .ok (.getfield 7, 3) := by decide +kernel
theorem d_Q_valueOf_10 : decode b_Q_valueOf 10 = .ok (.getstatic 55, 3) := by decide +kernel
theorem d_Q_valueOf_13 : decode b_Q_valueOf 13 = .ok (.iload_n 1, 1) := by decide +kernel
theorem d_Q_valueOf_14 : decode b_Q_valueOf 14 = .ok (.bipush 7, 2) := by decide +kernel
theorem d_Q_valueOf_16 : decode b_Q_valueOf 16 = .ok (.iand, 1) := by decide +kernel
theorem d_Q_valueOf_17 : decode b_Q_valueOf 17 = .ok (.iaload, 1) := by decide +kernel
theorem d_Q_valueOf_18 : decode b_Q_valueOf 18 = .ok (.iaload, 1) := by decide +kernel
theorem d_Q_valueOf_19 : decode b_Q_valueOf 19 = .ok (.ireturn, 1) := by decide +kernel
theorem d_Q_valueOf_20 : decode b_Q_valueOf 20 = .ok (.iload_n 1, 1) := by decide +kernel
theorem d_Q_valueOf_21 : decode b_Q_valueOf 21 = .ok (.bipush 8, 2) := by decide +kernel
theorem d_Q_valueOf_23 : decode b_Q_valueOf 23 = .ok (.if_icmp .ne 10, 3) := by decide +kernel
theorem d_Q_valueOf_26 : decode b_Q_valueOf 26 = .ok (.aload_n 0, 1) := by decide +kernel
theorem d_Q_valueOf_27 : decode b_Q_valueOf 27 = .ok (.getfield 26, 3) := by decide +kernel
theorem d_Q_valueOf_30 : decode b_Q_valueOf 30 = .ok (.goto 7, 3) := by decide +kernel
theorem d_Q_valueOf_33 : decode b_Q_valueOf 33 = .ok (.aload_n 0, 1) := by decide +kernel
theorem d_Q_valueOf_34 : decode b_Q_valueOf 34 = .ok (.getfield 30, 3) := by decide +kernel
theorem d_Q_valueOf_37 : decode b_Q_valueOf 37 = .ok (.ireturn, 1) := by decide +kernel
theorem d_Q_put_0 : decode b_Q_put 0 = .ok (.iload_n 1, 1) := by decide +kernel
theorem d_Q_put_1 : decode b_Q_put 1 = .ok (.iconst 1, 1) := by decide +kernel
theorem d_Q_put_2 : decode b_Q_put 2 = .ok (.if_icmp .ne 18, 3) := by decide +kernel
theorem d_Q_put_5 : decode b_Q_put 5 = .ok (.aload_n 0, 1) := by decide +kernel
theorem d_Q_put_6 : decode b_Q_put 6 = .ok (.getfield 7, 3) := by decide +kernel
theorem d_Q_put_9 : decode b_Q_put 9 = .ok (.bipush 6, 2) := by decide +kernel
theorem d_Q_put_11 : decode b_Q_put 11 = .ok (.iload_n 2, 1) := by decide +kernel
theorem d_Q_put_12 : decode b_Q_put 12 = .ok (.sipush 240, 3) := by decide +kernel
theorem d_Q_put_15 : decode b_Q_put 15 = .ok (.iand, 1) := by decide +kernel
theorem d_Q_put_16 : decode b_Q_put 16 = .ok (.iastore, 1) := by decide +kernel
theorem d_Q_put_17 : decode b_Q_put 17 = .ok (.goto 55, 3) := by decide +kernel
theorem d_Q_put_20 : decode b_Q_put 20 = .ok (.iload_n 1, 1) := by decide +kernel
theorem d_Q_put_21 : decode b_Q_put 21 = .ok (.bipush 8, 2) := by decide +kernel
theorem d_Q_put_23 : decode b_Q_put 23 = .ok (.if_icmp .ge 24, 3) := by decide +kernel
theorem d_Q_put_26 : decode b_Q_put 26 = .ok (.aload_n 0, 1) := by decide +kernel
theorem d_Q_put_27 : decode b_Q_put 27 = .ok (.getfield 7, 3) := by decide +kernel
theorem d_Q_put_30 : decode b_Q_put 30 = .ok (.getstatic 55, 3) := by decide +kernel
theorem d_Q_put_33 : decode b_Q_put 33 = .ok (.iload_n 1, 1) := by decide +kernel
theorem d_Q_put_34 : decode b_Q_put 34 = .ok (.bipush 7, 2) := by decide +kernel
theorem d_Q_put_36 : decode b_Q_put 36 = .ok (.iand, 1) := by decide +kernel
theorem d_Q_put_37 : decode b_Q_put 37 = .ok (.iaload, 1) := by decide +kernel
theorem d_Q_put_38 : decode b_Q_put 38 = .ok (.iload_n 2, 1) := by decide +kernel
theorem d_Q_put_39 : decode b_Q_put 39 = .ok (.sipush 255, 3) := by decide +kernel
theorem d_Q_put_42 : decode b_Q_put 42 = .ok (.iand, 1) := by decide +kernel
theorem d_Q_put_43 : decode b_Q_put 43 = .ok (.iastore, 1) := by decide +kernel
theorem d_Q_put_44 : decode b_Q_put 44 = .ok (.goto 28, 3) := by decide +kernel
theorem d_Q_put_47 : decode b_Q_put 47 = .ok (.iload_n 1, 1) := by decide +kernel
theorem d_Q_put_48 : decode b_Q_put 48 = .ok (.bipush 8, 2) := by decide +kernel
theorem d_Q_put_50 : decode b_Q_put 50 = .ok (.if_icmp .ne 14, 3) := by decide +kernel
theorem d_Q_put_53 : decode b_Q_put 53 = .ok (.aload_n 0, 1) := by decide +kernel
theorem d_Q_put_54 : decode b_Q_put 54 = .ok (.iload_n 2, 1) := by decide +kernel
theorem d_Q_put_55 : decode b_Q_put 55 = .ok (.ldc 58, 2) := by decide +kernel
theorem d_Q_put_57 : decode b_Q_put 57 = .ok (.iand, 1) := by decide +kernel
theorem d_Q_put_58 : decode b_Q_put 58 = .ok (.putfield 26, 3) := by decide +kernel
theorem d_Q_put_61 : decode b_Q_put 61 = .ok (.goto 11, 3) := by decide +kernel
theorem d_Q_put_64 : decode b_Q_put 64 = .ok (.aload_n 0, 1) := by decide +kernel
theorem d_Q_put_65 : decode b_Q_put 65 = .ok (.iload_n 2, 1) := by decide +kernel
theorem d_Q_put_66 : decode b_Q_put 66 = .ok (.ldc 58, 2) := by decide +kernel
theorem d_Q_put_68 : decode b_Q_put 68 = .ok (.iand, 1) := by decide +kernel
theorem d_Q_put_69 : decode b_Q_put 69 = .ok (.putfield 30, 3) := by decide +kernel
theorem d_Q_put_72 : decode b_Q_put 72 = .ok (.return_, 1) := by decide +kernel
theorem d_P_press_0 : decode b_P_press 0 = .ok (.aload_n 0, 1) := by decide +kernel
theorem d_P_press_1 : decode b_P_press 1 = .ok (.getfield 39, 3) := by decide +kernel
theorem d_P_press_4 : decode b_P_press 4 = .ok (.istore_n 2, 1) := by decide +kernel
theorem d_P_press_5 : decode b_P_press 5 = .ok (.aload_n 0, 1) := by decide +kernel
theorem d_P_press_6 : decode b_P_press 6 = .ok (.iload_n 1, 1) := by decide +kernel
theorem d_P_press_7 : decode b_P_press 7 = .ok (.putfield 39, 3) := by decide +kernel
theorem d_P_press_10 : decode b_P_press 10 = .ok (.iload_n 1, 1) := by decide +kernel
theorem d_P_press_11 : decode b_P_press 11 = .ok (.iload_n 2, 1) := by decide +kernel
theorem d_P_press_12 : decode b_P_press 12 = .ok (.iconst (-1), 1) := by decide +kernel
theorem d_P_press_13 : decode b_P_press 13 = .ok (.ixor, 1) := by decide +kernel
theorem d_P_press_14 : decode b_P_press 14 = .ok (.iand, 1) := by decide +kernel
theorem d_P_press_15 : decode b_P_press 15 = .ok (.ifCond .eq 15, 3) := by decide +kernel
theorem d_P_press_18 : decode b_P_press 18 = .ok (.aload_n 0, 1) := by decide +kernel
theorem d_P_press_19 : decode b_P_press 19 = .ok (.getfield 7, 3) := by decide +kernel
theorem d_P_press_22 : decode b_P_press 22 = .ok (.bipush 15, 2) := by decide +kernel
theorem d_P_press_24 : decode b_P_press 24 = .ok (.dup2, 1) := by decide +kernel
theorem d_P_press_25 : decode b_P_press 25 = .ok (.iaload, 1) := by decide +kernel
theorem d_P_press_26 : decode b_P_press 26 = .ok (.bipush 16, 2) := by decide +kernel
theorem d_P_press_28 : decode b_P_press 28 = .ok (.ior, 1) := by decide +kernel
theorem d_P_press_29 : decode b_P_press 29 = .ok (.iastore, 1) := by decide +kernel
theorem d_P_press_30 : decode b_P_press 30 = .ok (.iload_n 2, 1) := by decide +kernel
theorem d_P_press_31 : decode b_P_press 31 = .ok (.ireturn, 1) := by decide +kernel
theorem d_S_has_0 : decode b_S_has 0 = .ok (.aload_n 0, 1) := by decide +kernel
theorem d_S_has_1 : decode b_S_has 1 = .ok (.getfield 28, 3) := by decide +kernel
theorem d_S_has_4 : decode b_S_has 4 = .ok (.bipush 64, 2) := by decide +kernel
theorem d_S_has_6 : decode b_S_has 6 = .ok (.iaload, 1) := by decide +kernel
theorem d_S_has_7 : decode b_S_has 7 = .ok (.iload_n 1, 1) := by decide +kernel
theorem d_S_has_8 : decode b_S_has 8 = .ok (.iand, 1) := by decide +kernel
theorem d_S_has_9 : decode b_S_has 9 = .ok (.ifCond .eq 7, 3) := by decide +kernel
theorem d_S_has_12 : decode b_S_has 12 = .ok (.iconst 1, 1) := by decide +kernel
theorem d_S_has_13 : decode b_S_has 13 = .ok (.goto 4, 3) := by decide +kernel
theorem d_S_has_16 : decode b_S_has 16 = .ok (.iconst 0, 1) := by decide +kernel
theorem d_S_has_17 : decode b_S_has 17 = .ok (.ireturn, 1) := by decide +kernel
theorem d_S_numberAt_0 : decode b_S_numberAt 0 = .ok (.aload_n 0, 1) := by decide +kernel
theorem d_S_numberAt_1 : decode b_S_numberAt 1 = .ok (.getfield 22, 3) := by decide +kernel
theorem d_S_numberAt_4 : decode b_S_numberAt 4 = .ok (.iload_n 1, 1) := by decide +kernel
theorem d_S_numberAt_5 : decode b_S_numberAt 5 = .ok (.sipush 8191, 3) := by decide +kernel
theorem d_S_numberAt_8 : decode b_S_numberAt 8 = .ok (.iand, 1) := by decide +kernel
theorem d_S_numberAt_9 : decode b_S_numberAt 9 = .ok (.iaload, 1) := by decide +kernel
theorem d_S_numberAt_10 : decode b_S_numberAt 10 = .ok (.iload_n 2, 1) := by decide +kernel
theorem d_S_numberAt_11 : decode b_S_numberAt 11 = .ok (.ishr, 1) := by decide +kernel
theorem d_S_numberAt_12 : decode b_S_numberAt 12 = .ok (.iconst 1, 1) := by decide +kernel
theorem d_S_numberAt_13 : decode b_S_numberAt 13 = .ok (.iand, 1) := by decide +kernel
theorem d_S_numberAt_14 : decode b_S_numberAt 14 = .ok (.istore_n 3, 1) := by decide +kernel
theorem d_S_numberAt_15 : decode b_S_numberAt 15 = .ok (.aload_n 0, 1) := by decide +kernel
theorem d_S_numberAt_16 : decode b_S_numberAt 16 = .ok (.getfield 22, 3) := by decide +kernel
theorem d_S_numberAt_19 : decode b_S_numberAt 19 = .ok (.iload_n 1, 1) := by decide +kernel
theorem d_S_numberAt_20 : decode b_S_numberAt 20 = .ok (.iconst 1, 1) := by decide +kernel
theorem d_S_numberAt_21 : decode b_S_numberAt 21 = .ok (.iadd, 1) := by decide +kernel
theorem d_S_numberAt_22 : decode b_S_numberAt 22 = .ok (.sipush 8191, 3) := by decide +kernel
theorem d_S_numberAt_25 : decode b_S_numberAt 25 = .ok (.iand, 1) := by decide +kernel
theorem d_S_numberAt_26 : decode b_S_numberAt 26 = .ok (.iaload, 1) := by decide +kernel
theorem d_S_numberAt_27 : decode b_S_numberAt 27 = .ok (.iload_n 2, 1) := by decide +kernel
theorem d_S_numberAt_28 : decode b_S_numberAt 28 = .ok (.ishr, 1) := by decide +kernel
theorem d_S_numberAt_29 : decode b_S_numberAt 29 = .ok (.iconst 1, 1) := by decide +kernel
theorem d_S_numberAt_30 : decode b_S_numberAt 30 = .ok (.iand, 1) := by decide +kernel
theorem d_S_numberAt_31 : decode b_S_numberAt 31 = .ok (.istore 4, 2) := by decide +kernel
theorem d_S_numberAt_33 : decode b_S_numberAt 33 = .ok (.iload_n 3, 1) := by decide +kernel
theorem d_S_numberAt_34 : decode b_S_numberAt 34 = .ok (.iconst 2, 1) := by decide +kernel
theorem d_S_numberAt_35 : decode b_S_numberAt 35 = .ok (.iload 4, 2) := by decide +kernel
theorem d_S_numberAt_37 : decode b_S_numberAt 37 = .ok (.imul, 1) := by decide +kernel
theorem d_S_numberAt_38 : decode b_S_numberAt 38 = .ok (.iadd, 1) := by decide +kernel
theorem d_S_numberAt_39 : decode b_S_numberAt 39 = .ok (.ireturn, 1) := by decide +kernel
theorem d_S_placeSprite_0 : decode b_S_placeSprite 0 = .ok (.aload_n 0, 1) := by decide +kernel
theorem d_S_placeSprite_1 : decode b_S_placeSprite 1 = .ok (.getfield 25, 3) := by decide +kernel
theorem d_S_placeSprite_4 : decode b_S_placeSprite 4 = .ok (.iload_n 1, 1) := by decide +kernel
theorem d_S_placeSprite_5 : decode b_S_placeSprite 5 = .ok (.iconst 1, 1) := by decide +kernel
theorem d_S_placeSprite_6 : decode b_S_placeSprite 6 = .ok (.iadd, 1) := by decide +kernel
theorem d_S_placeSprite_7 : decode b_S_placeSprite 7 = .ok (.iaload, 1) := by decide +kernel
theorem d_S_placeSprite_8 : decode b_S_placeSprite 8 = .ok (.istore 4, 2) := by decide +kernel
theorem d_S_placeSprite_10 : decode b_S_placeSprite 10 = .ok (.iload_n 3, 1) := by decide +kernel
theorem d_S_placeSprite_11 : decode b_S_placeSprite 11 = .ok (.bipush 16, 2) := by decide +kernel
theorem d_S_placeSprite_13 : decode b_S_placeSprite 13 = .ok (.if_icmp .ne 18, 3) := by decide +kernel
theorem d_S_placeSprite_16 : decode b_S_placeSprite 16 = .ok (.aload_n 0, 1) := by decide +kernel
theorem d_S_placeSprite_17 : decode b_S_placeSprite 17 = .ok (.getfield 25, 3) := by decide +kernel
theorem d_S_placeSprite_20 : decode b_S_placeSprite 20 = .ok (.iload_n 1, 1) := by decide +kernel
theorem d_S_placeSprite_21 : decode b_S_placeSprite 21 = .ok (.iconst 2, 1) := by decide +kernel
theorem d_S_placeSprite_22 : decode b_S_placeSprite 22 = .ok (.iadd, 1) := by decide +kernel
theorem d_S_placeSprite_23 : decode b_S_placeSprite 23 = .ok (.iaload, 1) := by decide +kernel
theorem d_S_placeSprite_24 : decode b_S_placeSprite 24 = .ok (.sipush 254, 3) := by decide +kernel
theorem d_S_placeSprite_27 : decode b_S_placeSprite 27 = .ok (.iand, 1) := by decide +kernel
theorem d_S_placeSprite_28 : decode b_S_placeSprite 28 = .ok (.goto 11, 3) := by decide +kernel
theorem d_S_placeSprite_31 : decode b_S_placeSprite 31 = .ok (.aload_n 0, 1) := by decide +kernel
theorem d_S_placeSprite_32 : decode b_S_placeSprite 32 = .ok (.getfield 25, 3) := by decide +kernel
theorem d_S_placeSprite_35 : decode b_S_placeSprite 35 = .ok (.iload_n 1, 1) := by decide +kernel
theorem d_S_placeSprite_36 : decode b_S_placeSprite 36 = .ok (.iconst 2, 1) := by decide +kernel
theorem d_S_placeSprite_37 : decode b_S_placeSprite 37 = .ok (.iadd, 1) := by decide +kernel
theorem d_S_placeSprite_38 : decode b_S_placeSprite 38 = .ok (.iaload, 1) := by decide +kernel
theorem d_S_placeSprite_39 : decode b_S_placeSprite 39 = .ok (.istore 5, 2) := by decide +kernel
theorem d_S_placeSprite_41 : decode b_S_placeSprite 41 = .ok (.aload_n 0, 1) := by decide +kernel
theorem d_S_placeSprite_42 : decode b_S_placeSprite 42 = .ok (.getfield 25, 3) := by decide +kernel
theorem d_S_placeSprite_45 : decode b_S_placeSprite 45 = .ok (.iload_n 1, 1) := by decide +kernel
theorem d_S_placeSprite_46 : decode b_S_placeSprite 46 = .ok (.iconst 3, 1) := by decide +kernel
theorem d_S_placeSprite_47 : decode b_S_placeSprite 47 = .ok (.iadd, 1) := by decide +kernel
theorem d_S_placeSprite_48 : decode b_S_placeSprite 48 = .ok (.iaload, 1) := by decide +kernel
theorem d_S_placeSprite_49 : decode b_S_placeSprite 49 = .ok (.istore 6, 2) := by decide +kernel
theorem d_S_placeSprite_51 : decode b_S_placeSprite 51 = .ok (.bipush 16, 2) := by decide +kernel
theorem d_S_placeSprite_53 : decode b_S_placeSprite 53 = .ok (.iload 5, 2) := by decide +kernel
theorem d_S_placeSprite_55 : decode b_S_placeSprite 55 = .ok (.imul, 1) := by decide +kernel
theorem d_S_placeSprite_56 : decode b_S_placeSprite 56 = .ok (.iconst 2, 1) := by decide +kernel
theorem d_S_placeSprite_57 : decode b_S_placeSprite 57 = .ok (.iload 6, 2) := by decide +kernel
theorem d_S_placeSprite_59 : decode b_S_placeSprite 59 = .ok (.bipush 64, 2) := by decide +kernel
theorem d_S_placeSprite_61 : decode b_S_placeSprite 61 = .ok (.iand, 1) := by decide +kernel
theorem d_S_placeSprite_62 : decode b_S_placeSprite 62 = .ok (.ifCond .eq 11, 3) := by decide +kernel
theorem d_S_placeSprite_65 : decode b_S_placeSprite 65 = .ok (.iload_n 3, 1) := by decide +kernel
theorem d_S_placeSprite_66 : decode b_S_placeSprite 66 = .ok (.iconst 1, 1) := by decide +kernel
theorem d_S_placeSprite_67 : decode b_S_placeSprite 67 = .ok (.isub, 1) := by decide +kernel
theorem d_S_placeSprite_68 : decode b_S_placeSprite 68 = .ok (.iload_n 2, 1) := by decide +kernel
theorem d_S_placeSprite_69 : decode b_S_placeSprite 69 = .ok (.isub, 1) := by decide +kernel
theorem d_S_placeSprite_70 : decode b_S_placeSprite 70 = .ok (.goto 4, 3) := by decide +kernel
theorem d_S_placeSprite_73 : decode b_S_placeSprite 73 = .ok (.iload_n 2, 1) := by decide +kernel
theorem d_S_placeSprite_74 : decode b_S_placeSprite 74 = .ok (.imul, 1) := by decide +kernel
theorem d_S_placeSprite_75 : decode b_S_placeSprite 75 = .ok (.iadd, 1) := by decide +kernel
theorem d_S_placeSprite_76 : decode b_S_placeSprite 76 = .ok (.istore 7, 2) := by decide +kernel
theorem d_S_placeSprite_78 : decode b_S_placeSprite 78 = .ok (.iconst 0, 1) := by decide +kernel
theorem d_S_placeSprite_79 : decode b_S_placeSprite 79 = .ok (.istore 8, 2) := by decide +kernel
theorem d_S_placeSprite_81 : decode b_S_placeSprite 81 = .ok (.iload 8, 2) := by decide +kernel
theorem d_S_placeSprite_83 : decode b_S_placeSprite 83 = .ok (.bipush 8, 2) := by decide +kernel
theorem d_S_placeSprite_85 : decode b_S_placeSprite 85 = .ok (.if_icmp .ge 112, 3) := by decide +kernel
theorem d_S_placeSprite_88 : decode b_S_placeSprite 88 = .ok (.iload 4, 2) := by decide +kernel
theorem d_S_placeSprite_90 : decode b_S_placeSprite 90 = .ok (.bipush 8, 2) := by decide +kernel
theorem d_S_placeSprite_92 : decode b_S_placeSprite 92 = .ok (.isub, 1) := by decide +kernel
theorem d_S_placeSprite_93 : decode b_S_placeSprite 93 = .ok (.iload 8, 2) := by decide +kernel
theorem d_S_placeSprite_95 : decode b_S_placeSprite 95 = .ok (.iadd, 1) := by decide +kernel
theorem d_S_placeSprite_96 : decode b_S_placeSprite 96 = .ok (.istore 9, 2) := by decide +kernel
theorem d_S_placeSprite_98 : decode b_S_placeSprite 98 = .ok (.aload_n 0, 1) := by decide +kernel
theorem d_S_placeSprite_99 : decode b_S_placeSprite 99 = .ok (.iload 7, 2) := by decide +kernel
theorem d_S_placeSprite_101 : decode b_S_placeSprite 101 = .ok (.iload 6, 2) := by decide +kernel
theorem d_S_placeSprite_103 : decode b_S_placeSprite 103 = .ok (.bipush 32, 2) := by decide +kernel
theorem d_S_placeSprite_105 : decode b_S_placeSprite 105 = .ok (.iand, 1) := by decide +kernel
theorem d_S_placeSprite_106 : decode b_S_placeSprite 106 = .ok (.ifCond .eq 8, 3) := by decide +kernel
theorem d_S_placeSprite_109 : decode b_S_placeSprite 109 = .ok (.iload 8, 2) := by decide +kernel
theorem d_S_placeSprite_111 : decode b_S_placeSprite 111 = .ok (.goto 8, 3) := by decide +kernel
theorem d_S_placeSprite_114 : decode b_S_placeSprite 114 = .ok (.bipush 7, 2) := by decide +kernel
theorem d_S_placeSprite_116 : decode b_S_placeSprite 116 = .ok (.iload 8, 2) := by decide +kernel
theorem d_S_placeSprite_118 : decode b_S_placeSprite 118 = .ok (.isub, 1) := by decide +kernel
theorem d_S_placeSprite_119 : decode b_S_placeSprite 119 = .ok (.invokevirtual 58, 3) := by decide +kernel
theorem d_S_placeSprite_122 : decode b_S_placeSprite 122 = .ok (.istore 10, 2) := by decide +kernel
theorem d_S_placeSprite_124 : decode b_S_placeSprite 124 = .ok (.iload 9, 2) := by decide +kernel
theorem d_S_placeSprite_126 : decode b_S_placeSprite 126 = .ok (.ifCond .lt 65, 3) := by decide +kernel
theorem d_S_placeSprite_129 : decode b_S_placeSprite 129 = .ok (.iload 9, 2) := by decide +kernel
theorem d_S_placeSprite_131 : decode b_S_placeSprite 131 = .ok (.sipush 160, 3) := by decide +kernel
theorem d_S_placeSprite_134 : decode b_S_placeSprite 134 = .ok (.if_icmp .ge 57, 3) := by decide +kernel
theorem d_S_placeSprite_137 : decode b_S_placeSprite 137 = .ok (.iload 10, 2) := by decide +kernel
theorem d_S_placeSprite_139 : decode b_S_placeSprite 139 = .ok (.ifCond .eq 52, 3) := by decide +kernel
theorem d_S_placeSprite_142 : decode b_S_placeSprite 142 = .ok (.aload_n 0, 1) := by decide +kernel
theorem d_S_placeSprite_143 : decode b_S_placeSprite 143 = .ok (.getfield 13, 3) := by decide +kernel
theorem d_S_placeSprite_146 : decode b_S_placeSprite 146 = .ok (.iload 9, 2) := by decide +kernel
theorem d_S_placeSprite_148 : decode b_S_placeSprite 148 = .ok (.iaload, 1) := by decide +kernel
theorem d_S_placeSprite_149 : decode b_S_placeSprite 149 = .ok (.ifCond .eq 15, 3) := by decide +kernel
theorem d_S_placeSprite_152 : decode b_S_placeSprite 152 = .ok (.iload 4, 2) := by decide +kernel
theorem d_S_placeSprite_154 : decode b_S_placeSprite 154 = .ok (.aload_n 0, 1) := by decide +kernel
theorem d_S_placeSprite_155 : decode b_S_placeSprite 155 = .ok (.getfield 16, 3) := by decide +kernel
theorem d_S_placeSprite_158 : decode b_S_placeSprite 158 = .ok (.iload 9, 2) := by decide +kernel
theorem d_S_placeSprite_160 : decode b_S_placeSprite 160 = .ok (.iaload, 1) := by decide +kernel
theorem d_S_placeSprite_161 : decode b_S_placeSprite 161 = .ok (.if_icmp .ge 30, 3) := by decide +kernel
theorem d_S_placeSprite_164 : decode b_S_placeSprite 164 = .ok (.aload_n 0, 1) := by decide +kernel
theorem d_S_placeSprite_165 : decode b_S_placeSprite 165 = .ok (.getfield 13, 3) := by decide +kernel
theorem d_S_placeSprite_168 : decode b_S_placeSprite 168 = .ok (.iload 9, 2) := by decide +kernel
theorem d_S_placeSprite_170 : decode b_S_placeSprite 170 = .ok (.iload 10, 2) := by decide +kernel
theorem d_S_placeSprite_172 : decode b_S_placeSprite 172 = .ok (.iastore, 1) := by decide +kernel
theorem d_S_placeSprite_173 : decode b_S_placeSprite 173 = .ok (.aload_n 0, 1) := by decide +kernel
theorem d_S_placeSprite_174 : decode b_S_placeSprite 174 = .ok (.getfield 16, 3) := by decide +kernel
theorem d_S_placeSprite_177 : decode b_S_placeSprite 177 = .ok (.iload 9, 2) := by decide +kernel
theorem d_S_placeSprite_179 : decode b_S_placeSprite 179 = .ok (.iload 4, 2) := by decide +kernel
theorem d_S_placeSprite_181 : decode b_S_placeSprite 181 = .ok (.iastore, 1) := by decide +kernel
theorem d_S_placeSprite_182 : decode b_S_placeSprite 182 = .ok (.aload_n 0, 1) := by decide +kernel
theorem d_S_placeSprite_183 : decode b_S_placeSprite 183 = .ok (.getfield 19, 3) := by decide +kernel
theorem d_S_placeSprite_186 : decode b_S_placeSprite 186 = .ok (.iload 9, 2) := by decide +kernel
theorem d_S_placeSprite_188 : decode b_S_placeSprite 188 = .ok (.iload 6, 2) := by decide +kernel
theorem d_S_placeSprite_190 : decode b_S_placeSprite 190 = .ok (.iastore, 1) := by decide +kernel
theorem d_S_placeSprite_191 : decode b_S_placeSprite 191 = .ok (.iinc 8 1, 3) := by decide +kernel
theorem d_S_placeSprite_194 : decode b_S_placeSprite 194 = .ok (.goto (-113), 3) := by decide +kernel
theorem d_S_placeSprite_197 : decode b_S_placeSprite 197 = .ok (.return_, 1) := by decide +kernel
