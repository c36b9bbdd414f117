theorem d_K_settle_0 : decode b_K_settle 0 = .ok (.aload_n 0, 1) := by decide +kernel
theorem d_K_settle_1 : decode b_K_settle 1 = .ok (.aload_n 0, 1) := by decide +kernel
theorem d_K_settle_2 : decode b_K_settle 2 = .ok (.getfield 33, 3) := by decide +kernel
theorem d_K_settle_5 : decode b_K_settle 5 = .ok (.ifCond .eq 21, 3) := by decide +kernel
theorem d_K_settle_8 : decode b_K_settle 8 = .ok (.aload_n 0, 1) := by decide +kernel
theorem d_K_settle_9 : decode b_K_settle 9 = .ok (.getfield 36, 3) := by decide +kernel
theorem d_K_settle_12 : decode b_K_settle 12 = .ok (.ifCond .eq 10, 3) := by decide +kernel
theorem d_K_settle_15 : decode b_K_settle 15 = .ok (.aload_n 0, 1) := by decide +kernel
theorem d_K_settle_16 : decode b_K_settle 16 = .ok (.getfield 16, 3) := by decide +kernel
theorem d_K_settle_19 : decode b_K_settle 19 = .ok (.ifCond .eq 7, 3) := by decide +kernel
theorem d_K_settle_22 : decode b_K_settle 22 = .ok (.iconst 1, 1) := by decide +kernel
theorem d_K_settle_23 : decode b_K_settle 23 = .ok (.goto 4, 3) := by decide +kernel
theorem d_K_settle_26 : decode b_K_settle 26 = .ok (.iconst 0, 1) := by decide +kernel
theorem d_K_settle_27 : decode b_K_settle 27 = .ok (.putfield 39, 3) := by decide +kernel
theorem d_K_settle_30 : decode b_K_settle 30 = .ok (.aload_n 0, 1) := by decide +kernel
theorem d_K_settle_31 : decode b_K_settle 31 = .ok (.aload_n 0, 1) := by decide +kernel
theorem d_K_settle_32 : decode b_K_settle 32 = .ok (.getfield 20, 3) := by decide +kernel
theorem d_K_settle_35 : decode b_K_settle 35 = .ok (.bipush 7, 2) := by decide +kernel
theorem d_K_settle_37 : decode b_K_settle 37 = .ok (.iand, 1) := by decide +kernel
theorem d_K_settle_38 : decode b_K_settle 38 = .ok (.putfield 42, 3) := by decide +kernel
theorem d_K_settle_41 : decode b_K_settle 41 = .ok (.aload_n 0, 1) := by decide +kernel
theorem d_K_settle_42 : decode b_K_settle 42 = .ok (.aload_n 0, 1) := by decide +kernel
theorem d_K_settle_43 : decode b_K_settle 43 = .ok (.getfield 36, 3) := by decide +kernel
theorem d_K_settle_46 : decode b_K_settle 46 = .ok (.iconst 1, 1) := by decide +kernel
theorem d_K_settle_47 : decode b_K_settle 47 = .ok (.if_icmp .ne 14, 3) := by decide +kernel
theorem d_K_settle_50 : decode b_K_settle 50 = .ok (.aload_n 0, 1) := by decide +kernel
theorem d_K_settle_51 : decode b_K_settle 51 = .ok (.getfield 27, 3) := by decide +kernel
theorem d_K_settle_54 : decode b_K_settle 54 = .ok (.ifCond .ne 7, 3) := by decide +kernel
theorem d_K_settle_57 : decode b_K_settle 57 = .ok (.iconst 0, 1) := by decide +kernel
theorem d_K_settle_58 : decode b_K_settle 58 = .ok (.goto 7, 3) := by decide +kernel
theorem d_K_settle_61 : decode b_K_settle 61 = .ok (.aload_n 0, 1) := by decide +kernel
theorem d_K_settle_62 : decode b_K_settle 62 = .ok (.getfield 24, 3) := by decide +kernel
theorem d_K_settle_65 : decode b_K_settle 65 = .ok (.putfield 45, 3) := by decide +kernel
theorem d_K_settle_68 : decode b_K_settle 68 = .ok (.return_, 1) := by decide +kernel
theorem d_K_reset_0 : decode b_K_reset 0 = .ok (.aload_n 0, 1) := by decide +kernel
theorem d_K_reset_1 : decode b_K_reset 1 = .ok (.iconst 0, 1) := by decide +kernel
theorem d_K_reset_2 : decode b_K_reset 2 = .ok (.putfield 16, 3) := by decide +kernel
theorem d_K_reset_5 : decode b_K_reset 5 = .ok (.aload_n 0, 1) := by decide +kernel
theorem d_K_reset_6 : decode b_K_reset 6 = .ok (.iconst 1, 1) := by decide +kernel
theorem d_K_reset_7 : decode b_K_reset 7 = .ok (.putfield 20, 3) := by decide +kernel
theorem d_K_reset_10 : decode b_K_reset 10 = .ok (.aload_n 0, 1) := by decide +kernel
theorem d_K_reset_11 : decode b_K_reset 11 = .ok (.iconst 0, 1) := by decide +kernel
theorem d_K_reset_12 : decode b_K_reset 12 = .ok (.putfield 24, 3) := by decide +kernel
theorem d_K_reset_15 : decode b_K_reset 15 = .ok (.aload_n 0, 1) := by decide +kernel
theorem d_K_reset_16 : decode b_K_reset 16 = .ok (.iconst 0, 1) := by decide +kernel
theorem d_K_reset_17 : decode b_K_reset 17 = .ok (.putfield 27, 3) := by decide +kernel
theorem d_K_reset_20 : decode b_K_reset 20 = .ok (.aload_n 0, 1) := by decide +kernel
theorem d_K_reset_21 : decode b_K_reset 21 = .ok (.invokevirtual 30, 3) := by decide +kernel
theorem d_K_reset_24 : decode b_K_reset 24 = .ok (.return_, 1) := by decide +kernel
theorem d_P_findState_0 : decode b_P_findState 0 = .ok (.aload_n 0, 1) := by decide +kernel
theorem d_P_findState_1 : decode b_P_findState 1 = .ok (.getfield 7, 3) := by decide +kernel
theorem d_P_findState_4 : decode b_P_findState 4 = .ok (.bipush 64, 2) := by decide +kernel
theorem d_P_findState_6 : decode b_P_findState 6 = .ok (.iaload, 1) := by decide +kernel
theorem d_P_findState_7 : decode b_P_findState 7 = .ok (.sipush 128, 3) := by decide +kernel
theorem d_P_findState_10 : decode b_P_findState 10 = .ok (.iand, 1) := by decide +kernel
theorem d_P_findState_11 : decode b_P_findState 11 = .ok (.ifCond .ne 21, 3) := by decide +kernel
theorem d_P_findState_14 : decode b_P_findState 14 = .ok (.aload_n 0, 1) := by decide +kernel
theorem d_P_findState_15 : decode b_P_findState 15 = .ok (.iconst 0, 1) := by decide +kernel
theorem d_P_findState_16 : decode b_P_findState 16 = .ok (.putfield 26, 3) := by decide +kernel
theorem d_P_findState_19 : decode b_P_findState 19 = .ok (.aload_n 0, 1) := by decide +kernel
theorem d_P_findState_20 : decode b_P_findState 20 = .ok (.iconst 0, 1) := by decide +kernel
theorem d_P_findState_21 : decode b_P_findState 21 = .ok (.putfield 29, 3) := by decide +kernel
theorem d_P_findState_24 : decode b_P_findState 24 = .ok (.aload_n 0, 1) := by decide +kernel
theorem d_P_findState_25 : decode b_P_findState 25 = .ok (.iconst 0, 1) := by decide +kernel
theorem d_P_findState_26 : decode b_P_findState 26 = .ok (.putfield 42, 3) := by decide +kernel
theorem d_P_findState_29 : decode b_P_findState 29 = .ok (.goto 52, 3) := by decide +kernel
theorem d_P_findState_32 : decode b_P_findState 32 = .ok (.aload_n 0, 1) := by decide +kernel
theorem d_P_findState_33 : decode b_P_findState 33 = .ok (.getfield 29, 3) := by decide +kernel
theorem d_P_findState_36 : decode b_P_findState 36 = .ok (.sipush 144, 3) := by decide +kernel
theorem d_P_findState_39 : decode b_P_findState 39 = .ok (.if_icmp .lt 11, 3) := by decide +kernel
theorem d_P_findState_42 : decode b_P_findState 42 = .ok (.aload_n 0, 1) := by decide +kernel
theorem d_P_findState_43 : decode b_P_findState 43 = .ok (.iconst 1, 1) := by decide +kernel
theorem d_P_findState_44 : decode b_P_findState 44 = .ok (.putfield 42, 3) := by decide +kernel
theorem d_P_findState_47 : decode b_P_findState 47 = .ok (.goto 34, 3) := by decide +kernel
theorem d_P_findState_50 : decode b_P_findState 50 = .ok (.aload_n 0, 1) := by decide +kernel
theorem d_P_findState_51 : decode b_P_findState 51 = .ok (.aload_n 0, 1) := by decide +kernel
theorem d_P_findState_52 : decode b_P_findState 52 = .ok (.getfield 26, 3) := by decide +kernel
theorem d_P_findState_55 : decode b_P_findState 55 = .ok (.bipush 20, 2) := by decide +kernel
theorem d_P_findState_57 : decode b_P_findState 57 = .ok (.if_icmp .ge 7, 3) := by decide +kernel
theorem d_P_findState_60 : decode b_P_findState 60 = .ok (.iconst 2, 1) := by decide +kernel
theorem d_P_findState_61 : decode b_P_findState 61 = .ok (.goto 17, 3) := by decide +kernel
theorem d_P_findState_64 : decode b_P_findState 64 = .ok (.aload_n 0, 1) := by decide +kernel
theorem d_P_findState_65 : decode b_P_findState 65 = .ok (.getfield 26, 3) := by decide +kernel
theorem d_P_findState_68 : decode b_P_findState 68 = .ok (.bipush 63, 2) := by decide +kernel
theorem d_P_findState_70 : decode b_P_findState 70 = .ok (.if_icmp .ge 7, 3) := by decide +kernel
theorem d_P_findState_73 : decode b_P_findState 73 = .ok (.iconst 3, 1) := by decide +kernel
theorem d_P_findState_74 : decode b_P_findState 74 = .ok (.goto 4, 3) := by decide +kernel
theorem d_P_findState_77 : decode b_P_findState 77 = .ok (.iconst 0, 1) := by decide +kernel
theorem d_P_findState_78 : decode b_P_findState 78 = .ok (.putfield 42, 3) := by decide +kernel
theorem d_P_findState_81 : decode b_P_findState 81 = .ok (.return_, 1) := by decide +kernel
theorem d_A_fill_0 : decode b_A_fill 0 = .ok (.iconst 0, 1) := by decide +kernel
theorem d_A_fill_1 : decode b_A_fill 1 = .ok (.istore_n 2, 1) := by decide +kernel
theorem d_A_fill_2 : decode b_A_fill 2 = .ok (.aload_n 0, 1) := by decide +kernel
theorem d_A_fill_3 : decode b_A_fill 3 = .ok (.arraylength, 1) := by decide +kernel
theorem d_A_fill_4 : decode b_A_fill 4 = .ok (.istore_n 3, 1) := by decide +kernel
theorem d_A_fill_5 : decode b_A_fill 5 = .ok (.iload_n 2, 1) := by decide +kernel
theorem d_A_fill_6 : decode b_A_fill 6 = .ok (.iload_n 3, 1) := by decide +kernel
theorem d_A_fill_7 : decode b_A_fill 7 = .ok (.if_icmp .ge 13, 3) := by decide +kernel
theorem d_A_fill_10 : decode b_A_fill 10 = .ok (.aload_n 0, 1) := by decide +kernel
theorem d_A_fill_11 : decode b_A_fill 11 = .ok (.iload_n 2, 1) := by decide +kernel
theorem d_A_fill_12 : decode b_A_fill 12 = .ok (.iload_n 1, 1) := by decide +kernel
theorem d_A_fill_13 : decode b_A_fill 13 = .ok (.iastore, 1) := by decide +kernel
theorem d_A_fill_14 : decode b_A_fill 14 = .ok (.iinc 2 1, 3) := by decide +kernel
theorem d_A_fill_17 : decode b_A_fill 17 = .ok (.goto (-12), 3) := by decide +kernel
theorem d_A_fill_20 : decode b_A_fill 20 = .ok (.return_, 1) := by decide +kernel
theorem d_P_reset_0 : decode b_P_reset 0 = .ok (.aload_n 0, 1) := by decide +kernel
theorem d_P_reset_1 : decode b_P_reset 1 = .ok (.getfield 7, 3) := by decide +kernel
theorem d_P_reset_4 : decode b_P_reset 4 = .ok (.iconst 0, 1) := by decide +kernel
theorem d_P_reset_5 : decode b_P_reset 5 = .ok (.invokestatic 13, 3) := by decide +kernel
theorem d_P_reset_8 : decode b_P_reset 8 = .ok (.aload_n 0, 1) := by decide +kernel
theorem d_P_reset_9 : decode b_P_reset 9 = .ok (.getfield 7, 3) := by decide +kernel
theorem d_P_reset_12 : decode b_P_reset 12 = .ok (.bipush 64, 2) := by decide +kernel
theorem d_P_reset_14 : decode b_P_reset 14 = .ok (.sipush 145, 3) := by decide +kernel
theorem d_P_reset_17 : decode b_P_reset 17 = .ok (.iastore, 1) := by decide +kernel
theorem d_P_reset_18 : decode b_P_reset 18 = .ok (.aload_n 0, 1) := by decide +kernel
theorem d_P_reset_19 : decode b_P_reset 19 = .ok (.getfield 7, 3) := by decide +kernel
theorem d_P_reset_22 : decode b_P_reset 22 = .ok (.bipush 71, 2) := by decide +kernel
theorem d_P_reset_24 : decode b_P_reset 24 = .ok (.sipush 252, 3) := by decide +kernel
theorem d_P_reset_27 : decode b_P_reset 27 = .ok (.iastore, 1) := by decide +kernel
theorem d_P_reset_28 : decode b_P_reset 28 = .ok (.aload_n 0, 1) := by decide +kernel
theorem d_P_reset_29 : decode b_P_reset 29 = .ok (.getfield 7, 3) := by decide +kernel
theorem d_P_reset_32 : decode b_P_reset 32 = .ok (.bipush 15, 2) := by decide +kernel
theorem d_P_reset_34 : decode b_P_reset 34 = .ok (.iconst 1, 1) := by decide +kernel
theorem d_P_reset_35 : decode b_P_reset 35 = .ok (.iastore, 1) := by decide +kernel
theorem d_P_reset_36 : decode b_P_reset 36 = .ok (.aload_n 0, 1) := by decide +kernel
theorem d_P_reset_37 : decode b_P_reset 37 = .ok (.iconst 0, 1) := by decide +kernel
theorem d_P_reset_38 : decode b_P_reset 38 = .ok (.putfield 19, 3) := by decide +kernel
theorem d_P_reset_41 : decode b_P_reset 41 = .ok (.aload_n 0, 1) := by decide +kernel
theorem d_P_reset_42 : decode b_P_reset 42 = .ok (.iconst 0, 1) := by decide +kernel
theorem d_P_reset_43 : decode b_P_reset 43 = .ok (.putfield 23, 3) := by decide +kernel
theorem d_P_reset_46 : decode b_P_reset 46 = .ok (.aload_n 0, 1) := by decide +kernel
theorem d_P_reset_47 : decode b_P_reset 47 = .ok (.iconst 0, 1) := by decide +kernel
theorem d_P_reset_48 : decode b_P_reset 48 = .ok (.putfield 26, 3) := by decide +kernel
theorem d_P_reset_51 : decode b_P_reset 51 = .ok (.aload_n 0, 1) := by decide +kernel
theorem d_P_reset_52 : decode b_P_reset 52 = .ok (.iconst 0, 1) := by decide +kernel
theorem d_P_reset_53 : decode b_P_reset 53 = .ok (.putfield 29, 3) := by decide +kernel
theorem d_P_reset_56 : decode b_P_reset 56 = .ok (.aload_n 0, 1) := by decide +kernel
theorem d_P_reset_57 : decode b_P_reset 57 = .ok (.iconst 0, 1) := by decide +kernel
theorem d_P_reset_58 : decode b_P_reset 58 = .ok (.putfield 32, 3) := by decide +kernel
theorem d_P_reset_61 : decode b_P_reset 61 = .ok (.aload_n 0, 1) := by decide +kernel
theorem d_P_reset_62 : decode b_P_reset 62 = .ok (.invokevirtual 36, 3) := by decide +kernel
theorem d_P_reset_65 : decode b_P_reset 65 = .ok (.return_, 1) := by decide +kernel
theorem d_Y_reset_0 : decode b_Y_reset 0 = .ok (.aload_n 0, 1) := by decide +kernel
theorem d_Y_reset_1 : decode b_Y_reset 1 = .ok (.getfield 7, 3) := by decide +kernel
theorem d_Y_reset_4 : decode b_Y_reset 4 = .ok (.iconst 0, 1) := by decide +kernel
theorem d_Y_reset_5 : decode b_Y_reset 5 = .ok (.invokestatic 30, 3) := by decide +kernel
theorem d_Y_reset_8 : decode b_Y_reset 8 = .ok (.aload_n 0, 1) := by decide +kernel
theorem d_Y_reset_9 : decode b_Y_reset 9 = .ok (.getfield 13, 3) := by decide +kernel
theorem d_Y_reset_12 : decode b_Y_reset 12 = .ok (.iconst 0, 1) := by decide +kernel
theorem d_Y_reset_13 : decode b_Y_reset 13 = .ok (.invokestatic 30, 3) := by decide +kernel
theorem d_Y_reset_16 : decode b_Y_reset 16 = .ok (.aload_n 0, 1) := by decide +kernel
theorem d_Y_reset_17 : decode b_Y_reset 17 = .ok (.getfield 16, 3) := by decide +kernel
theorem d_Y_reset_20 : decode b_Y_reset 20 = .ok (.iconst 0, 1) := by decide +kernel
theorem d_Y_reset_21 : decode b_Y_reset 21 = .ok (.invokestatic 30, 3) := by decide +kernel
theorem d_Y_reset_24 : decode b_Y_reset 24 = .ok (.aload_n 0, 1) := by decide +kernel
theorem d_Y_reset_25 : decode b_Y_reset 25 = .ok (.getfield 19, 3) := by decide +kernel
theorem d_Y_reset_28 : decode b_Y_reset 28 = .ok (.iconst 0, 1) := by decide +kernel
theorem d_Y_reset_29 : decode b_Y_reset 29 = .ok (.invokestatic 30, 3) := by decide +kernel
theorem d_Y_reset_32 : decode b_Y_reset 32 = .ok (.return_, 1) := by decide +kernel
theorem d_S_reset_0 : decode b_S_reset 0 = .ok (.aload_n 0, 1) := by decide +kernel
theorem d_S_reset_1 : decode b_S_reset 1 = .ok (.getfield 9, 3) := by decide +kernel
theorem d_S_reset_4 : decode b_S_reset 4 = .ok (.iconst 0, 1) := by decide +kernel
theorem d_S_reset_5 : decode b_S_reset 5 = .ok (.invokestatic 31, 3) := by decide +kernel
theorem d_S_reset_8 : decode b_S_reset 8 = .ok (.return_, 1) := by decide +kernel
theorem d_Q_setPair_0 : decode b_Q_setPair 0 = .ok (.iload_n 1, 1) := by decide +kernel
theorem d_Q_setPair_1 : decode b_Q_setPair 1 = .ok (.iconst 3, 1) := by decide +kernel
theorem d_Q_setPair_2 : decode b_Q_setPair 2 = .ok (.if_icmp .ne 14, 3) := by decide +kernel
theorem d_Q_setPair_5 : decode b_Q_setPair 5 = .ok (.aload_n 0, 1) := by decide +kernel
theorem d_Q_setPair_6 : decode b_Q_setPair 6 = .ok (.iload_n 2, 1) := by decide +kernel
theorem d_Q_setPair_7 : decode b_Q_setPair 7 = .ok (.ldc 58, 2) := by decide +kernel
theorem d_Q_setPair_9 : decode b_Q_setPair 9 = .ok (.iand, 1) := by decide +kernel
theorem d_Q_setPair_10 : decode b_Q_setPair 10 = .ok (.putfield 26, 3) := by decide +kernel
theorem d_Q_setPair_13 : decode b_Q_setPair 13 = .ok (.goto 40, 3) := by decide +kernel
theorem d_Q_setPair_16 : decode b_Q_setPair 16 = .ok (.aload_n 0, 1) := by decide +kernel
theorem d_Q_setPair_17 : decode b_Q_setPair 17 = .ok (.getfield 7, 3) := by decide +kernel
theorem d_Q_setPair_20 : decode b_Q_setPair 20 = .ok (.iconst 2, 1) := by decide +kernel
theorem d_Q_setPair_21 : decode b_Q_setPair 21 = .ok (.iload_n 1, 1) := by decide +kernel
theorem d_Q_setPair_22 : decode b_Q_setPair 22 = .ok (.imul, 1) := by decide +kernel
theorem d_Q_setPair_23 : decode b_Q_setPair 23 = .ok (.bipush 7, 2) := by decide +kernel
theorem d_Q_setPair_25 : decode b_Q_setPair 25 = .ok (.iand, 1) := by decide +kernel
theorem d_Q_setPair_26 : decode b_Q_setPair 26 = .ok (.iload_n 2, 1) := by decide +kernel
theorem d_Q_setPair_27 : decode b_Q_setPair 27 = .ok (.bipush 8, 2) := by decide +kernel
theorem d_Q_setPair_29 : decode b_Q_setPair 29 = .ok (.ishr, 1) := by decide +kernel
theorem d_Q_setPair_30 : decode b_Q_setPair 30 = .ok (.sipush 255, 3) := by decide +kernel
theorem d_Q_setPair_33 : decode b_Q_setPair 33 = .ok (.iand, 1) := by decide +kernel
theorem d_Q_setPair_34 : decode b_Q_setPair 34 = .ok (.iastore, 1) := by decide +kernel
theorem d_Q_setPair_35 : decode b_Q_setPair 35 = .ok (.aload_n 0, 1) := by decide +kernel
theorem d_Q_setPair_36 : decode b_Q_setPair 36 = .ok (.getfield 7, 3) := by decide +kernel
theorem d_Q_setPair_39 : decode b_Q_setPair 39 = .ok (.iconst 2, 1) := by decide +kernel
theorem d_Q_setPair_40 : decode b_Q_setPair 40 = .ok (.iload_n 1, 1) := by decide +kernel
theorem d_Q_setPair_41 : decode b_Q_setPair 41 = .ok (.imul, 1) := by decide +kernel
theorem d_Q_setPair_42 : decode b_Q_setPair 42 = .ok (.iconst 1, 1) := by decide +kernel
theorem d_Q_setPair_43 : decode b_Q_setPair 43 = .ok (.iadd, 1) := by decide +kernel
theorem d_Q_setPair_44 : decode b_Q_setPair 44 = .ok (.bipush 7, 2) := by decide +kernel
theorem d_Q_setPair_46 : decode b_Q_setPair 46 = .ok (.iand, 1) := by decide +kernel
theorem d_Q_setPair_47 : decode b_Q_setPair 47 = .ok (.iload_n 2, 1) := by decide +kernel
theorem d_Q_setPair_48 : decode b_Q_setPair 48 = .ok (.sipush 255, 3) := by decide +kernel
theorem d_Q_setPair_51 : decode b_Q_setPair 51 = .ok (.iand, 1) := by decide +kernel
theorem d_Q_setPair_52 : decode b_Q_setPair 52 = .ok (.iastore, 1) := by decide +kernel
theorem d_Q_setPair_53 : decode b_Q_setPair 53 = .ok (.return_, 1) := by decide +kernel
theorem d_Q_reset_0 : decode b_Q_reset 0 = .ok (.aload_n 0, 1) := by decide +kernel
theorem d_Q_reset_1 : decode b_Q_reset 1 = .ok (.getfield 7, 3) := by decide +kernel
theorem d_Q_reset_4 : decode b_Q_reset 4 = .ok (.bipush 7, 2) := by decide +kernel
theorem d_Q_reset_6 : decode b_Q_reset 6 = .ok (.iconst 1, 1) := by decide +kernel
theorem d_Q_reset_7 : decode b_Q_reset 7 = .ok (.iastore, 1) := by decide +kernel
theorem d_Q_reset_8 : decode b_Q_reset 8 = .ok (.aload_n 0, 1) := by decide +kernel
theorem d_Q_reset_9 : decode b_Q_reset 9 = .ok (.getfield 7, 3) := by decide +kernel
theorem d_Q_reset_12 : decode b_Q_reset 12 = .ok (.bipush 6, 2) := by decide +kernel
theorem d_Q_reset_14 : decode b_Q_reset 14 = .ok (.sipush 176, 3) := by decide +kernel
theorem d_Q_reset_17 : decode b_Q_reset 17 = .ok (.iastore, 1) := by decide +kernel
theorem d_Q_reset_18 : decode b_Q_reset 18 = .ok (.aload_n 0, 1) := by decide +kernel
theorem d_Q_reset_19 : decode b_Q_reset 19 = .ok (.iconst 0, 1) := by decide +kernel
theorem d_Q_reset_20 : decode b_Q_reset 20 = .ok (.bipush 19, 2) := by decide +kernel
theorem d_Q_reset_22 : decode b_Q_reset 22 = .ok (.invokevirtual 21, 3) := by decide +kernel
theorem d_Q_reset_25 : decode b_Q_reset 25 = .ok (.aload_n 0, 1) := by decide +kernel
theorem d_Q_reset_26 : decode b_Q_reset 26 = .ok (.iconst 1, 1) := by decide +kernel
theorem d_Q_reset_27 : decode b_Q_reset 27 = .ok (.sipush 216, 3) := by decide +kernel
theorem d_Q_reset_30 : decode b_Q_reset 30 = .ok (.invokevirtual 21, 3) := by decide +kernel
theorem d_Q_reset_33 : decode b_Q_reset 33 = .ok (.aload_n 0, 1) := by decide +kernel
theorem d_Q_reset_34 : decode b_Q_reset 34 = .ok (.iconst 2, 1) := by decide +kernel
theorem d_Q_reset_35 : decode b_Q_reset 35 = .ok (.sipush 333, 3) := by decide +kernel
theorem d_Q_reset_38 : decode b_Q_reset 38 = .ok (.invokevirtual 21, 3) := by decide +kernel
theorem d_Q_reset_41 : decode b_Q_reset 41 = .ok (.aload_n 0, 1) := by decide +kernel
theorem d_Q_reset_42 : decode b_Q_reset 42 = .ok (.ldc 25, 2) := by decide +kernel
theorem d_Q_reset_44 : decode b_Q_reset 44 = .ok (.putfield 26, 3) := by decide +kernel
theorem d_Q_reset_47 : decode b_Q_reset 47 = .ok (.aload_n 0, 1) := by decide +kernel
theorem d_Q_reset_48 : decode b_Q_reset 48 = .ok (.sipush 256, 3) := by decide +kernel
theorem d_Q_reset_51 : decode b_Q_reset 51 = .ok (.putfield 30, 3) := by decide +kernel
theorem d_Q_reset_54 : decode b_Q_reset 54 = .ok (.aload_n 0, 1) := by decide +kernel
theorem d_Q_reset_55 : decode b_Q_reset 55 = .ok (.iconst 0, 1) := by decide +kernel
theorem d_Q_reset_56 : decode b_Q_reset 56 = .ok (.putfield 33, 3) := by decide +kernel
theorem d_Q_reset_59 : decode b_Q_reset 59 = .ok (.aload_n 0, 1) := by decide +kernel
theorem d_Q_reset_60 : decode b_Q_reset 60 = .ok (.iconst 0, 1) := by decide +kernel
theorem d_Q_reset_61 : decode b_Q_reset 61 = .ok (.putfield 37, 3) := by decide +kernel
theorem d_Q_reset_64 : decode b_Q_reset 64 = .ok (.aload_n 0, 1) := by decide +kernel
theorem d_Q_reset_65 : decode b_Q_reset 65 = .ok (.iconst 0, 1) := by decide +kernel
theorem d_Q_reset_66 : decode b_Q_reset 66 = .ok (.putfield 40, 3) := by decide +kernel
theorem d_Q_reset_69 : decode b_Q_reset 69 = .ok (.aload_n 0, 1) := by decide +kernel
theorem d_Q_reset_70 : decode b_Q_reset 70 = .ok (.iconst 0, 1) := by decide +kernel
theorem d_Q_reset_71 : decode b_Q_reset 71 = .ok (.putfield 43, 3) := by decide +kernel
theorem d_Q_reset_74 : decode b_Q_reset 74 = .ok (.aload_n 0, 1) := by decide +kernel
theorem d_Q_reset_75 : decode b_Q_reset 75 = .ok (.iconst 0, 1) := by decide +kernel
theorem d_Q_reset_76 : decode b_Q_reset 76 = .ok (.putfield 46, 3) := by decide +kernel
theorem d_Q_reset_79 : decode b_Q_reset 79 = .ok (.aload_n 0, 1) := by decide +kernel
theorem d_Q_reset_80 : decode b_Q_reset 80 = .ok (.iconst 0, 1) := by decide +kernel
theorem d_Q_reset_81 : decode b_Q_reset 81 = .ok (.putfield 49, 3) := by decide +kernel
theorem d_Q_reset_84 : decode b_Q_reset 84 = .ok (.aload_n 0, 1) := by decide +kernel
theorem d_Q_reset_85 : decode b_Q_reset 85 = .ok (.iconst 0, 1) := by decide +kernel
theorem d_Q_reset_86 : decode b_Q_reset 86 = .ok (.putfield 52, 3) := by decide +kernel
theorem d_Q_reset_89 : decode b_Q_reset 89 = .ok (.return_, 1) := by decide +kernel
theorem d_T_startAnew_0 : decode b_T_startAnew 0 = .ok (.aload_n 0, 1) := by decide +kernel
theorem d_T_startAnew_1 : decode b_T_startAnew 1 = .ok (.getfield 10, 3) := by decide +kernel
theorem d_T_startAnew_4 : decode b_T_startAnew 4 = .ok (.invokevirtual 191, 3) := by decide +kernel
theorem d_T_startAnew_7 : decode b_T_startAnew 7 = .ok (.aload_n 0, 1) := by decide +kernel
theorem d_T_startAnew_8 : decode b_T_startAnew 8 = .ok (.getfield 19, 3) := by decide +kernel
theorem d_T_startAnew_11 : decode b_T_startAnew 11 = .ok (.invokevirtual 194, 3) := by decide +kernel
theorem d_T_startAnew_14 : decode b_T_startAnew 14 = .ok (.aload_n 0, 1) := by decide +kernel
theorem d_T_startAnew_15 : decode b_T_startAnew 15 = .ok (.getfield 28, 3) := by decide +kernel
theorem d_T_startAnew_18 : decode b_T_startAnew 18 = .ok (.invokevirtual 195, 3) := by decide +kernel
theorem d_T_startAnew_21 : decode b_T_startAnew 21 = .ok (.aload_n 0, 1) := by decide +kernel
theorem d_T_startAnew_22 : decode b_T_startAnew 22 = .ok (.getfield 47, 3) := by decide +kernel
theorem d_T_startAnew_25 : decode b_T_startAnew 25 = .ok (.invokevirtual 196, 3) := by decide +kernel
theorem d_T_startAnew_28 : decode b_T_startAnew 28 = .ok (.aload_n 0, 1) := by decide +kernel
theorem d_T_startAnew_29 : decode b_T_startAnew 29 = .ok (.getfield 56, 3) := by decide +kernel
theorem d_T_startAnew_32 : decode b_T_startAnew 32 = .ok (.invokevirtual 197, 3) := by decide +kernel
theorem d_T_startAnew_35 : decode b_T_startAnew 35 = .ok (.return_, 1) := by decide +kernel
theorem d_T_octetOf_0 : decode b_T_octetOf 0 = .ok (.lload_n 0, 1) := by decide +kernel
theorem d_T_octetOf_1 : decode b_T_octetOf 1 = .ok (.bipush 8, 2) := by decide +kernel
theorem d_T_octetOf_3 : decode b_T_octetOf 3 = .ok (.iload_n 2, 1) := by decide +kernel
theorem d_T_octetOf_4 : decode b_T_octetOf 4 = .ok (.imul, 1) := by decide +kernel
theorem d_T_octetOf_5 : decode b_T_octetOf 5 = .ok (.lushr, 1) := by decide +kernel
theorem d_T_octetOf_6 : decode b_T_octetOf 6 = .ok (.l2i, 1) := by decide +kernel
theorem d_T_octetOf_7 : decode b_T_octetOf 7 = .ok (.sipush 255, 3) := by decide +kernel
theorem d_T_octetOf_10 : decode b_T_octetOf 10 = .ok (.iand, 1) := by decide +kernel
theorem d_T_octetOf_11 : decode b_T_octetOf 11 = .ok (.ireturn, 1) := by decide +kernel
theorem d_K_headerAgrees_0 : decode b_K_headerAgrees 0 = .ok (.iconst 0, 1) := by decide +kernel
theorem d_K_headerAgrees_1 : decode b_K_headerAgrees 1 = .ok (.istore_n 1, 1) := by decide +kernel
theorem d_K_headerAgrees_2 : decode b_K_headerAgrees 2 = .ok (.sipush 308, 3) := by decide +kernel
theorem d_K_headerAgrees_5 : decode b_K_headerAgrees 5 = .ok (.istore_n 2, 1) := by decide +kernel
theorem d_K_headerAgrees_6 : decode b_K_headerAgrees 6 = .ok (.iload_n 2, 1) := by decide +kernel
theorem d_K_headerAgrees_7 : decode b_K_headerAgrees 7 = .ok (.sipush 333, 3) := by decide +kernel
theorem d_K_headerAgrees_10 : decode b_K_headerAgrees 10 = .ok (.if_icmp .ge 20, 3) := by decide +kernel
theorem d_K_headerAgrees_13 : decode b_K_headerAgrees 13 = .ok (.iload_n 1, 1) := by decide +kernel
theorem d_K_headerAgrees_14 : decode b_K_headerAgrees 14 = .ok (.aload_n 0, 1) := by decide +kernel
theorem d_K_headerAgrees_15 : decode b_K_headerAgrees 15 = .ok (.getfield 9, 3) := by decide +kernel
theorem d_K_headerAgrees_18 : decode b_K_headerAgrees 18 = .ok (.iload_n 2, 1) := by decide +kernel
theorem d_K_headerAgrees_19 : decode b_K_headerAgrees 19 = .ok (.iaload, 1) := by decide +kernel
theorem d_K_headerAgrees_20 : decode b_K_headerAgrees 20 = .ok (.isub, 1) := by decide +kernel
theorem d_K_headerAgrees_21 : decode b_K_headerAgrees 21 = .ok (.iconst 1, 1) := by decide +kernel
theorem d_K_headerAgrees_22 : decode b_K_headerAgrees 22 = .ok (.isub, 1) := by decide +kernel
theorem d_K_headerAgrees_23 : decode b_K_headerAgrees 23 = .ok (.istore_n 1, 1) := by decide +kernel
theorem d_K_headerAgrees_24 : decode b_K_headerAgrees 24 = .ok (.iinc 2 1, 3) := by decide +kernel
theorem d_K_headerAgrees_27 : decode b_K_headerAgrees 27 = .ok (.goto (-21), 3) := by decide +kernel
theorem d_K_headerAgrees_30 : decode b_K_headerAgrees 30 = .ok (.iload_n 1, 1) := by decide +kernel
theorem d_K_headerAgrees_31 : decode b_K_headerAgrees 31 = .ok (.sipush 255, 3) := by decide +kernel
theorem d_K_headerAgrees_34 : decode b_K_headerAgrees 34 = .ok (.iand, 1) := by decide +kernel
theorem d_K_headerAgrees_35 : decode b_K_headerAgrees 35 = .ok (.aload_n 0, 1) := by decide +kernel
theorem d_K_headerAgrees_36 : decode b_K_headerAgrees 36 = .ok (.getfield 9, 3) := by decide +kernel
theorem d_K_headerAgrees_39 : decode b_K_headerAgrees 39 = .ok (.sipush 333, 3) := by decide +kernel
theorem d_K_headerAgrees_42 : decode b_K_headerAgrees 42 = .ok (.iaload, 1) := by decide +kernel
theorem d_K_headerAgrees_43 : decode b_K_headerAgrees 43 = .ok (.if_icmp .ne 7, 3) := by decide +kernel
theorem d_K_headerAgrees_46 : decode b_K_headerAgrees 46 = .ok (.iconst 1, 1) := by decide +kernel
theorem d_K_headerAgrees_47 : decode b_K_headerAgrees 47 = .ok (.goto 4, 3) := by decide +kernel
theorem d_K_headerAgrees_50 : decode b_K_headerAgrees 50 = .ok (.iconst 0, 1) := by decide +kernel
theorem d_K_headerAgrees_51 : decode b_K_headerAgrees 51 = .ok (.ireturn, 1) := by decide +kernel
theorem d_P_waiting_0 : decode b_P_waiting 0 = .ok (.aload_n 0, 1) := by decide +kernel
theorem d_P_waiting_1 : decode b_P_waiting 1 = .ok (.getfield 7, 3) := by decide +kernel
theorem d_P_waiting_4 : decode b_P_waiting 4 = .ok (.sipush 255, 3) := by decide +kernel
theorem d_P_waiting_7 : decode b_P_waiting 7 = .ok (.iaload, 1) := by decide +kernel
theorem d_P_waiting_8 : decode b_P_waiting 8 = .ok (.aload_n 0, 1) := by decide +kernel
theorem d_P_waiting_9 : decode b_P_waiting 9 = .ok (.getfield 7, 3) := by decide +kernel
theorem d_P_waiting_12 : decode b_P_waiting 12 = .ok (.bipush 15, 2) := by decide +kernel
theorem d_P_waiting_14 : decode b_P_waiting 14 = .ok (.iaload, 1) := by decide +kernel
theorem d_P_waiting_15 : decode b_P_waiting 15 = .ok (.iand, 1) := by decide +kernel
theorem d_P_waiting_16 : decode b_P_waiting 16 = .ok (.bipush 31, 2) := by decide +kernel
theorem d_P_waiting_18 : decode b_P_waiting 18 = .ok (.iand, 1) := by decide +kernel
theorem d_P_waiting_19 : decode b_P_waiting 19 = .ok (.ireturn, 1) := by decide +kernel
theorem d_K_controlOne_0 : decode b_K_controlOne 0 = .ok (.iload_n 1, 1) := by decide +kernel
theorem d_K_controlOne_1 : decode b_K_controlOne 1 = .ok (.sipush 8192, 3) := by decide +kernel
theorem d_K_controlOne_4 : decode b_K_controlOne 4 = .ok (.if_icmp .ge 24, 3) := by decide +kernel
theorem d_K_controlOne_7 : decode b_K_controlOne 7 = .ok (.aload_n 0, 1) := by decide +kernel
theorem d_K_controlOne_8 : decode b_K_controlOne 8 = .ok (.iload_n 2, 1) := by decide +kernel
theorem d_K_controlOne_9 : decode b_K_controlOne 9 = .ok (.bipush 15, 2) := by decide +kernel
theorem d_K_controlOne_11 : decode b_K_controlOne 11 = .ok (.iand, 1) := by decide +kernel
theorem d_K_controlOne_12 : decode b_K_controlOne 12 = .ok (.bipush 10, 2) := by decide +kernel
theorem d_K_controlOne_14 : decode b_K_controlOne 14 = .ok (.if_icmp .ne 7, 3) := by decide +kernel
theorem d_K_controlOne_17 : decode b_K_controlOne 17 = .ok (.iconst 1, 1) := by decide +kernel
theorem d_K_controlOne_18 : decode b_K_controlOne 18 = .ok (.goto 4, 3) := by decide +kernel
theorem d_K_controlOne_21 : decode b_K_controlOne 21 = .ok (.iconst 0, 1) := by decide +kernel
theorem d_K_controlOne_22 : decode b_K_controlOne 22 = .ok (.putfield 16, 3) := by decide +kernel
theorem d_K_controlOne_25 : decode b_K_controlOne 25 = .ok (.goto 56, 3) := by decide +kernel
theorem d_K_controlOne_28 : decode b_K_controlOne 28 = .ok (.iload_n 1, 1) := by decide +kernel
theorem d_K_controlOne_29 : decode b_K_controlOne 29 = .ok (.sipush 16384, 3) := by decide +kernel
theorem d_K_controlOne_32 : decode b_K_controlOne 32 = .ok (.if_icmp .ge 25, 3) := by decide +kernel
theorem d_K_controlOne_35 : decode b_K_controlOne 35 = .ok (.aload_n 0, 1) := by decide +kernel
theorem d_K_controlOne_36 : decode b_K_controlOne 36 = .ok (.iload_n 2, 1) := by decide +kernel
theorem d_K_controlOne_37 : decode b_K_controlOne 37 = .ok (.bipush 31, 2) := by decide +kernel
theorem d_K_controlOne_39 : decode b_K_controlOne 39 = .ok (.iand, 1) := by decide +kernel
theorem d_K_controlOne_40 : decode b_K_controlOne 40 = .ok (.ifCond .ne 7, 3) := by decide +kernel
theorem d_K_controlOne_43 : decode b_K_controlOne 43 = .ok (.iconst 1, 1) := by decide +kernel
theorem d_K_controlOne_44 : decode b_K_controlOne 44 = .ok (.goto 7, 3) := by decide +kernel
theorem d_K_controlOne_47 : decode b_K_controlOne 47 = .ok (.iload_n 2, 1) := by decide +kernel
theorem d_K_controlOne_48 : decode b_K_controlOne 48 = .ok (.bipush 31, 2) := by decide +kernel
theorem d_K_controlOne_50 : decode b_K_controlOne 50 = .ok (.iand, 1) := by decide +kernel
theorem d_K_controlOne_51 : decode b_K_controlOne 51 = .ok (.putfield 20, 3) := by decide +kernel
theorem d_K_controlOne_54 : decode b_K_controlOne 54 = .ok (.goto 27, 3) := by decide +kernel
theorem d_K_controlOne_57 : decode b_K_controlOne 57 = .ok (.iload_n 1, 1) := by decide +kernel
theorem d_K_controlOne_58 : decode b_K_controlOne 58 = .ok (.sipush 24576, 3) := by decide +kernel
theorem d_K_controlOne_61 : decode b_K_controlOne 61 = .ok (.if_icmp .ge 13, 3) := by decide +kernel
theorem d_K_controlOne_64 : decode b_K_controlOne 64 = .ok (.aload_n 0, 1) := by decide +kernel
theorem d_K_controlOne_65 : decode b_K_controlOne 65 = .ok (.iload_n 2, 1) := by decide +kernel
theorem d_K_controlOne_66 : decode b_K_controlOne 66 = .ok (.iconst 3, 1) := by decide +kernel
theorem d_K_controlOne_67 : decode b_K_controlOne 67 = .ok (.iand, 1) := by decide +kernel
theorem d_K_controlOne_68 : decode b_K_controlOne 68 = .ok (.putfield 24, 3) := by decide +kernel
theorem d_K_controlOne_71 : decode b_K_controlOne 71 = .ok (.goto 10, 3) := by decide +kernel
theorem d_K_controlOne_74 : decode b_K_controlOne 74 = .ok (.aload_n 0, 1) := by decide +kernel
theorem d_K_controlOne_75 : decode b_K_controlOne 75 = .ok (.iload_n 2, 1) := by decide +kernel
theorem d_K_controlOne_76 : decode b_K_controlOne 76 = .ok (.iconst 1, 1) := by decide +kernel
theorem d_K_controlOne_77 : decode b_K_controlOne 77 = .ok (.iand, 1) := by decide +kernel
theorem d_K_controlOne_78 : decode b_K_controlOne 78 = .ok (.putfield 27, 3) := by decide +kernel
theorem d_K_controlOne_81 : decode b_K_controlOne 81 = .ok (.return_, 1) := by decide +kernel
theorem d_K_controlTwo_0 : decode b_K_controlTwo 0 = .ok (.iload_n 1, 1) := by decide +kernel
theorem d_K_controlTwo_1 : decode b_K_controlTwo 1 = .ok (.sipush 16384, 3) := by decide +kernel
theorem d_K_controlTwo_4 : decode b_K_controlTwo 4 = .ok (.if_icmp .lt 4, 3) := by decide +kernel
theorem d_K_controlTwo_7 : decode b_K_controlTwo 7 = .ok (.return_, 1) := by decide +kernel
theorem d_K_controlTwo_8 : decode b_K_controlTwo 8 = .ok (.iload_n 1, 1) := by decide +kernel
theorem d_K_controlTwo_9 : decode b_K_controlTwo 9 = .ok (.sipush 256, 3) := by decide +kernel
theorem d_K_controlTwo_12 : decode b_K_controlTwo 12 = .ok (.iand, 1) := by decide +kernel
theorem d_K_controlTwo_13 : decode b_K_controlTwo 13 = .ok (.ifCond .ne 24, 3) := by decide +kernel
theorem d_K_controlTwo_16 : decode b_K_controlTwo 16 = .ok (.aload_n 0, 1) := by decide +kernel
theorem d_K_controlTwo_17 : decode b_K_controlTwo 17 = .ok (.iload_n 2, 1) := by decide +kernel
theorem d_K_controlTwo_18 : decode b_K_controlTwo 18 = .ok (.bipush 15, 2) := by decide +kernel
theorem d_K_controlTwo_20 : decode b_K_controlTwo 20 = .ok (.iand, 1) := by decide +kernel
theorem d_K_controlTwo_21 : decode b_K_controlTwo 21 = .ok (.bipush 10, 2) := by decide +kernel
theorem d_K_controlTwo_23 : decode b_K_controlTwo 23 = .ok (.if_icmp .ne 7, 3) := by decide +kernel
theorem d_K_controlTwo_26 : decode b_K_controlTwo 26 = .ok (.iconst 1, 1) := by decide +kernel
theorem d_K_controlTwo_27 : decode b_K_controlTwo 27 = .ok (.goto 4, 3) := by decide +kernel
theorem d_K_controlTwo_30 : decode b_K_controlTwo 30 = .ok (.iconst 0, 1) := by decide +kernel
theorem d_K_controlTwo_31 : decode b_K_controlTwo 31 = .ok (.putfield 16, 3) := by decide +kernel
theorem d_K_controlTwo_34 : decode b_K_controlTwo 34 = .ok (.goto 22, 3) := by decide +kernel
theorem d_K_controlTwo_37 : decode b_K_controlTwo 37 = .ok (.aload_n 0, 1) := by decide +kernel
theorem d_K_controlTwo_38 : decode b_K_controlTwo 38 = .ok (.iload_n 2, 1) := by decide +kernel
theorem d_K_controlTwo_39 : decode b_K_controlTwo 39 = .ok (.bipush 15, 2) := by decide +kernel
theorem d_K_controlTwo_41 : decode b_K_controlTwo 41 = .ok (.iand, 1) := by decide +kernel
theorem d_K_controlTwo_42 : decode b_K_controlTwo 42 = .ok (.ifCond .ne 7, 3) := by decide +kernel
theorem d_K_controlTwo_45 : decode b_K_controlTwo 45 = .ok (.iconst 1, 1) := by decide +kernel
theorem d_K_controlTwo_46 : decode b_K_controlTwo 46 = .ok (.goto 7, 3) := by decide +kernel
theorem d_K_controlTwo_49 : decode b_K_controlTwo 49 = .ok (.iload_n 2, 1) := by decide +kernel
theorem d_K_controlTwo_50 : decode b_K_controlTwo 50 = .ok (.bipush 15, 2) := by decide +kernel
theorem d_K_controlTwo_52 : decode b_K_controlTwo 52 = .ok (.iand, 1) := by decide +kernel
theorem d_K_controlTwo_53 : decode b_K_controlTwo 53 = .ok (.putfield 20, 3) := by decide +kernel
theorem d_K_controlTwo_56 : decode b_K_controlTwo 56 = .ok (.return_, 1) := by decide +kernel
theorem d_K_controlThree_0 : decode b_K_controlThree 0 = .ok (.iload_n 1, 1) := by decide +kernel
theorem d_K_controlThree_1 : decode b_K_controlThree 1 = .ok (.sipush 8192, 3) := by decide +kernel
theorem d_K_controlThree_4 : decode b_K_controlThree 4 = .ok (.if_icmp .ge 24, 3) := by decide +kernel
theorem d_K_controlThree_7 : decode b_K_controlThree 7 = .ok (.aload_n 0, 1) := by decide +kernel
theorem d_K_controlThree_8 : decode b_K_controlThree 8 = .ok (.iload_n 2, 1) := by decide +kernel
theorem d_K_controlThree_9 : decode b_K_controlThree 9 = .ok (.bipush 15, 2) := by decide +kernel
theorem d_K_controlThree_11 : decode b_K_controlThree 11 = .ok (.iand, 1) := by decide +kernel
theorem d_K_controlThree_12 : decode b_K_controlThree 12 = .ok (.bipush 10, 2) := by decide +kernel
theorem d_K_controlThree_14 : decode b_K_controlThree 14 = .ok (.if_icmp .ne 7, 3) := by decide +kernel
theorem d_K_controlThree_17 : decode b_K_controlThree 17 = .ok (.iconst 1, 1) := by decide +kernel
theorem d_K_controlThree_18 : decode b_K_controlThree 18 = .ok (.goto 4, 3) := by decide +kernel
theorem d_K_controlThree_21 : decode b_K_controlThree 21 = .ok (.iconst 0, 1) := by decide +kernel
theorem d_K_controlThree_22 : decode b_K_controlThree 22 = .ok (.putfield 16, 3) := by decide +kernel
theorem d_K_controlThree_25 : decode b_K_controlThree 25 = .ok (.goto 70, 3) := by decide +kernel
theorem d_K_controlThree_28 : decode b_K_controlThree 28 = .ok (.iload_n 1, 1) := by decide +kernel
theorem d_K_controlThree_29 : decode b_K_controlThree 29 = .ok (.sipush 12288, 3) := by decide +kernel
theorem d_K_controlThree_32 : decode b_K_controlThree 32 = .ok (.if_icmp .ge 20, 3) := by decide +kernel
theorem d_K_controlThree_35 : decode b_K_controlThree 35 = .ok (.aload_n 0, 1) := by decide +kernel
theorem d_K_controlThree_36 : decode b_K_controlThree 36 = .ok (.aload_n 0, 1) := by decide +kernel
theorem d_K_controlThree_37 : decode b_K_controlThree 37 = .ok (.getfield 20, 3) := by decide +kernel
theorem d_K_controlThree_40 : decode b_K_controlThree 40 = .ok (.sipush 256, 3) := by decide +kernel
theorem d_K_controlThree_43 : decode b_K_controlThree 43 = .ok (.iand, 1) := by decide +kernel
theorem d_K_controlThree_44 : decode b_K_controlThree 44 = .ok (.iload_n 2, 1) := by decide +kernel
theorem d_K_controlThree_45 : decode b_K_controlThree 45 = .ok (.ior, 1) := by decide +kernel
theorem d_K_controlThree_46 : decode b_K_controlThree 46 = .ok (.putfield 20, 3) := by decide +kernel
theorem d_K_controlThree_49 : decode b_K_controlThree 49 = .ok (.goto 46, 3) := by decide +kernel
theorem d_K_controlThree_52 : decode b_K_controlThree 52 = .ok (.iload_n 1, 1) := by decide +kernel
theorem d_K_controlThree_53 : decode b_K_controlThree 53 = .ok (.sipush 16384, 3) := by decide +kernel
theorem d_K_controlThree_56 : decode b_K_controlThree 56 = .ok (.if_icmp .ge 25, 3) := by decide +kernel
theorem d_K_controlThree_59 : decode b_K_controlThree 59 = .ok (.aload_n 0, 1) := by decide +kernel
theorem d_K_controlThree_60 : decode b_K_controlThree 60 = .ok (.aload_n 0, 1) := by decide +kernel
theorem d_K_controlThree_61 : decode b_K_controlThree 61 = .ok (.getfield 20, 3) := by decide +kernel
theorem d_K_controlThree_64 : decode b_K_controlThree 64 = .ok (.sipush 255, 3) := by decide +kernel
theorem d_K_controlThree_67 : decode b_K_controlThree 67 = .ok (.iand, 1) := by decide +kernel
theorem d_K_controlThree_68 : decode b_K_controlThree 68 = .ok (.iload_n 2, 1) := by decide +kernel
theorem d_K_controlThree_69 : decode b_K_controlThree 69 = .ok (.iconst 1, 1) := by decide +kernel
theorem d_K_controlThree_70 : decode b_K_controlThree 70 = .ok (.iand, 1) := by decide +kernel
theorem d_K_controlThree_71 : decode b_K_controlThree 71 = .ok (.bipush 8, 2) := by decide +kernel
theorem d_K_controlThree_73 : decode b_K_controlThree 73 = .ok (.ishl, 1) := by decide +kernel
theorem d_K_controlThree_74 : decode b_K_controlThree 74 = .ok (.ior, 1) := by decide +kernel
theorem d_K_controlThree_75 : decode b_K_controlThree 75 = .ok (.putfield 20, 3) := by decide +kernel
theorem d_K_controlThree_78 : decode b_K_controlThree 78 = .ok (.goto 17, 3) := by decide +kernel
theorem d_K_controlThree_81 : decode b_K_controlThree 81 = .ok (.iload_n 1, 1) := by decide +kernel
theorem d_K_controlThree_82 : decode b_K_controlThree 82 = .ok (.sipush 24576, 3) := by decide +kernel
theorem d_K_controlThree_85 : decode b_K_controlThree 85 = .ok (.if_icmp .ge 10, 3) := by decide +kernel
theorem d_K_controlThree_88 : decode b_K_controlThree 88 = .ok (.aload_n 0, 1) := by decide +kernel
theorem d_K_controlThree_89 : decode b_K_controlThree 89 = .ok (.iload_n 2, 1) := by decide +kernel
theorem d_K_controlThree_90 : decode b_K_controlThree 90 = .ok (.iconst 3, 1) := by decide +kernel
theorem d_K_controlThree_91 : decode b_K_controlThree 91 = .ok (.iand, 1) := by decide +kernel
theorem d_K_controlThree_92 : decode b_K_controlThree 92 = .ok (.putfield 24, 3) := by decide +kernel
theorem d_K_controlThree_95 : decode b_K_controlThree 95 = .ok (.return_, 1) := by decide +kernel
theorem d_K_control_0 : decode b_K_control 0 = .ok (.aload_n 0, 1) := by decide +kernel
theorem d_K_control_1 : decode b_K_control 1 = .ok (.getfield 33, 3) := by decide +kernel
theorem d_K_control_4 : decode b_K_control 4 = .ok (.ifCond .ne 4, 3) := by decide +kernel
theorem d_K_control_7 : decode b_K_control 7 = .ok (.return_, 1) := by decide +kernel
theorem d_K_control_8 : decode b_K_control 8 = .ok (.aload_n 0, 1) := by decide +kernel
theorem d_K_control_9 : decode b_K_control 9 = .ok (.getfield 36, 3) := by decide +kernel
theorem d_K_control_12 : decode b_K_control 12 = .ok (.tableswitch 55 1 3 #[28, 37, 46], 28) := by decide +kernel
theorem d_K_control_40 : decode b_K_control 40 = .ok (.aload_n 0, 1) := by decide +kernel
theorem d_K_control_41 : decode b_K_control 41 = .ok (.iload_n 1, 1) := by decide +kernel
theorem d_K_control_42 : decode b_K_control 42 = .ok (.iload_n 2, 1) := by decide +kernel
theorem d_K_control_43 : decode b_K_control 43 = .ok (.invokevirtual 48, 3) := by decide +kernel
theorem d_K_control_46 : decode b_K_control 46 = .ok (.goto 21, 3) := by decide +kernel
theorem d_K_control_49 : decode b_K_control 49 = .ok (.aload_n 0, 1) := by decide +kernel
theorem d_K_control_50 : decode b_K_control 50 = .ok (.iload_n 1, 1) := by decide +kernel
theorem d_K_control_51 : decode b_K_control 51 = .ok (.iload_n 2, 1) := by decide +kernel
theorem d_K_control_52 : decode b_K_control 52 = .ok (.invokevirtual 52, 3) := by decide +kernel
theorem d_K_control_55 : decode b_K_control 55 = .ok (.goto 12, 3) := by decide +kernel
theorem d_K_control_58 : decode b_K_control 58 = .ok (.aload_n 0, 1) := by decide +kernel
theorem d_K_control_59 : decode b_K_control 59 = .ok (.iload_n 1, 1) := by decide +kernel
theorem d_K_control_60 : decode b_K_control 60 = .ok (.iload_n 2, 1) := by decide +kernel
theorem d_K_control_61 : decode b_K_control 61 = .ok (.invokevirtual 55, 3) := by decide +kernel
theorem d_K_control_64 : decode b_K_control 64 = .ok (.goto 3, 3) := by decide +kernel
theorem d_K_control_67 : decode b_K_control 67 = .ok (.aload_n 0, 1) := by decide +kernel
theorem d_K_control_68 : decode b_K_control 68 = .ok (.invokevirtual 30, 3) := by decide +kernel
theorem d_K_control_71 : decode b_K_control 71 = .ok (.return_, 1) := by decide +kernel
theorem d_K_storeRam_0 : decode b_K_storeRam 0 = .ok (.aload_n 0, 1) := by decide +kernel
theorem d_K_storeRam_1 : decode b_K_storeRam 1 = .ok (.getfield 39, 3) := by decide +kernel
theorem d_K_storeRam_4 : decode b_K_storeRam 4 = .ok (.ifCond .eq 38, 3) := by decide +kernel
theorem d_K_storeRam_7 : decode b_K_storeRam 7 = .ok (.aload_n 0, 1) := by decide +kernel
theorem d_K_storeRam_8 : decode b_K_storeRam 8 = .ok (.getfield 13, 3) := by decide +kernel
theorem d_K_storeRam_11 : decode b_K_storeRam 11 = .ok (.aload_n 0, 1) := by decide +kernel
theorem d_K_storeRam_12 : decode b_K_storeRam 12 = .ok (.getfield 45, 3) := by decide +kernel
theorem d_K_storeRam_15 : decode b_K_storeRam 15 = .ok (.sipush 256, 3) := by decide +kernel
theorem d_K_storeRam_18 : decode b_K_storeRam 18 = .ok (.imul, 1) := by decide +kernel
theorem d_K_storeRam_19 : decode b_K_storeRam 19 = .ok (.iload_n 1, 1) := by decide +kernel
theorem d_K_storeRam_20 : decode b_K_storeRam 20 = .ok (.sipush 255, 3) := by decide +kernel
theorem d_K_storeRam_23 : decode b_K_storeRam 23 = .ok (.iand, 1) := by decide +kernel
theorem d_K_storeRam_24 : decode b_K_storeRam 24 = .ok (.iadd, 1) := by decide +kernel
theorem d_K_storeRam_25 : decode b_K_storeRam 25 = .ok (.aload_n 0, 1) := by decide +kernel
theorem d_K_storeRam_26 : decode b_K_storeRam 26 = .ok (.getfield 36, 3) := by decide +kernel
theorem d_K_storeRam_29 : decode b_K_storeRam 29 = .ok (.iconst 2, 1) := by decide +kernel
theorem d_K_storeRam_30 : decode b_K_storeRam 30 = .ok (.if_icmp .ne 10, 3) := by decide +kernel
theorem d_K_storeRam_33 : decode b_K_storeRam 33 = .ok (.iload_n 2, 1) := by decide +kernel
theorem d_K_storeRam_34 : decode b_K_storeRam 34 = .ok (.bipush 15, 2) := by decide +kernel
theorem d_K_storeRam_36 : decode b_K_storeRam 36 = .ok (.iand, 1) := by decide +kernel
theorem d_K_storeRam_37 : decode b_K_storeRam 37 = .ok (.goto 4, 3) := by decide +kernel
theorem d_K_storeRam_40 : decode b_K_storeRam 40 = .ok (.iload_n 2, 1) := by decide +kernel
theorem d_K_storeRam_41 : decode b_K_storeRam 41 = .ok (.iastore, 1) := by decide +kernel
theorem d_K_storeRam_42 : decode b_K_storeRam 42 = .ok (.return_, 1) := by decide +kernel
theorem d_P_clearDivider_0 : decode b_P_clearDivider 0 = .ok (.aload_n 0, 1) := by decide +kernel
theorem d_P_clearDivider_1 : decode b_P_clearDivider 1 = .ok (.iconst 0, 1) := by decide +kernel
theorem d_P_clearDivider_2 : decode b_P_clearDivider 2 = .ok (.putfield 23, 3) := by decide +kernel
theorem d_P_clearDivider_5 : decode b_P_clearDivider 5 = .ok (.return_, 1) := by decide +kernel
theorem d_P_store_0 : decode b_P_store 0 = .ok (.iload_n 1, 1) := by decide +kernel
theorem d_P_store_1 : decode b_P_store 1 = .ok (.lookupswitch 136 #[(0, 59), (4, 72), (7, 79), (15, 93), (64, 121), (65, 107)], 59) := by decide +kernel
theorem d_P_store_60 : decode b_P_store 60 = .ok (.aload_n 0, 1) := by decide +kernel
theorem d_P_store_61 : decode b_P_store 61 = .ok (.getfield 7, 3) := by decide +kernel
theorem d_P_store_64 : decode b_P_store 64 = .ok (.iconst 0, 1) := by decide +kernel
theorem d_P_store_65 : decode b_P_store 65 = .ok (.iload_n 2, 1) := by decide +kernel
theorem d_P_store_66 : decode b_P_store 66 = .ok (.bipush 48, 2) := by decide +kernel
theorem d_P_store_68 : decode b_P_store 68 = .ok (.iand, 1) := by decide +kernel
theorem d_P_store_69 : decode b_P_store 69 = .ok (.iastore, 1) := by decide +kernel
theorem d_P_store_70 : decode b_P_store 70 = .ok (.goto 78, 3) := by decide +kernel
theorem d_P_store_73 : decode b_P_store 73 = .ok (.aload_n 0, 1) := by decide +kernel
theorem d_P_store_74 : decode b_P_store 74 = .ok (.invokevirtual 45, 3) := by decide +kernel
theorem d_P_store_77 : decode b_P_store 77 = .ok (.goto 71, 3) := by decide +kernel
theorem d_P_store_80 : decode b_P_store 80 = .ok (.aload_n 0, 1) := by decide +kernel
theorem d_P_store_81 : decode b_P_store 81 = .ok (.getfield 7, 3) := by decide +kernel
theorem d_P_store_84 : decode b_P_store 84 = .ok (.bipush 7, 2) := by decide +kernel
theorem d_P_store_86 : decode b_P_store 86 = .ok (.iload_n 2, 1) := by decide +kernel
theorem d_P_store_87 : decode b_P_store 87 = .ok (.bipush 7, 2) := by decide +kernel
theorem d_P_store_89 : decode b_P_store 89 = .ok (.iand, 1) := by decide +kernel
theorem d_P_store_90 : decode b_P_store 90 = .ok (.iastore, 1) := by decide +kernel
theorem d_P_store_91 : decode b_P_store 91 = .ok (.goto 57, 3) := by decide +kernel
theorem d_P_store_94 : decode b_P_store 94 = .ok (.aload_n 0, 1) := by decide +kernel
theorem d_P_store_95 : decode b_P_store 95 = .ok (.getfield 7, 3) := by decide +kernel
theorem d_P_store_98 : decode b_P_store 98 = .ok (.bipush 15, 2) := by decide +kernel
theorem d_P_store_100 : decode b_P_store 100 = .ok (.iload_n 2, 1) := by decide +kernel
theorem d_P_store_101 : decode b_P_store 101 = .ok (.bipush 31, 2) := by decide +kernel
theorem d_P_store_103 : decode b_P_store 103 = .ok (.iand, 1) := by decide +kernel
theorem d_P_store_104 : decode b_P_store 104 = .ok (.iastore, 1) := by decide +kernel
theorem d_P_store_105 : decode b_P_store 105 = .ok (.goto 43, 3) := by decide +kernel
theorem d_P_store_108 : decode b_P_store 108 = .ok (.aload_n 0, 1) := by decide +kernel
theorem d_P_store_109 : decode b_P_store 109 = .ok (.getfield 7, 3) := by decide +kernel
theorem d_P_store_112 : decode b_P_store 112 = .ok (.bipush 65, 2) := by decide +kernel
theorem d_P_store_114 : decode b_P_store 114 = .ok (.iload_n 2, 1) := by decide +kernel
theorem d_P_store_115 : decode b_P_store 115 = .ok (.bipush 120, 2) := by decide +kernel
theorem d_P_store_117 : decode b_P_store 117 = .ok (.iand, 1) := by decide +kernel
theorem d_P_store_118 : decode b_P_store 118 = .ok (.iastore, 1) := by decide +kernel
theorem d_P_store_119 : decode b_P_store 119 = .ok (.goto 29, 3) := by decide +kernel
theorem d_P_store_122 : decode b_P_store 122 = .ok (.aload_n 0, 1) := by decide +kernel
theorem d_P_store_123 : decode b_P_store 123 = .ok (.getfield 7, 3) := by decide +kernel
theorem d_P_store_126 : decode b_P_store 126 = .ok (.bipush 64, 2) := by decide +kernel
theorem d_P_store_128 : decode b_P_store 128 = .ok (.iload_n 2, 1) := by decide +kernel
theorem d_P_store_129 : decode b_P_store 129 = .ok (.iastore, 1) := by decide +kernel
theorem d_P_store_130 : decode b_P_store 130 = .ok (.aload_n 0, 1) := by decide +kernel
theorem d_P_store_131 : decode b_P_store 131 = .ok (.invokevirtual 36, 3) := by decide +kernel
theorem d_P_store_134 : decode b_P_store 134 = .ok (.goto 14, 3) := by decide +kernel
theorem d_P_store_137 : decode b_P_store 137 = .ok (.aload_n 0, 1) := by decide +kernel
theorem d_P_store_138 : decode b_P_store 138 = .ok (.getfield 7, 3) := by decide +kernel
theorem d_P_store_141 : decode b_P_store 141 = .ok (.iload_n 1, 1) := by decide +kernel
theorem d_P_store_142 : decode b_P_store 142 = .ok (.sipush 255, 3) := by decide +kernel
theorem d_P_store_145 : decode b_P_store 145 = .ok (.iand, 1) := by decide +kernel
theorem d_P_store_146 : decode b_P_store 146 = .ok (.iload_n 2, 1) := by decide +kernel
theorem d_P_store_147 : decode b_P_store 147 = .ok (.iastore, 1) := by decide +kernel
theorem d_P_store_148 : decode b_P_store 148 = .ok (.return_, 1) := by decide +kernel
theorem d_K_loadRom_0 : decode b_K_loadRom 0 = .ok (.iload_n 1, 1) := by decide +kernel
theorem d_K_loadRom_1 : decode b_K_loadRom 1 = .ok (.sipush 16384, 3) := by decide +kernel
theorem d_K_loadRom_4 : decode b_K_loadRom 4 = .ok (.if_icmp .ge 7, 3) := by decide +kernel
theorem d_K_loadRom_7 : decode b_K_loadRom 7 = .ok (.iconst 0, 1) := by decide +kernel
theorem d_K_loadRom_8 : decode b_K_loadRom 8 = .ok (.goto 7, 3) := by decide +kernel
theorem d_K_loadRom_11 : decode b_K_loadRom 11 = .ok (.aload_n 0, 1) := by decide +kernel
theorem d_K_loadRom_12 : decode b_K_loadRom 12 = .ok (.getfield 42, 3) := by decide +kernel
theorem d_K_loadRom_15 : decode b_K_loadRom 15 = .ok (.istore_n 2, 1) := by decide +kernel
theorem d_K_loadRom_16 : decode b_K_loadRom 16 = .ok (.aload_n 0, 1) := by decide +kernel
theorem d_K_loadRom_17 : decode b_K_loadRom 17 = .ok (.getfield 9, 3) := by decide +kernel
theorem d_K_loadRom_20 : decode b_K_loadRom 20 = .ok (.iload_n 2, 1) := by decide +kernel
theorem d_K_loadRom_21 : decode b_K_loadRom 21 = .ok (.sipush 1024, 3) := by decide +kernel
theorem d_K_loadRom_24 : decode b_K_loadRom 24 = .ok (.imul, 1) := by decide +kernel
theorem d_K_loadRom_25 : decode b_K_loadRom 25 = .ok (.iload_n 1, 1) := by decide +kernel
theorem d_K_loadRom_26 : decode b_K_loadRom 26 = .ok (.sipush 1023, 3) := by decide +kernel
theorem d_K_loadRom_29 : decode b_K_loadRom 29 = .ok (.iand, 1) := by decide +kernel
theorem d_K_loadRom_30 : decode b_K_loadRom 30 = .ok (.iadd, 1) := by decide +kernel
theorem d_K_loadRom_31 : decode b_K_loadRom 31 = .ok (.iaload, 1) := by decide +kernel
theorem d_K_loadRom_32 : decode b_K_loadRom 32 = .ok (.ireturn, 1) := by decide +kernel
theorem d_K_loadRam_0 : decode b_K_loadRam 0 = .ok (.aload_n 0, 1) := by decide +kernel
theorem d_K_loadRam_1 : decode b_K_loadRam 1 = .ok (.getfield 39, 3) := by decide +kernel
theorem d_K_loadRam_4 : decode b_K_loadRam 4 = .ok (.ifCond .ne 7, 3) := by decide +kernel
theorem d_K_loadRam_7 : decode b_K_loadRam 7 = .ok (.sipush 255, 3) := by decide +kernel
theorem d_K_loadRam_10 : decode b_K_loadRam 10 = .ok (.ireturn, 1) := by decide +kernel
theorem d_K_loadRam_11 : decode b_K_loadRam 11 = .ok (.aload_n 0, 1) := by decide +kernel
theorem d_K_loadRam_12 : decode b_K_loadRam 12 = .ok (.getfield 13, 3) := by decide +kernel
theorem d_K_loadRam_15 : decode b_K_loadRam 15 = .ok (.aload_n 0, 1) := by decide +kernel
theorem d_K_loadRam_16 : decode b_K_loadRam 16 = .ok (.getfield 45, 3) := by decide +kernel
theorem d_K_loadRam_19 : decode b_K_loadRam 19 = .ok (.sipush 256, 3) := by decide +kernel
theorem d_K_loadRam_22 : decode b_K_loadRam 22 = .ok (.imul, 1) := by decide +kernel
theorem d_K_loadRam_23 : decode b_K_loadRam 23 = .ok (.iload_n 1, 1) := by decide +kernel
theorem d_K_loadRam_24 : decode b_K_loadRam 24 = .ok (.sipush 255, 3) := by decide +kernel
theorem d_K_loadRam_27 : decode b_K_loadRam 27 = .ok (.iand, 1) := by decide +kernel
theorem d_K_loadRam_28 : decode b_K_loadRam 28 = .ok (.iadd, 1) := by decide +kernel
theorem d_K_loadRam_29 : decode b_K_loadRam 29 = .ok (.iaload, 1) := by decide +kernel
theorem d_K_loadRam_30 : decode b_K_loadRam 30 = .ok (.istore_n 2, 1) := by decide +kernel
theorem d_K_loadRam_31 : decode b_K_loadRam 31 = .ok (.aload_n 0, 1) := by decide +kernel
theorem d_K_loadRam_32 : decode b_K_loadRam 32 = .ok (.getfield 36, 3) := by decide +kernel
theorem d_K_loadRam_35 : decode b_K_loadRam 35 = .ok (.iconst 2, 1) := by decide +kernel
theorem d_K_loadRam_36 : decode b_K_loadRam 36 = .ok (.if_icmp .ne 11, 3) := by decide +kernel
theorem d_K_loadRam_39 : decode b_K_loadRam 39 = .ok (.iload_n 2, 1) := by decide +kernel
theorem d_K_loadRam_40 : decode b_K_loadRam 40 = .ok (.sipush 240, 3) := by decide +kernel
theorem d_K_loadRam_43 : decode b_K_loadRam 43 = .ok (.ior, 1) := by decide +kernel
theorem d_K_loadRam_44 : decode b_K_loadRam 44 = .ok (.goto 4, 3) := by decide +kernel
theorem d_K_loadRam_47 : decode b_K_loadRam 47 = .ok (.iload_n 2, 1) := by decide +kernel
theorem d_K_loadRam_48 : decode b_K_loadRam 48 = .ok (.ireturn, 1) := by decide +kernel
theorem d_P_load_0 : decode b_P_load 0 = .ok (.iload_n 1, 1) := by decide +kernel
theorem d_P_load_1 : decode b_P_load 1 = .ok (.lookupswitch 309 #[(0, 163), (4, 220), (5, 298), (6, 298), (7, 232), (15, 244), (64, 298), (65, 256), (66, 298), (67, 298), (68, 293), (69, 298), (70, 298), (71, 298), (72, 298), (73, 298), (74, 298), (75, 298), (255, 298)], 163) := by decide +kernel
theorem d_P_load_164 : decode b_P_load 164 = .ok (.aload_n 0, 1) := by decide +kernel
theorem d_P_load_165 : decode b_P_load 165 = .ok (.getfield 7, 3) := by decide +kernel
theorem d_P_load_168 : decode b_P_load 168 = .ok (.iconst 0, 1) := by decide +kernel
theorem d_P_load_169 : decode b_P_load 169 = .ok (.iaload, 1) := by decide +kernel
theorem d_P_load_170 : decode b_P_load 170 = .ok (.istore_n 2, 1) := by decide +kernel
theorem d_P_load_171 : decode b_P_load 171 = .ok (.iload_n 2, 1) := by decide +kernel
theorem d_P_load_172 : decode b_P_load 172 = .ok (.bipush 16, 2) := by decide +kernel
theorem d_P_load_174 : decode b_P_load 174 = .ok (.iand, 1) := by decide +kernel
theorem d_P_load_175 : decode b_P_load 175 = .ok (.ifCond .ne 13, 3) := by decide +kernel
theorem d_P_load_178 : decode b_P_load 178 = .ok (.aload_n 0, 1) := by decide +kernel
theorem d_P_load_179 : decode b_P_load 179 = .ok (.getfield 39, 3) := by decide +kernel
theorem d_P_load_182 : decode b_P_load 182 = .ok (.bipush 15, 2) := by decide +kernel
theorem d_P_load_184 : decode b_P_load 184 = .ok (.iand, 1) := by decide +kernel
theorem d_P_load_185 : decode b_P_load 185 = .ok (.goto 4, 3) := by decide +kernel
theorem d_P_load_188 : decode b_P_load 188 = .ok (.iconst 0, 1) := by decide +kernel
theorem d_P_load_189 : decode b_P_load 189 = .ok (.iload_n 2, 1) := by decide +kernel
theorem d_P_load_190 : decode b_P_load 190 = .ok (.bipush 32, 2) := by decide +kernel
theorem d_P_load_192 : decode b_P_load 192 = .ok (.iand, 1) := by decide +kernel
theorem d_P_load_193 : decode b_P_load 193 = .ok (.ifCond .ne 12, 3) := by decide +kernel
theorem d_P_load_196 : decode b_P_load 196 = .ok (.aload_n 0, 1) := by decide +kernel
theorem d_P_load_197 : decode b_P_load 197 = .ok (.getfield 39, 3) := by decide +kernel
theorem d_P_load_200 : decode b_P_load 200 = .ok (.iconst 4, 1) := by decide +kernel
theorem d_P_load_201 : decode b_P_load 201 = .ok (.ishr, 1) := by decide +kernel
theorem d_P_load_202 : decode b_P_load 202 = .ok (.goto 4, 3) := by decide +kernel
theorem d_P_load_205 : decode b_P_load 205 = .ok (.iconst 0, 1) := by decide +kernel
theorem d_P_load_206 : decode b_P_load 206 = .ok (.ior, 1) := by decide +kernel
theorem d_P_load_207 : decode b_P_load 207 = .ok (.istore_n 3, 1) := by decide +kernel
theorem d_P_load_208 : decode b_P_load 208 = .ok (.sipush 192, 3) := by decide +kernel
theorem d_P_load_211 : decode b_P_load 211 = .ok (.iload_n 2, 1) := by decide +kernel
theorem d_P_load_212 : decode b_P_load 212 = .ok (.ior, 1) := by decide +kernel
theorem d_P_load_213 : decode b_P_load 213 = .ok (.iload_n 3, 1) := by decide +kernel
theorem d_P_load_214 : decode b_P_load 214 = .ok (.iconst (-1), 1) := by decide +kernel
theorem d_P_load_215 : decode b_P_load 215 = .ok (.ixor, 1) := by decide +kernel
theorem d_P_load_216 : decode b_P_load 216 = .ok (.bipush 15, 2) := by decide +kernel
theorem d_P_load_218 : decode b_P_load 218 = .ok (.iand, 1) := by decide +kernel
theorem d_P_load_219 : decode b_P_load 219 = .ok (.ior, 1) := by decide +kernel
theorem d_P_load_220 : decode b_P_load 220 = .ok (.ireturn, 1) := by decide +kernel
theorem d_P_load_221 : decode b_P_load 221 = .ok (.aload_n 0, 1) := by decide +kernel
theorem d_P_load_222 : decode b_P_load 222 = .ok (.getfield 23, 3) := by decide +kernel
theorem d_P_load_225 : decode b_P_load 225 = .ok (.bipush 6, 2) := by decide +kernel
theorem d_P_load_227 : decode b_P_load 227 = .ok (.ishr, 1) := by decide +kernel
theorem d_P_load_228 : decode b_P_load 228 = .ok (.sipush 255, 3) := by decide +kernel
theorem d_P_load_231 : decode b_P_load 231 = .ok (.iand, 1) := by decide +kernel
theorem d_P_load_232 : decode b_P_load 232 = .ok (.ireturn, 1) := by decide +kernel
theorem d_P_load_233 : decode b_P_load 233 = .ok (.aload_n 0, 1) := by decide +kernel
theorem d_P_load_234 : decode b_P_load 234 = .ok (.getfield 7, 3) := by decide +kernel
theorem d_P_load_237 : decode b_P_load 237 = .ok (.bipush 7, 2) := by decide +kernel
theorem d_P_load_239 : decode b_P_load 239 = .ok (.iaload, 1) := by decide +kernel
theorem d_P_load_240 : decode b_P_load 240 = .ok (.sipush 248, 3) := by decide +kernel
theorem d_P_load_243 : decode b_P_load 243 = .ok (.ior, 1) := by decide +kernel
theorem d_P_load_244 : decode b_P_load 244 = .ok (.ireturn, 1) := by decide +kernel
theorem d_P_load_245 : decode b_P_load 245 = .ok (.aload_n 0, 1) := by decide +kernel
theorem d_P_load_246 : decode b_P_load 246 = .ok (.getfield 7, 3) := by decide +kernel
theorem d_P_load_249 : decode b_P_load 249 = .ok (.bipush 15, 2) := by decide +kernel
theorem d_P_load_251 : decode b_P_load 251 = .ok (.iaload, 1) := by decide +kernel
theorem d_P_load_252 : decode b_P_load 252 = .ok (.sipush 224, 3) := by decide +kernel
theorem d_P_load_255 : decode b_P_load 255 = .ok (.ior, 1) := by decide +kernel
theorem d_P_load_256 : decode b_P_load 256 = .ok (.ireturn, 1) := by decide +kernel
theorem d_P_load_257 : decode b_P_load 257 = .ok (.aload_n 0, 1) := by decide +kernel
theorem d_P_load_258 : decode b_P_load 258 = .ok (.getfield 7, 3) := by decide +kernel
theorem d_P_load_261 : decode b_P_load 261 = .ok (.bipush 65, 2) := by decide +kernel
theorem d_P_load_263 : decode b_P_load 263 = .ok (.iaload, 1) := by decide +kernel
theorem d_P_load_264 : decode b_P_load 264 = .ok (.sipush 128, 3) := by decide +kernel
theorem d_P_load_267 : decode b_P_load 267 = .ok (.ior, 1) := by decide +kernel
theorem d_P_load_268 : decode b_P_load 268 = .ok (.aload_n 0, 1) := by decide +kernel
theorem d_P_load_269 : decode b_P_load 269 = .ok (.getfield 29, 3) := by decide +kernel
theorem d_P_load_272 : decode b_P_load 272 = .ok (.aload_n 0, 1) := by decide +kernel
theorem d_P_load_273 : decode b_P_load 273 = .ok (.getfield 7, 3) := by decide +kernel
theorem d_P_load_276 : decode b_P_load 276 = .ok (.bipush 69, 2) := by decide +kernel
theorem d_P_load_278 : decode b_P_load 278 = .ok (.iaload, 1) := by decide +kernel
theorem d_P_load_279 : decode b_P_load 279 = .ok (.if_icmp .ne 7, 3) := by decide +kernel
theorem d_P_load_282 : decode b_P_load 282 = .ok (.iconst 4, 1) := by decide +kernel
theorem d_P_load_283 : decode b_P_load 283 = .ok (.goto 4, 3) := by decide +kernel
theorem d_P_load_286 : decode b_P_load 286 = .ok (.iconst 0, 1) := by decide +kernel
theorem d_P_load_287 : decode b_P_load 287 = .ok (.ior, 1) := by decide +kernel
theorem d_P_load_288 : decode b_P_load 288 = .ok (.aload_n 0, 1) := by decide +kernel
theorem d_P_load_289 : decode b_P_load 289 = .ok (.getfield 42, 3) := by decide +kernel
theorem d_P_load_292 : decode b_P_load 292 = .ok (.ior, 1) := by decide +kernel
theorem d_P_load_293 : decode b_P_load 293 = .ok (.ireturn, 1) := by decide +kernel
theorem d_P_load_294 : decode b_P_load 294 = .ok (.aload_n 0, 1) := by decide +kernel
theorem d_P_load_295 : decode b_P_load 295 = .ok (.getfield 29, 3) := by decide +kernel
theorem d_P_load_298 : decode b_P_load 298 = .ok (.ireturn, 1) := by decide +kernel
theorem d_P_load_299 : decode b_P_load 299 = .ok (.aload_n 0, 1) := by decide +kernel
theorem d_P_load_300 : decode b_P_load 300 = .ok (.getfield 7, 3) := by decide +kernel
theorem d_P_load_303 : decode b_P_load 303 = .ok (.iload_n 1, 1) := by decide +kernel
theorem d_P_load_304 : decode b_P_load 304 = .ok (.sipush 255, 3) := by decide +kernel
theorem d_P_load_307 : decode b_P_load 307 = .ok (.iand, 1) := by decide +kernel
theorem d_P_load_308 : decode b_P_load 308 = .ok (.iaload, 1) := by decide +kernel
theorem d_P_load_309 : decode b_P_load 309 = .ok (.ireturn, 1) := by decide +kernel
theorem d_P_load_310 : decode b_P_load 310 = .ok (.sipush 255, 3) := by decide +kernel
theorem d_P_load_313 : decode b_P_load 313 = .ok (.ireturn, 1) := by decide +kernel
theorem d_Y_load_0 : decode b_Y_load 0 = .ok (.iload_n 1, 1) := by decide +kernel
theorem d_Y_load_1 : decode b_Y_load 1 = .ok (.ldc 36, 2) := by decide +kernel
theorem d_Y_load_3 : decode b_Y_load 3 = .ok (.if_icmp .ge 12, 3) := by decide +kernel
theorem d_Y_load_6 : decode b_Y_load 6 = .ok (.aload_n 0, 1) := by decide +kernel
theorem d_Y_load_7 : decode b_Y_load 7 = .ok (.getfield 22, 3) := by decide +kernel
theorem d_Y_load_10 : decode b_Y_load 10 = .ok (.iload_n 1, 1) := by decide +kernel
theorem d_Y_load_11 : decode b_Y_load 11 = .ok (.invokevirtual 37, 3) := by decide +kernel
theorem d_Y_load_14 : decode b_Y_load 14 = .ok (.ireturn, 1) := by decide +kernel
theorem d_Y_load_15 : decode b_Y_load 15 = .ok (.iload_n 1, 1) := by decide +kernel
theorem d_Y_load_16 : decode b_Y_load 16 = .ok (.ldc 43, 2) := by decide +kernel
theorem d_Y_load_18 : decode b_Y_load 18 = .ok (.if_icmp .ge 14, 3) := by decide +kernel
theorem d_Y_load_21 : decode b_Y_load 21 = .ok (.aload_n 0, 1) := by decide +kernel
theorem d_Y_load_22 : decode b_Y_load 22 = .ok (.getfield 7, 3) := by decide +kernel
theorem d_Y_load_25 : decode b_Y_load 25 = .ok (.iload_n 1, 1) := by decide +kernel
theorem d_Y_load_26 : decode b_Y_load 26 = .ok (.sipush 8191, 3) := by decide +kernel
theorem d_Y_load_29 : decode b_Y_load 29 = .ok (.iand, 1) := by decide +kernel
theorem d_Y_load_30 : decode b_Y_load 30 = .ok (.iaload, 1) := by decide +kernel
theorem d_Y_load_31 : decode b_Y_load 31 = .ok (.ireturn, 1) := by decide +kernel
theorem d_Y_load_32 : decode b_Y_load 32 = .ok (.iload_n 1, 1) := by decide +kernel
theorem d_Y_load_33 : decode b_Y_load 33 = .ok (.ldc 44, 2) := by decide +kernel
theorem d_Y_load_35 : decode b_Y_load 35 = .ok (.if_icmp .ge 12, 3) := by decide +kernel
theorem d_Y_load_38 : decode b_Y_load 38 = .ok (.aload_n 0, 1) := by decide +kernel
theorem d_Y_load_39 : decode b_Y_load 39 = .ok (.getfield 22, 3) := by decide +kernel
theorem d_Y_load_42 : decode b_Y_load 42 = .ok (.iload_n 1, 1) := by decide +kernel
theorem d_Y_load_43 : decode b_Y_load 43 = .ok (.invokevirtual 45, 3) := by decide +kernel
theorem d_Y_load_46 : decode b_Y_load 46 = .ok (.ireturn, 1) := by decide +kernel
theorem d_Y_load_47 : decode b_Y_load 47 = .ok (.iload_n 1, 1) := by decide +kernel
theorem d_Y_load_48 : decode b_Y_load 48 = .ok (.ldc 48, 2) := by decide +kernel
theorem d_Y_load_50 : decode b_Y_load 50 = .ok (.if_icmp .ge 14, 3) := by decide +kernel
theorem d_Y_load_53 : decode b_Y_load 53 = .ok (.aload_n 0, 1) := by decide +kernel
theorem d_Y_load_54 : decode b_Y_load 54 = .ok (.getfield 16, 3) := by decide +kernel
theorem d_Y_load_57 : decode b_Y_load 57 = .ok (.iload_n 1, 1) := by decide +kernel
theorem d_Y_load_58 : decode b_Y_load 58 = .ok (.sipush 1023, 3) := by decide +kernel
theorem d_Y_load_61 : decode b_Y_load 61 = .ok (.iand, 1) := by decide +kernel
theorem d_Y_load_62 : decode b_Y_load 62 = .ok (.iaload, 1) := by decide +kernel
theorem d_Y_load_63 : decode b_Y_load 63 = .ok (.ireturn, 1) := by decide +kernel
theorem d_Y_load_64 : decode b_Y_load 64 = .ok (.iload_n 1, 1) := by decide +kernel
theorem d_Y_load_65 : decode b_Y_load 65 = .ok (.ldc 49, 2) := by decide +kernel
theorem d_Y_load_67 : decode b_Y_load 67 = .ok (.if_icmp .ge 13, 3) := by decide +kernel
theorem d_Y_load_70 : decode b_Y_load 70 = .ok (.aload_n 0, 1) := by decide +kernel
theorem d_Y_load_71 : decode b_Y_load 71 = .ok (.getfield 13, 3) := by decide +kernel
theorem d_Y_load_74 : decode b_Y_load 74 = .ok (.iload_n 1, 1) := by decide +kernel
theorem d_Y_load_75 : decode b_Y_load 75 = .ok (.ldc 48, 2) := by decide +kernel
theorem d_Y_load_77 : decode b_Y_load 77 = .ok (.isub, 1) := by decide +kernel
theorem d_Y_load_78 : decode b_Y_load 78 = .ok (.iaload, 1) := by decide +kernel
theorem d_Y_load_79 : decode b_Y_load 79 = .ok (.ireturn, 1) := by decide +kernel
theorem d_Y_load_80 : decode b_Y_load 80 = .ok (.iload_n 1, 1) := by decide +kernel
theorem d_Y_load_81 : decode b_Y_load 81 = .ok (.ldc 50, 2) := by decide +kernel
theorem d_Y_load_83 : decode b_Y_load 83 = .ok (.if_icmp .ge 7, 3) := by decide +kernel
theorem d_Y_load_86 : decode b_Y_load 86 = .ok (.sipush 255, 3) := by decide +kernel
theorem d_Y_load_89 : decode b_Y_load 89 = .ok (.ireturn, 1) := by decide +kernel
theorem d_Y_load_90 : decode b_Y_load 90 = .ok (.iload_n 1, 1) := by decide +kernel
theorem d_Y_load_91 : decode b_Y_load 91 = .ok (.ldc 51, 2) := by decide +kernel
theorem d_Y_load_93 : decode b_Y_load 93 = .ok (.if_icmp .lt 9, 3) := by decide +kernel
theorem d_Y_load_96 : decode b_Y_load 96 = .ok (.iload_n 1, 1) := by decide +kernel
theorem d_Y_load_97 : decode b_Y_load 97 = .ok (.ldc 52, 2) := by decide +kernel
theorem d_Y_load_99 : decode b_Y_load 99 = .ok (.if_icmp .ne 16, 3) := by decide +kernel
theorem d_Y_load_102 : decode b_Y_load 102 = .ok (.aload_n 0, 1) := by decide +kernel
theorem d_Y_load_103 : decode b_Y_load 103 = .ok (.getfield 26, 3) := by decide +kernel
theorem d_Y_load_106 : decode b_Y_load 106 = .ok (.iload_n 1, 1) := by decide +kernel
theorem d_Y_load_107 : decode b_Y_load 107 = .ok (.sipush 255, 3) := by decide +kernel
theorem d_Y_load_110 : decode b_Y_load 110 = .ok (.iand, 1) := by decide +kernel
theorem d_Y_load_111 : decode b_Y_load 111 = .ok (.invokevirtual 53, 3) := by decide +kernel
theorem d_Y_load_114 : decode b_Y_load 114 = .ok (.ireturn, 1) := by decide +kernel
theorem d_Y_load_115 : decode b_Y_load 115 = .ok (.aload_n 0, 1) := by decide +kernel
theorem d_Y_load_116 : decode b_Y_load 116 = .ok (.getfield 19, 3) := by decide +kernel
theorem d_Y_load_119 : decode b_Y_load 119 = .ok (.iload_n 1, 1) := by decide +kernel
theorem d_Y_load_120 : decode b_Y_load 120 = .ok (.bipush 127, 2) := by decide +kernel
theorem d_Y_load_122 : decode b_Y_load 122 = .ok (.iand, 1) := by decide +kernel
theorem d_Y_load_123 : decode b_Y_load 123 = .ok (.iaload, 1) := by decide +kernel
theorem d_Y_load_124 : decode b_Y_load 124 = .ok (.ireturn, 1) := by decide +kernel
