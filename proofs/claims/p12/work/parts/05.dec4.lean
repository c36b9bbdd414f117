theorem d_S_chooseSprites_0 : decode b_S_chooseSprites 0 = .ok (.aload_n 0, 1) := by decide +kernel
theorem d_S_chooseSprites_1 : decode b_S_chooseSprites 1 = .ok (.iconst 4, 1) := by decide +kernel
theorem d_S_chooseSprites_2 : decode b_S_chooseSprites 2 = .ok (.invokevirtual 37, 3) := by decide +kernel
theorem d_S_chooseSprites_5 : decode b_S_chooseSprites 5 = .ok (.ifCond .eq 8, 3) := by decide +kernel
theorem d_S_chooseSprites_8 : decode b_S_chooseSprites 8 = .ok (.bipush 16, 2) := by decide +kernel
theorem d_S_chooseSprites_10 : decode b_S_chooseSprites 10 = .ok (.goto 5, 3) := by decide +kernel
theorem d_S_chooseSprites_13 : decode b_S_chooseSprites 13 = .ok (.bipush 8, 2) := by decide +kernel
theorem d_S_chooseSprites_15 : decode b_S_chooseSprites 15 = .ok (.istore_n 2, 1) := by decide +kernel
theorem d_S_chooseSprites_16 : decode b_S_chooseSprites 16 = .ok (.iconst 0, 1) := by decide +kernel
theorem d_S_chooseSprites_17 : decode b_S_chooseSprites 17 = .ok (.istore_n 3, 1) := by decide +kernel
theorem d_S_chooseSprites_18 : decode b_S_chooseSprites 18 = .ok (.iconst 0, 1) := by decide +kernel
theorem d_S_chooseSprites_19 : decode b_S_chooseSprites 19 = .ok (.istore 4, 2) := by decide +kernel
theorem d_S_chooseSprites_21 : decode b_S_chooseSprites 21 = .ok (.iload 4, 2) := by decide +kernel
theorem d_S_chooseSprites_23 : decode b_S_chooseSprites 23 = .ok (.bipush 40, 2) := by decide +kernel
theorem d_S_chooseSprites_25 : decode b_S_chooseSprites 25 = .ok (.if_icmp .ge 56, 3) := by decide +kernel
theorem d_S_chooseSprites_28 : decode b_S_chooseSprites 28 = .ok (.iload_n 3, 1) := by decide +kernel
theorem d_S_chooseSprites_29 : decode b_S_chooseSprites 29 = .ok (.bipush 10, 2) := by decide +kernel
theorem d_S_chooseSprites_31 : decode b_S_chooseSprites 31 = .ok (.if_icmp .ge 50, 3) := by decide +kernel
theorem d_S_chooseSprites_34 : decode b_S_chooseSprites 34 = .ok (.iload_n 1, 1) := by decide +kernel
theorem d_S_chooseSprites_35 : decode b_S_chooseSprites 35 = .ok (.aload_n 0, 1) := by decide +kernel
theorem d_S_chooseSprites_36 : decode b_S_chooseSprites 36 = .ok (.getfield 25, 3) := by decide +kernel
theorem d_S_chooseSprites_39 : decode b_S_chooseSprites 39 = .ok (.iconst 4, 1) := by decide +kernel
theorem d_S_chooseSprites_40 : decode b_S_chooseSprites 40 = .ok (.iload 4, 2) := by decide +kernel
theorem d_S_chooseSprites_42 : decode b_S_chooseSprites 42 = .ok (.imul, 1) := by decide +kernel
theorem d_S_chooseSprites_43 : decode b_S_chooseSprites 43 = .ok (.iaload, 1) := by decide +kernel
theorem d_S_chooseSprites_44 : decode b_S_chooseSprites 44 = .ok (.bipush 16, 2) := by decide +kernel
theorem d_S_chooseSprites_46 : decode b_S_chooseSprites 46 = .ok (.isub, 1) := by decide +kernel
theorem d_S_chooseSprites_47 : decode b_S_chooseSprites 47 = .ok (.isub, 1) := by decide +kernel
theorem d_S_chooseSprites_48 : decode b_S_chooseSprites 48 = .ok (.istore 5, 2) := by decide +kernel
theorem d_S_chooseSprites_50 : decode b_S_chooseSprites 50 = .ok (.iload 5, 2) := by decide +kernel
theorem d_S_chooseSprites_52 : decode b_S_chooseSprites 52 = .ok (.ifCond .lt 23, 3) := by decide +kernel
theorem d_S_chooseSprites_55 : decode b_S_chooseSprites 55 = .ok (.iload 5, 2) := by decide +kernel
theorem d_S_chooseSprites_57 : decode b_S_chooseSprites 57 = .ok (.iload_n 2, 1) := by decide +kernel
theorem d_S_chooseSprites_58 : decode b_S_chooseSprites 58 = .ok (.if_icmp .ge 17, 3) := by decide +kernel
theorem d_S_chooseSprites_61 : decode b_S_chooseSprites 61 = .ok (.aload_n 0, 1) := by decide +kernel
theorem d_S_chooseSprites_62 : decode b_S_chooseSprites 62 = .ok (.iconst 4, 1) := by decide +kernel
theorem d_S_chooseSprites_63 : decode b_S_chooseSprites 63 = .ok (.iload 4, 2) := by decide +kernel
theorem d_S_chooseSprites_65 : decode b_S_chooseSprites 65 = .ok (.imul, 1) := by decide +kernel
theorem d_S_chooseSprites_66 : decode b_S_chooseSprites 66 = .ok (.iload 5, 2) := by decide +kernel
theorem d_S_chooseSprites_68 : decode b_S_chooseSprites 68 = .ok (.iload_n 2, 1) := by decide +kernel
theorem d_S_chooseSprites_69 : decode b_S_chooseSprites 69 = .ok (.invokevirtual 61, 3) := by decide +kernel
theorem d_S_chooseSprites_72 : decode b_S_chooseSprites 72 = .ok (.iinc 3 1, 3) := by decide +kernel
theorem d_S_chooseSprites_75 : decode b_S_chooseSprites 75 = .ok (.iinc 4 1, 3) := by decide +kernel
theorem d_S_chooseSprites_78 : decode b_S_chooseSprites 78 = .ok (.goto (-57), 3) := by decide +kernel
theorem d_S_chooseSprites_81 : decode b_S_chooseSprites 81 = .ok (.return_, 1) := by decide +kernel
theorem d_S_mapNumber_0 : decode b_S_mapNumber 0 = .ok (.aload_n 0, 1) := by decide +kernel
theorem d_S_mapNumber_1 : decode b_S_mapNumber 1 = .ok (.getfield 22, 3) := by decide +kernel
theorem d_S_mapNumber_4 : decode b_S_mapNumber 4 = .ok (.iload_n 1, 1) := by decide +kernel
theorem d_S_mapNumber_5 : decode b_S_mapNumber 5 = .ok (.ifCond .eq 9, 3) := by decide +kernel
theorem d_S_mapNumber_8 : decode b_S_mapNumber 8 = .ok (.sipush 7168, 3) := by decide +kernel
theorem d_S_mapNumber_11 : decode b_S_mapNumber 11 = .ok (.goto 6, 3) := by decide +kernel
theorem d_S_mapNumber_14 : decode b_S_mapNumber 14 = .ok (.sipush 6144, 3) := by decide +kernel
theorem d_S_mapNumber_17 : decode b_S_mapNumber 17 = .ok (.bipush 32, 2) := by decide +kernel
theorem d_S_mapNumber_19 : decode b_S_mapNumber 19 = .ok (.iload_n 3, 1) := by decide +kernel
theorem d_S_mapNumber_20 : decode b_S_mapNumber 20 = .ok (.iconst 3, 1) := by decide +kernel
theorem d_S_mapNumber_21 : decode b_S_mapNumber 21 = .ok (.ishr, 1) := by decide +kernel
theorem d_S_mapNumber_22 : decode b_S_mapNumber 22 = .ok (.bipush 31, 2) := by decide +kernel
theorem d_S_mapNumber_24 : decode b_S_mapNumber 24 = .ok (.iand, 1) := by decide +kernel
theorem d_S_mapNumber_25 : decode b_S_mapNumber 25 = .ok (.imul, 1) := by decide +kernel
theorem d_S_mapNumber_26 : decode b_S_mapNumber 26 = .ok (.iadd, 1) := by decide +kernel
theorem d_S_mapNumber_27 : decode b_S_mapNumber 27 = .ok (.iload_n 2, 1) := by decide +kernel
theorem d_S_mapNumber_28 : decode b_S_mapNumber 28 = .ok (.iconst 3, 1) := by decide +kernel
theorem d_S_mapNumber_29 : decode b_S_mapNumber 29 = .ok (.ishr, 1) := by decide +kernel
theorem d_S_mapNumber_30 : decode b_S_mapNumber 30 = .ok (.bipush 31, 2) := by decide +kernel
theorem d_S_mapNumber_32 : decode b_S_mapNumber 32 = .ok (.iand, 1) := by decide +kernel
theorem d_S_mapNumber_33 : decode b_S_mapNumber 33 = .ok (.iadd, 1) := by decide +kernel
theorem d_S_mapNumber_34 : decode b_S_mapNumber 34 = .ok (.iaload, 1) := by decide +kernel
theorem d_S_mapNumber_35 : decode b_S_mapNumber 35 = .ok (.istore 4, 2) := by decide +kernel
theorem d_S_mapNumber_37 : decode b_S_mapNumber 37 = .ok (.aload_n 0, 1) := by decide +kernel
theorem d_S_mapNumber_38 : decode b_S_mapNumber 38 = .ok (.bipush 16, 2) := by decide +kernel
theorem d_S_mapNumber_40 : decode b_S_mapNumber 40 = .ok (.invokevirtual 37, 3) := by decide +kernel
theorem d_S_mapNumber_43 : decode b_S_mapNumber 43 = .ok (.ifCond .eq 11, 3) := by decide +kernel
theorem d_S_mapNumber_46 : decode b_S_mapNumber 46 = .ok (.bipush 16, 2) := by decide +kernel
theorem d_S_mapNumber_48 : decode b_S_mapNumber 48 = .ok (.iload 4, 2) := by decide +kernel
theorem d_S_mapNumber_50 : decode b_S_mapNumber 50 = .ok (.imul, 1) := by decide +kernel
theorem d_S_mapNumber_51 : decode b_S_mapNumber 51 = .ok (.goto 13, 3) := by decide +kernel
theorem d_S_mapNumber_54 : decode b_S_mapNumber 54 = .ok (.sipush 4096, 3) := by decide +kernel
theorem d_S_mapNumber_57 : decode b_S_mapNumber 57 = .ok (.bipush 16, 2) := by decide +kernel
theorem d_S_mapNumber_59 : decode b_S_mapNumber 59 = .ok (.iload 4, 2) := by decide +kernel
theorem d_S_mapNumber_61 : decode b_S_mapNumber 61 = .ok (.i2b, 1) := by decide +kernel
theorem d_S_mapNumber_62 : decode b_S_mapNumber 62 = .ok (.imul, 1) := by decide +kernel
theorem d_S_mapNumber_63 : decode b_S_mapNumber 63 = .ok (.iadd, 1) := by decide +kernel
theorem d_S_mapNumber_64 : decode b_S_mapNumber 64 = .ok (.istore 5, 2) := by decide +kernel
theorem d_S_mapNumber_66 : decode b_S_mapNumber 66 = .ok (.aload_n 0, 1) := by decide +kernel
theorem d_S_mapNumber_67 : decode b_S_mapNumber 67 = .ok (.iload 5, 2) := by decide +kernel
theorem d_S_mapNumber_69 : decode b_S_mapNumber 69 = .ok (.iconst 2, 1) := by decide +kernel
theorem d_S_mapNumber_70 : decode b_S_mapNumber 70 = .ok (.iload_n 3, 1) := by decide +kernel
theorem d_S_mapNumber_71 : decode b_S_mapNumber 71 = .ok (.bipush 7, 2) := by decide +kernel
theorem d_S_mapNumber_73 : decode b_S_mapNumber 73 = .ok (.iand, 1) := by decide +kernel
theorem d_S_mapNumber_74 : decode b_S_mapNumber 74 = .ok (.imul, 1) := by decide +kernel
theorem d_S_mapNumber_75 : decode b_S_mapNumber 75 = .ok (.iadd, 1) := by decide +kernel
theorem d_S_mapNumber_76 : decode b_S_mapNumber 76 = .ok (.bipush 7, 2) := by decide +kernel
theorem d_S_mapNumber_78 : decode b_S_mapNumber 78 = .ok (.iload_n 2, 1) := by decide +kernel
theorem d_S_mapNumber_79 : decode b_S_mapNumber 79 = .ok (.bipush 7, 2) := by decide +kernel
theorem d_S_mapNumber_81 : decode b_S_mapNumber 81 = .ok (.iand, 1) := by decide +kernel
theorem d_S_mapNumber_82 : decode b_S_mapNumber 82 = .ok (.isub, 1) := by decide +kernel
theorem d_S_mapNumber_83 : decode b_S_mapNumber 83 = .ok (.invokevirtual 58, 3) := by decide +kernel
theorem d_S_mapNumber_86 : decode b_S_mapNumber 86 = .ok (.ireturn, 1) := by decide +kernel
theorem d_S_backgroundNumber_0 : decode b_S_backgroundNumber 0 = .ok (.aload_n 0, 1) := by decide +kernel
theorem d_S_backgroundNumber_1 : decode b_S_backgroundNumber 1 = .ok (.iconst 1, 1) := by decide +kernel
theorem d_S_backgroundNumber_2 : decode b_S_backgroundNumber 2 = .ok (.invokevirtual 37, 3) := by decide +kernel
theorem d_S_backgroundNumber_5 : decode b_S_backgroundNumber 5 = .ok (.ifCond .ne 5, 3) := by decide +kernel
theorem d_S_backgroundNumber_8 : decode b_S_backgroundNumber 8 = .ok (.iconst 0, 1) := by decide +kernel
theorem d_S_backgroundNumber_9 : decode b_S_backgroundNumber 9 = .ok (.ireturn, 1) := by decide +kernel
theorem d_S_backgroundNumber_10 : decode b_S_backgroundNumber 10 = .ok (.aload_n 0, 1) := by decide +kernel
theorem d_S_backgroundNumber_11 : decode b_S_backgroundNumber 11 = .ok (.getfield 28, 3) := by decide +kernel
theorem d_S_backgroundNumber_14 : decode b_S_backgroundNumber 14 = .ok (.bipush 75, 2) := by decide +kernel
theorem d_S_backgroundNumber_16 : decode b_S_backgroundNumber 16 = .ok (.iaload, 1) := by decide +kernel
theorem d_S_backgroundNumber_17 : decode b_S_backgroundNumber 17 = .ok (.istore_n 3, 1) := by decide +kernel
theorem d_S_backgroundNumber_18 : decode b_S_backgroundNumber 18 = .ok (.aload_n 0, 1) := by decide +kernel
theorem d_S_backgroundNumber_19 : decode b_S_backgroundNumber 19 = .ok (.getfield 28, 3) := by decide +kernel
theorem d_S_backgroundNumber_22 : decode b_S_backgroundNumber 22 = .ok (.bipush 74, 2) := by decide +kernel
theorem d_S_backgroundNumber_24 : decode b_S_backgroundNumber 24 = .ok (.iaload, 1) := by decide +kernel
theorem d_S_backgroundNumber_25 : decode b_S_backgroundNumber 25 = .ok (.istore 4, 2) := by decide +kernel
theorem d_S_backgroundNumber_27 : decode b_S_backgroundNumber 27 = .ok (.aload_n 0, 1) := by decide +kernel
theorem d_S_backgroundNumber_28 : decode b_S_backgroundNumber 28 = .ok (.bipush 32, 2) := by decide +kernel
theorem d_S_backgroundNumber_30 : decode b_S_backgroundNumber 30 = .ok (.invokevirtual 37, 3) := by decide +kernel
theorem d_S_backgroundNumber_33 : decode b_S_backgroundNumber 33 = .ok (.ifCond .eq 38, 3) := by decide +kernel
theorem d_S_backgroundNumber_36 : decode b_S_backgroundNumber 36 = .ok (.iload_n 2, 1) := by decide +kernel
theorem d_S_backgroundNumber_37 : decode b_S_backgroundNumber 37 = .ok (.iload 4, 2) := by decide +kernel
theorem d_S_backgroundNumber_39 : decode b_S_backgroundNumber 39 = .ok (.if_icmp .lt 32, 3) := by decide +kernel
theorem d_S_backgroundNumber_42 : decode b_S_backgroundNumber 42 = .ok (.iload_n 1, 1) := by decide +kernel
theorem d_S_backgroundNumber_43 : decode b_S_backgroundNumber 43 = .ok (.bipush 7, 2) := by decide +kernel
theorem d_S_backgroundNumber_45 : decode b_S_backgroundNumber 45 = .ok (.iadd, 1) := by decide +kernel
theorem d_S_backgroundNumber_46 : decode b_S_backgroundNumber 46 = .ok (.iload_n 3, 1) := by decide +kernel
theorem d_S_backgroundNumber_47 : decode b_S_backgroundNumber 47 = .ok (.if_icmp .lt 24, 3) := by decide +kernel
theorem d_S_backgroundNumber_50 : decode b_S_backgroundNumber 50 = .ok (.aload_n 0, 1) := by decide +kernel
theorem d_S_backgroundNumber_51 : decode b_S_backgroundNumber 51 = .ok (.aload_n 0, 1) := by decide +kernel
theorem d_S_backgroundNumber_52 : decode b_S_backgroundNumber 52 = .ok (.bipush 64, 2) := by decide +kernel
theorem d_S_backgroundNumber_54 : decode b_S_backgroundNumber 54 = .ok (.invokevirtual 37, 3) := by decide +kernel
theorem d_S_backgroundNumber_57 : decode b_S_backgroundNumber 57 = .ok (.iload_n 1, 1) := by decide +kernel
theorem d_S_backgroundNumber_58 : decode b_S_backgroundNumber 58 = .ok (.bipush 7, 2) := by decide +kernel
theorem d_S_backgroundNumber_60 : decode b_S_backgroundNumber 60 = .ok (.iadd, 1) := by decide +kernel
theorem d_S_backgroundNumber_61 : decode b_S_backgroundNumber 61 = .ok (.iload_n 3, 1) := by decide +kernel
theorem d_S_backgroundNumber_62 : decode b_S_backgroundNumber 62 = .ok (.isub, 1) := by decide +kernel
theorem d_S_backgroundNumber_63 : decode b_S_backgroundNumber 63 = .ok (.iload_n 2, 1) := by decide +kernel
theorem d_S_backgroundNumber_64 : decode b_S_backgroundNumber 64 = .ok (.iload 4, 2) := by decide +kernel
theorem d_S_backgroundNumber_66 : decode b_S_backgroundNumber 66 = .ok (.isub, 1) := by decide +kernel
theorem d_S_backgroundNumber_67 : decode b_S_backgroundNumber 67 = .ok (.invokevirtual 54, 3) := by decide +kernel
theorem d_S_backgroundNumber_70 : decode b_S_backgroundNumber 70 = .ok (.ireturn, 1) := by decide +kernel
theorem d_S_backgroundNumber_71 : decode b_S_backgroundNumber 71 = .ok (.aload_n 0, 1) := by decide +kernel
theorem d_S_backgroundNumber_72 : decode b_S_backgroundNumber 72 = .ok (.aload_n 0, 1) := by decide +kernel
theorem d_S_backgroundNumber_73 : decode b_S_backgroundNumber 73 = .ok (.bipush 8, 2) := by decide +kernel
theorem d_S_backgroundNumber_75 : decode b_S_backgroundNumber 75 = .ok (.invokevirtual 37, 3) := by decide +kernel
theorem d_S_backgroundNumber_78 : decode b_S_backgroundNumber 78 = .ok (.iload_n 1, 1) := by decide +kernel
theorem d_S_backgroundNumber_79 : decode b_S_backgroundNumber 79 = .ok (.aload_n 0, 1) := by decide +kernel
theorem d_S_backgroundNumber_80 : decode b_S_backgroundNumber 80 = .ok (.getfield 28, 3) := by decide +kernel
theorem d_S_backgroundNumber_83 : decode b_S_backgroundNumber 83 = .ok (.bipush 67, 2) := by decide +kernel
theorem d_S_backgroundNumber_85 : decode b_S_backgroundNumber 85 = .ok (.iaload, 1) := by decide +kernel
theorem d_S_backgroundNumber_86 : decode b_S_backgroundNumber 86 = .ok (.iadd, 1) := by decide +kernel
theorem d_S_backgroundNumber_87 : decode b_S_backgroundNumber 87 = .ok (.sipush 255, 3) := by decide +kernel
theorem d_S_backgroundNumber_90 : decode b_S_backgroundNumber 90 = .ok (.iand, 1) := by decide +kernel
theorem d_S_backgroundNumber_91 : decode b_S_backgroundNumber 91 = .ok (.iload_n 2, 1) := by decide +kernel
theorem d_S_backgroundNumber_92 : decode b_S_backgroundNumber 92 = .ok (.aload_n 0, 1) := by decide +kernel
theorem d_S_backgroundNumber_93 : decode b_S_backgroundNumber 93 = .ok (.getfield 28, 3) := by decide +kernel
theorem d_S_backgroundNumber_96 : decode b_S_backgroundNumber 96 = .ok (.bipush 66, 2) := by decide +kernel
theorem d_S_backgroundNumber_98 : decode b_S_backgroundNumber 98 = .ok (.iaload, 1) := by decide +kernel
theorem d_S_backgroundNumber_99 : decode b_S_backgroundNumber 99 = .ok (.iadd, 1) := by decide +kernel
theorem d_S_backgroundNumber_100 : decode b_S_backgroundNumber 100 = .ok (.sipush 255, 3) := by decide +kernel
theorem d_S_backgroundNumber_103 : decode b_S_backgroundNumber 103 = .ok (.iand, 1) := by decide +kernel
theorem d_S_backgroundNumber_104 : decode b_S_backgroundNumber 104 = .ok (.invokevirtual 54, 3) := by decide +kernel
theorem d_S_backgroundNumber_107 : decode b_S_backgroundNumber 107 = .ok (.ireturn, 1) := by decide +kernel
theorem d_S_colour_0 : decode b_S_colour 0 = .ok (.aload_n 0, 1) := by decide +kernel
theorem d_S_colour_1 : decode b_S_colour 1 = .ok (.getfield 13, 3) := by decide +kernel
theorem d_S_colour_4 : decode b_S_colour 4 = .ok (.iload_n 1, 1) := by decide +kernel
theorem d_S_colour_5 : decode b_S_colour 5 = .ok (.iaload, 1) := by decide +kernel
theorem d_S_colour_6 : decode b_S_colour 6 = .ok (.istore_n 3, 1) := by decide +kernel
theorem d_S_colour_7 : decode b_S_colour 7 = .ok (.aload_n 0, 1) := by decide +kernel
theorem d_S_colour_8 : decode b_S_colour 8 = .ok (.getfield 19, 3) := by decide +kernel
theorem d_S_colour_11 : decode b_S_colour 11 = .ok (.iload_n 1, 1) := by decide +kernel
theorem d_S_colour_12 : decode b_S_colour 12 = .ok (.iaload, 1) := by decide +kernel
theorem d_S_colour_13 : decode b_S_colour 13 = .ok (.istore 4, 2) := by decide +kernel
theorem d_S_colour_15 : decode b_S_colour 15 = .ok (.iload_n 3, 1) := by decide +kernel
theorem d_S_colour_16 : decode b_S_colour 16 = .ok (.ifCond .eq 16, 3) := by decide +kernel
theorem d_S_colour_19 : decode b_S_colour 19 = .ok (.iload 4, 2) := by decide +kernel
theorem d_S_colour_21 : decode b_S_colour 21 = .ok (.sipush 128, 3) := by decide +kernel
theorem d_S_colour_24 : decode b_S_colour 24 = .ok (.iand, 1) := by decide +kernel
theorem d_S_colour_25 : decode b_S_colour 25 = .ok (.ifCond .eq 21, 3) := by decide +kernel
theorem d_S_colour_28 : decode b_S_colour 28 = .ok (.iload_n 2, 1) := by decide +kernel
theorem d_S_colour_29 : decode b_S_colour 29 = .ok (.ifCond .eq 17, 3) := by decide +kernel
theorem d_S_colour_32 : decode b_S_colour 32 = .ok (.aload_n 0, 1) := by decide +kernel
theorem d_S_colour_33 : decode b_S_colour 33 = .ok (.getfield 28, 3) := by decide +kernel
theorem d_S_colour_36 : decode b_S_colour 36 = .ok (.bipush 71, 2) := by decide +kernel
theorem d_S_colour_38 : decode b_S_colour 38 = .ok (.iaload, 1) := by decide +kernel
theorem d_S_colour_39 : decode b_S_colour 39 = .ok (.iconst 2, 1) := by decide +kernel
theorem d_S_colour_40 : decode b_S_colour 40 = .ok (.iload_n 2, 1) := by decide +kernel
theorem d_S_colour_41 : decode b_S_colour 41 = .ok (.imul, 1) := by decide +kernel
theorem d_S_colour_42 : decode b_S_colour 42 = .ok (.ishr, 1) := by decide +kernel
theorem d_S_colour_43 : decode b_S_colour 43 = .ok (.iconst 3, 1) := by decide +kernel
theorem d_S_colour_44 : decode b_S_colour 44 = .ok (.iand, 1) := by decide +kernel
theorem d_S_colour_45 : decode b_S_colour 45 = .ok (.ireturn, 1) := by decide +kernel
theorem d_S_colour_46 : decode b_S_colour 46 = .ok (.aload_n 0, 1) := by decide +kernel
theorem d_S_colour_47 : decode b_S_colour 47 = .ok (.getfield 28, 3) := by decide +kernel
theorem d_S_colour_50 : decode b_S_colour 50 = .ok (.bipush 72, 2) := by decide +kernel
theorem d_S_colour_52 : decode b_S_colour 52 = .ok (.iload 4, 2) := by decide +kernel
theorem d_S_colour_54 : decode b_S_colour 54 = .ok (.iconst 4, 1) := by decide +kernel
theorem d_S_colour_55 : decode b_S_colour 55 = .ok (.ishr, 1) := by decide +kernel
theorem d_S_colour_56 : decode b_S_colour 56 = .ok (.iconst 1, 1) := by decide +kernel
theorem d_S_colour_57 : decode b_S_colour 57 = .ok (.iand, 1) := by decide +kernel
theorem d_S_colour_58 : decode b_S_colour 58 = .ok (.iadd, 1) := by decide +kernel
theorem d_S_colour_59 : decode b_S_colour 59 = .ok (.iaload, 1) := by decide +kernel
theorem d_S_colour_60 : decode b_S_colour 60 = .ok (.iconst 2, 1) := by decide +kernel
theorem d_S_colour_61 : decode b_S_colour 61 = .ok (.iload_n 3, 1) := by decide +kernel
theorem d_S_colour_62 : decode b_S_colour 62 = .ok (.imul, 1) := by decide +kernel
theorem d_S_colour_63 : decode b_S_colour 63 = .ok (.ishr, 1) := by decide +kernel
theorem d_S_colour_64 : decode b_S_colour 64 = .ok (.iconst 3, 1) := by decide +kernel
theorem d_S_colour_65 : decode b_S_colour 65 = .ok (.iand, 1) := by decide +kernel
theorem d_S_colour_66 : decode b_S_colour 66 = .ok (.ireturn, 1) := by decide +kernel
theorem d_S_make_0 : decode b_S_make 0 = .ok (.aload_n 0, 1) := by decide +kernel
theorem d_S_make_1 : decode b_S_make 1 = .ok (.sipush 128, 3) := by decide +kernel
theorem d_S_make_4 : decode b_S_make 4 = .ok (.invokevirtual 37, 3) := by decide +kernel
theorem d_S_make_7 : decode b_S_make 7 = .ok (.ifCond .ne 13, 3) := by decide +kernel
theorem d_S_make_10 : decode b_S_make 10 = .ok (.aload_n 0, 1) := by decide +kernel
theorem d_S_make_11 : decode b_S_make 11 = .ok (.getfield 9, 3) := by decide +kernel
theorem d_S_make_14 : decode b_S_make 14 = .ok (.iconst 0, 1) := by decide +kernel
theorem d_S_make_15 : decode b_S_make 15 = .ok (.invokestatic 31, 3) := by decide +kernel
theorem d_S_make_18 : decode b_S_make 18 = .ok (.iconst 0, 1) := by decide +kernel
theorem d_S_make_19 : decode b_S_make 19 = .ok (.ireturn, 1) := by decide +kernel
theorem d_S_make_20 : decode b_S_make 20 = .ok (.aload_n 0, 1) := by decide +kernel
theorem d_S_make_21 : decode b_S_make 21 = .ok (.getfield 13, 3) := by decide +kernel
theorem d_S_make_24 : decode b_S_make 24 = .ok (.iconst 0, 1) := by decide +kernel
theorem d_S_make_25 : decode b_S_make 25 = .ok (.invokestatic 31, 3) := by decide +kernel
theorem d_S_make_28 : decode b_S_make 28 = .ok (.aload_n 0, 1) := by decide +kernel
theorem d_S_make_29 : decode b_S_make 29 = .ok (.iconst 2, 1) := by decide +kernel
theorem d_S_make_30 : decode b_S_make 30 = .ok (.invokevirtual 37, 3) := by decide +kernel
theorem d_S_make_33 : decode b_S_make 33 = .ok (.ifCond .eq 8, 3) := by decide +kernel
theorem d_S_make_36 : decode b_S_make 36 = .ok (.aload_n 0, 1) := by decide +kernel
theorem d_S_make_37 : decode b_S_make 37 = .ok (.iload_n 1, 1) := by decide +kernel
theorem d_S_make_38 : decode b_S_make 38 = .ok (.invokevirtual 41, 3) := by decide +kernel
theorem d_S_make_41 : decode b_S_make 41 = .ok (.iconst 0, 1) := by decide +kernel
theorem d_S_make_42 : decode b_S_make 42 = .ok (.istore_n 2, 1) := by decide +kernel
theorem d_S_make_43 : decode b_S_make 43 = .ok (.iconst 0, 1) := by decide +kernel
theorem d_S_make_44 : decode b_S_make 44 = .ok (.istore_n 3, 1) := by decide +kernel
theorem d_S_make_45 : decode b_S_make 45 = .ok (.iload_n 3, 1) := by decide +kernel
theorem d_S_make_46 : decode b_S_make 46 = .ok (.sipush 160, 3) := by decide +kernel
theorem d_S_make_49 : decode b_S_make 49 = .ok (.if_icmp .ge 35, 3) := by decide +kernel
theorem d_S_make_52 : decode b_S_make 52 = .ok (.aload_n 0, 1) := by decide +kernel
theorem d_S_make_53 : decode b_S_make 53 = .ok (.getfield 9, 3) := by decide +kernel
theorem d_S_make_56 : decode b_S_make 56 = .ok (.iload_n 3, 1) := by decide +kernel
theorem d_S_make_57 : decode b_S_make 57 = .ok (.aload_n 0, 1) := by decide +kernel
theorem d_S_make_58 : decode b_S_make 58 = .ok (.iload_n 3, 1) := by decide +kernel
theorem d_S_make_59 : decode b_S_make 59 = .ok (.aload_n 0, 1) := by decide +kernel
theorem d_S_make_60 : decode b_S_make 60 = .ok (.iload_n 3, 1) := by decide +kernel
theorem d_S_make_61 : decode b_S_make 61 = .ok (.iload_n 1, 1) := by decide +kernel
theorem d_S_make_62 : decode b_S_make 62 = .ok (.invokevirtual 45, 3) := by decide +kernel
theorem d_S_make_65 : decode b_S_make 65 = .ok (.invokevirtual 49, 3) := by decide +kernel
theorem d_S_make_68 : decode b_S_make 68 = .ok (.iastore, 1) := by decide +kernel
theorem d_S_make_69 : decode b_S_make 69 = .ok (.iload_n 2, 1) := by decide +kernel
theorem d_S_make_70 : decode b_S_make 70 = .ok (.aload_n 0, 1) := by decide +kernel
theorem d_S_make_71 : decode b_S_make 71 = .ok (.getfield 9, 3) := by decide +kernel
theorem d_S_make_74 : decode b_S_make 74 = .ok (.iload_n 3, 1) := by decide +kernel
theorem d_S_make_75 : decode b_S_make 75 = .ok (.iaload, 1) := by decide +kernel
theorem d_S_make_76 : decode b_S_make 76 = .ok (.iadd, 1) := by decide +kernel
theorem d_S_make_77 : decode b_S_make 77 = .ok (.istore_n 2, 1) := by decide +kernel
theorem d_S_make_78 : decode b_S_make 78 = .ok (.iinc 3 1, 3) := by decide +kernel
theorem d_S_make_81 : decode b_S_make 81 = .ok (.goto (-36), 3) := by decide +kernel
theorem d_S_make_84 : decode b_S_make 84 = .ok (.iload_n 2, 1) := by decide +kernel
theorem d_S_make_85 : decode b_S_make 85 = .ok (.ireturn, 1) := by decide +kernel
theorem d_R_zeros_0 : decode b_R_zeros 0 = .ok (.iconst 0, 1) := by decide +kernel
theorem d_R_zeros_1 : decode b_R_zeros 1 = .ok (.istore_n 1, 1) := by decide +kernel
theorem d_R_zeros_2 : decode b_R_zeros 2 = .ok (.iload_n 1, 1) := by decide +kernel
theorem d_R_zeros_3 : decode b_R_zeros 3 = .ok (.aload_n 0, 1) := by decide +kernel
theorem d_R_zeros_4 : decode b_R_zeros 4 = .ok (.arraylength, 1) := by decide +kernel
theorem d_R_zeros_5 : decode b_R_zeros 5 = .ok (.if_icmp .ge 13, 3) := by decide +kernel
theorem d_R_zeros_8 : decode b_R_zeros 8 = .ok (.aload_n 0, 1) := by decide +kernel
theorem d_R_zeros_9 : decode b_R_zeros 9 = .ok (.iload_n 1, 1) := by decide +kernel
theorem d_R_zeros_10 : decode b_R_zeros 10 = .ok (.iconst 0, 1) := by decide +kernel
theorem d_R_zeros_11 : decode b_R_zeros 11 = .ok (.iastore, 1) := by decide +kernel
theorem d_R_zeros_12 : decode b_R_zeros 12 = .ok (.iinc 1 1, 3) := by decide +kernel
theorem d_R_zeros_15 : decode b_R_zeros 15 = .ok (.goto (-13), 3) := by decide +kernel
theorem d_R_zeros_18 : decode b_R_zeros 18 = .ok (.return_, 1) := by decide +kernel
theorem d_R_reset_0 : decode b_R_reset 0 = .ok (.aload_n 0, 1) := by decide +kernel
theorem d_R_reset_1 : decode b_R_reset 1 = .ok (.getfield 16, 3) := by decide +kernel
theorem d_R_reset_4 : decode b_R_reset 4 = .ok (.invokestatic 41, 3) := by decide +kernel
theorem d_R_reset_7 : decode b_R_reset 7 = .ok (.aload_n 0, 1) := by decide +kernel
theorem d_R_reset_8 : decode b_R_reset 8 = .ok (.getfield 19, 3) := by decide +kernel
theorem d_R_reset_11 : decode b_R_reset 11 = .ok (.invokestatic 41, 3) := by decide +kernel
theorem d_R_reset_14 : decode b_R_reset 14 = .ok (.aload_n 0, 1) := by decide +kernel
theorem d_R_reset_15 : decode b_R_reset 15 = .ok (.getfield 22, 3) := by decide +kernel
theorem d_R_reset_18 : decode b_R_reset 18 = .ok (.invokestatic 41, 3) := by decide +kernel
theorem d_R_reset_21 : decode b_R_reset 21 = .ok (.aload_n 0, 1) := by decide +kernel
theorem d_R_reset_22 : decode b_R_reset 22 = .ok (.getfield 25, 3) := by decide +kernel
theorem d_R_reset_25 : decode b_R_reset 25 = .ok (.invokestatic 41, 3) := by decide +kernel
theorem d_R_reset_28 : decode b_R_reset 28 = .ok (.aload_n 0, 1) := by decide +kernel
theorem d_R_reset_29 : decode b_R_reset 29 = .ok (.getfield 28, 3) := by decide +kernel
theorem d_R_reset_32 : decode b_R_reset 32 = .ok (.invokestatic 41, 3) := by decide +kernel
theorem d_R_reset_35 : decode b_R_reset 35 = .ok (.aload_n 0, 1) := by decide +kernel
theorem d_R_reset_36 : decode b_R_reset 36 = .ok (.iconst 0, 1) := by decide +kernel
theorem d_R_reset_37 : decode b_R_reset 37 = .ok (.putfield 45, 3) := by decide +kernel
theorem d_R_reset_40 : decode b_R_reset 40 = .ok (.aload_n 0, 1) := by decide +kernel
theorem d_R_reset_41 : decode b_R_reset 41 = .ok (.iconst 1, 1) := by decide +kernel
theorem d_R_reset_42 : decode b_R_reset 42 = .ok (.putfield 49, 3) := by decide +kernel
theorem d_R_reset_45 : decode b_R_reset 45 = .ok (.aload_n 0, 1) := by decide +kernel
theorem d_R_reset_46 : decode b_R_reset 46 = .ok (.iconst 0, 1) := by decide +kernel
theorem d_R_reset_47 : decode b_R_reset 47 = .ok (.putfield 52, 3) := by decide +kernel
theorem d_R_reset_50 : decode b_R_reset 50 = .ok (.aload_n 0, 1) := by decide +kernel
theorem d_R_reset_51 : decode b_R_reset 51 = .ok (.iconst 0, 1) := by decide +kernel
theorem d_R_reset_52 : decode b_R_reset 52 = .ok (.putfield 55, 3) := by decide +kernel
theorem d_R_reset_55 : decode b_R_reset 55 = .ok (.aload_n 0, 1) := by decide +kernel
theorem d_R_reset_56 : decode b_R_reset 56 = .ok (.iconst 1, 1) := by decide +kernel
theorem d_R_reset_57 : decode b_R_reset 57 = .ok (.putfield 58, 3) := by decide +kernel
theorem d_R_reset_60 : decode b_R_reset 60 = .ok (.aload_n 0, 1) := by decide +kernel
theorem d_R_reset_61 : decode b_R_reset 61 = .ok (.iconst 0, 1) := by decide +kernel
theorem d_R_reset_62 : decode b_R_reset 62 = .ok (.putfield 61, 3) := by decide +kernel
theorem d_R_reset_65 : decode b_R_reset 65 = .ok (.aload_n 0, 1) := by decide +kernel
theorem d_R_reset_66 : decode b_R_reset 66 = .ok (.iconst 1, 1) := by decide +kernel
theorem d_R_reset_67 : decode b_R_reset 67 = .ok (.putfield 64, 3) := by decide +kernel
theorem d_R_reset_70 : decode b_R_reset 70 = .ok (.aload_n 0, 1) := by decide +kernel
theorem d_R_reset_71 : decode b_R_reset 71 = .ok (.getfield 31, 3) := by decide +kernel
theorem d_R_reset_74 : decode b_R_reset 74 = .ok (.bipush 7, 2) := by decide +kernel
theorem d_R_reset_76 : decode b_R_reset 76 = .ok (.iconst 1, 1) := by decide +kernel
theorem d_R_reset_77 : decode b_R_reset 77 = .ok (.iastore, 1) := by decide +kernel
theorem d_R_reset_78 : decode b_R_reset 78 = .ok (.aload_n 0, 1) := by decide +kernel
theorem d_R_reset_79 : decode b_R_reset 79 = .ok (.getfield 31, 3) := by decide +kernel
theorem d_R_reset_82 : decode b_R_reset 82 = .ok (.bipush 6, 2) := by decide +kernel
theorem d_R_reset_84 : decode b_R_reset 84 = .ok (.sipush 176, 3) := by decide +kernel
theorem d_R_reset_87 : decode b_R_reset 87 = .ok (.iastore, 1) := by decide +kernel
theorem d_R_reset_88 : decode b_R_reset 88 = .ok (.aload_n 0, 1) := by decide +kernel
theorem d_R_reset_89 : decode b_R_reset 89 = .ok (.getfield 31, 3) := by decide +kernel
theorem d_R_reset_92 : decode b_R_reset 92 = .ok (.iconst 0, 1) := by decide +kernel
theorem d_R_reset_93 : decode b_R_reset 93 = .ok (.iconst 0, 1) := by decide +kernel
theorem d_R_reset_94 : decode b_R_reset 94 = .ok (.iastore, 1) := by decide +kernel
theorem d_R_reset_95 : decode b_R_reset 95 = .ok (.aload_n 0, 1) := by decide +kernel
theorem d_R_reset_96 : decode b_R_reset 96 = .ok (.getfield 31, 3) := by decide +kernel
theorem d_R_reset_99 : decode b_R_reset 99 = .ok (.iconst 1, 1) := by decide +kernel
theorem d_R_reset_100 : decode b_R_reset 100 = .ok (.bipush 19, 2) := by decide +kernel
theorem d_R_reset_102 : decode b_R_reset 102 = .ok (.iastore, 1) := by decide +kernel
theorem d_R_reset_103 : decode b_R_reset 103 = .ok (.aload_n 0, 1) := by decide +kernel
theorem d_R_reset_104 : decode b_R_reset 104 = .ok (.getfield 31, 3) := by decide +kernel
theorem d_R_reset_107 : decode b_R_reset 107 = .ok (.iconst 2, 1) := by decide +kernel
theorem d_R_reset_108 : decode b_R_reset 108 = .ok (.iconst 0, 1) := by decide +kernel
theorem d_R_reset_109 : decode b_R_reset 109 = .ok (.iastore, 1) := by decide +kernel
theorem d_R_reset_110 : decode b_R_reset 110 = .ok (.aload_n 0, 1) := by decide +kernel
theorem d_R_reset_111 : decode b_R_reset 111 = .ok (.getfield 31, 3) := by decide +kernel
theorem d_R_reset_114 : decode b_R_reset 114 = .ok (.iconst 3, 1) := by decide +kernel
theorem d_R_reset_115 : decode b_R_reset 115 = .ok (.sipush 216, 3) := by decide +kernel
theorem d_R_reset_118 : decode b_R_reset 118 = .ok (.iastore, 1) := by decide +kernel
theorem d_R_reset_119 : decode b_R_reset 119 = .ok (.aload_n 0, 1) := by decide +kernel
theorem d_R_reset_120 : decode b_R_reset 120 = .ok (.getfield 31, 3) := by decide +kernel
theorem d_R_reset_123 : decode b_R_reset 123 = .ok (.iconst 4, 1) := by decide +kernel
theorem d_R_reset_124 : decode b_R_reset 124 = .ok (.iconst 1, 1) := by decide +kernel
theorem d_R_reset_125 : decode b_R_reset 125 = .ok (.iastore, 1) := by decide +kernel
theorem d_R_reset_126 : decode b_R_reset 126 = .ok (.aload_n 0, 1) := by decide +kernel
theorem d_R_reset_127 : decode b_R_reset 127 = .ok (.getfield 31, 3) := by decide +kernel
theorem d_R_reset_130 : decode b_R_reset 130 = .ok (.iconst 5, 1) := by decide +kernel
theorem d_R_reset_131 : decode b_R_reset 131 = .ok (.bipush 77, 2) := by decide +kernel
theorem d_R_reset_133 : decode b_R_reset 133 = .ok (.iastore, 1) := by decide +kernel
theorem d_R_reset_134 : decode b_R_reset 134 = .ok (.aload_n 0, 1) := by decide +kernel
theorem d_R_reset_135 : decode b_R_reset 135 = .ok (.ldc 67, 2) := by decide +kernel
theorem d_R_reset_137 : decode b_R_reset 137 = .ok (.putfield 68, 3) := by decide +kernel
theorem d_R_reset_140 : decode b_R_reset 140 = .ok (.aload_n 0, 1) := by decide +kernel
theorem d_R_reset_141 : decode b_R_reset 141 = .ok (.sipush 256, 3) := by decide +kernel
theorem d_R_reset_144 : decode b_R_reset 144 = .ok (.putfield 71, 3) := by decide +kernel
theorem d_R_reset_147 : decode b_R_reset 147 = .ok (.aload_n 0, 1) := by decide +kernel
theorem d_R_reset_148 : decode b_R_reset 148 = .ok (.iconst 0, 1) := by decide +kernel
theorem d_R_reset_149 : decode b_R_reset 149 = .ok (.putfield 74, 3) := by decide +kernel
theorem d_R_reset_152 : decode b_R_reset 152 = .ok (.aload_n 0, 1) := by decide +kernel
theorem d_R_reset_153 : decode b_R_reset 153 = .ok (.iconst 0, 1) := by decide +kernel
theorem d_R_reset_154 : decode b_R_reset 154 = .ok (.putfield 77, 3) := by decide +kernel
theorem d_R_reset_157 : decode b_R_reset 157 = .ok (.aload_n 0, 1) := by decide +kernel
theorem d_R_reset_158 : decode b_R_reset 158 = .ok (.iconst 0, 1) := by decide +kernel
theorem d_R_reset_159 : decode b_R_reset 159 = .ok (.putfield 80, 3) := by decide +kernel
theorem d_R_reset_162 : decode b_R_reset 162 = .ok (.aload_n 0, 1) := by decide +kernel
theorem d_R_reset_163 : decode b_R_reset 163 = .ok (.iconst 0, 1) := by decide +kernel
theorem d_R_reset_164 : decode b_R_reset 164 = .ok (.putfield 83, 3) := by decide +kernel
theorem d_R_reset_167 : decode b_R_reset 167 = .ok (.aload_n 0, 1) := by decide +kernel
theorem d_R_reset_168 : decode b_R_reset 168 = .ok (.iconst 0, 1) := by decide +kernel
theorem d_R_reset_169 : decode b_R_reset 169 = .ok (.putfield 86, 3) := by decide +kernel
theorem d_R_reset_172 : decode b_R_reset 172 = .ok (.aload_n 0, 1) := by decide +kernel
theorem d_R_reset_173 : decode b_R_reset 173 = .ok (.iconst 0, 1) := by decide +kernel
theorem d_R_reset_174 : decode b_R_reset 174 = .ok (.putfield 89, 3) := by decide +kernel
theorem d_R_reset_177 : decode b_R_reset 177 = .ok (.aload_n 0, 1) := by decide +kernel
theorem d_R_reset_178 : decode b_R_reset 178 = .ok (.iconst 0, 1) := by decide +kernel
theorem d_R_reset_179 : decode b_R_reset 179 = .ok (.putfield 92, 3) := by decide +kernel
theorem d_R_reset_182 : decode b_R_reset 182 = .ok (.aload_n 0, 1) := by decide +kernel
theorem d_R_reset_183 : decode b_R_reset 183 = .ok (.iconst 0, 1) := by decide +kernel
theorem d_R_reset_184 : decode b_R_reset 184 = .ok (.putfield 95, 3) := by decide +kernel
theorem d_R_reset_187 : decode b_R_reset 187 = .ok (.aload_n 0, 1) := by decide +kernel
theorem d_R_reset_188 : decode b_R_reset 188 = .ok (.iconst 0, 1) := by decide +kernel
theorem d_R_reset_189 : decode b_R_reset 189 = .ok (.putfield 98, 3) := by decide +kernel
theorem d_R_reset_192 : decode b_R_reset 192 = .ok (.aload_n 0, 1) := by decide +kernel
theorem d_R_reset_193 : decode b_R_reset 193 = .ok (.iconst 1, 1) := by decide +kernel
theorem d_R_reset_194 : decode b_R_reset 194 = .ok (.putfield 101, 3) := by decide +kernel
theorem d_R_reset_197 : decode b_R_reset 197 = .ok (.aload_n 0, 1) := by decide +kernel
theorem d_R_reset_198 : decode b_R_reset 198 = .ok (.iconst 0, 1) := by decide +kernel
theorem d_R_reset_199 : decode b_R_reset 199 = .ok (.putfield 104, 3) := by decide +kernel
theorem d_R_reset_202 : decode b_R_reset 202 = .ok (.aload_n 0, 1) := by decide +kernel
theorem d_R_reset_203 : decode b_R_reset 203 = .ok (.sipush 145, 3) := by decide +kernel
theorem d_R_reset_206 : decode b_R_reset 206 = .ok (.putfield 107, 3) := by decide +kernel
theorem d_R_reset_209 : decode b_R_reset 209 = .ok (.aload_n 0, 1) := by decide +kernel
theorem d_R_reset_210 : decode b_R_reset 210 = .ok (.iconst 0, 1) := by decide +kernel
theorem d_R_reset_211 : decode b_R_reset 211 = .ok (.putfield 110, 3) := by decide +kernel
theorem d_R_reset_214 : decode b_R_reset 214 = .ok (.aload_n 0, 1) := by decide +kernel
theorem d_R_reset_215 : decode b_R_reset 215 = .ok (.iconst 0, 1) := by decide +kernel
theorem d_R_reset_216 : decode b_R_reset 216 = .ok (.putfield 113, 3) := by decide +kernel
theorem d_R_reset_219 : decode b_R_reset 219 = .ok (.aload_n 0, 1) := by decide +kernel
theorem d_R_reset_220 : decode b_R_reset 220 = .ok (.iconst 0, 1) := by decide +kernel
theorem d_R_reset_221 : decode b_R_reset 221 = .ok (.putfield 116, 3) := by decide +kernel
theorem d_R_reset_224 : decode b_R_reset 224 = .ok (.aload_n 0, 1) := by decide +kernel
theorem d_R_reset_225 : decode b_R_reset 225 = .ok (.iconst 0, 1) := by decide +kernel
theorem d_R_reset_226 : decode b_R_reset 226 = .ok (.putfield 119, 3) := by decide +kernel
theorem d_R_reset_229 : decode b_R_reset 229 = .ok (.aload_n 0, 1) := by decide +kernel
theorem d_R_reset_230 : decode b_R_reset 230 = .ok (.iconst 0, 1) := by decide +kernel
theorem d_R_reset_231 : decode b_R_reset 231 = .ok (.putfield 122, 3) := by decide +kernel
theorem d_R_reset_234 : decode b_R_reset 234 = .ok (.aload_n 0, 1) := by decide +kernel
theorem d_R_reset_235 : decode b_R_reset 235 = .ok (.iconst 0, 1) := by decide +kernel
theorem d_R_reset_236 : decode b_R_reset 236 = .ok (.putfield 125, 3) := by decide +kernel
theorem d_R_reset_239 : decode b_R_reset 239 = .ok (.aload_n 0, 1) := by decide +kernel
theorem d_R_reset_240 : decode b_R_reset 240 = .ok (.sipush 252, 3) := by decide +kernel
theorem d_R_reset_243 : decode b_R_reset 243 = .ok (.putfield 128, 3) := by decide +kernel
theorem d_R_reset_246 : decode b_R_reset 246 = .ok (.aload_n 0, 1) := by decide +kernel
theorem d_R_reset_247 : decode b_R_reset 247 = .ok (.iconst 0, 1) := by decide +kernel
theorem d_R_reset_248 : decode b_R_reset 248 = .ok (.putfield 131, 3) := by decide +kernel
theorem d_R_reset_251 : decode b_R_reset 251 = .ok (.aload_n 0, 1) := by decide +kernel
theorem d_R_reset_252 : decode b_R_reset 252 = .ok (.iconst 0, 1) := by decide +kernel
theorem d_R_reset_253 : decode b_R_reset 253 = .ok (.putfield 134, 3) := by decide +kernel
theorem d_R_reset_256 : decode b_R_reset 256 = .ok (.aload_n 0, 1) := by decide +kernel
theorem d_R_reset_257 : decode b_R_reset 257 = .ok (.iconst 0, 1) := by decide +kernel
theorem d_R_reset_258 : decode b_R_reset 258 = .ok (.putfield 137, 3) := by decide +kernel
theorem d_R_reset_261 : decode b_R_reset 261 = .ok (.aload_n 0, 1) := by decide +kernel
theorem d_R_reset_262 : decode b_R_reset 262 = .ok (.iconst 0, 1) := by decide +kernel
theorem d_R_reset_263 : decode b_R_reset 263 = .ok (.putfield 140, 3) := by decide +kernel
theorem d_R_reset_266 : decode b_R_reset 266 = .ok (.aload_n 0, 1) := by decide +kernel
theorem d_R_reset_267 : decode b_R_reset 267 = .ok (.iconst 0, 1) := by decide +kernel
theorem d_R_reset_268 : decode b_R_reset 268 = .ok (.putfield 143, 3) := by decide +kernel
theorem d_R_reset_271 : decode b_R_reset 271 = .ok (.aload_n 0, 1) := by decide +kernel
theorem d_R_reset_272 : decode b_R_reset 272 = .ok (.iconst 0, 1) := by decide +kernel
theorem d_R_reset_273 : decode b_R_reset 273 = .ok (.putfield 146, 3) := by decide +kernel
theorem d_R_reset_276 : decode b_R_reset 276 = .ok (.aload_n 0, 1) := by decide +kernel
theorem d_R_reset_277 : decode b_R_reset 277 = .ok (.iconst 0, 1) := by decide +kernel
theorem d_R_reset_278 : decode b_R_reset 278 = .ok (.putfield 149, 3) := by decide +kernel
theorem d_R_reset_281 : decode b_R_reset 281 = .ok (.aload_n 0, 1) := by decide +kernel
theorem d_R_reset_282 : decode b_R_reset 282 = .ok (.iconst 0, 1) := by decide +kernel
theorem d_R_reset_283 : decode b_R_reset 283 = .ok (.putfield 152, 3) := by decide +kernel
theorem d_R_reset_286 : decode b_R_reset 286 = .ok (.aload_n 0, 1) := by decide +kernel
theorem d_R_reset_287 : decode b_R_reset 287 = .ok (.iconst 0, 1) := by decide +kernel
theorem d_R_reset_288 : decode b_R_reset 288 = .ok (.putfield 155, 3) := by decide +kernel
theorem d_R_reset_291 : decode b_R_reset 291 = .ok (.aload_n 0, 1) := by decide +kernel
theorem d_R_reset_292 : decode b_R_reset 292 = .ok (.iconst 0, 1) := by decide +kernel
theorem d_R_reset_293 : decode b_R_reset 293 = .ok (.putfield 158, 3) := by decide +kernel
theorem d_R_reset_296 : decode b_R_reset 296 = .ok (.return_, 1) := by decide +kernel
theorem d_R_thrown_0 : decode b_R_thrown 0 = .ok (.aload_n 0, 1) := by decide +kernel
theorem d_R_thrown_1 : decode b_R_thrown 1 = .ok (.getfield 37, 3) := by decide +kernel
theorem d_R_thrown_4 : decode b_R_thrown 4 = .ok (.ireturn, 1) := by decide +kernel
theorem d_R_in_0 : decode b_R_in 0 = .ok (.iload_n 0, 1) := by decide +kernel
theorem d_R_in_1 : decode b_R_in 1 = .ok (.iload_n 1, 1) := by decide +kernel
theorem d_R_in_2 : decode b_R_in 2 = .ok (.if_icmp .lt 12, 3) := by decide +kernel
theorem d_R_in_5 : decode b_R_in 5 = .ok (.iload_n 0, 1) := by decide +kernel
theorem d_R_in_6 : decode b_R_in 6 = .ok (.iload_n 2, 1) := by decide +kernel
theorem d_R_in_7 : decode b_R_in 7 = .ok (.if_icmp .gt 7, 3) := by decide +kernel
theorem d_R_in_10 : decode b_R_in 10 = .ok (.iconst 1, 1) := by decide +kernel
theorem d_R_in_11 : decode b_R_in 11 = .ok (.goto 4, 3) := by decide +kernel
theorem d_R_in_14 : decode b_R_in 14 = .ok (.iconst 0, 1) := by decide +kernel
theorem d_R_in_15 : decode b_R_in 15 = .ok (.ireturn, 1) := by decide +kernel
theorem d_R_fails_0 : decode b_R_fails 0 = .ok (.iload_n 1, 1) := by decide +kernel
theorem d_R_fails_1 : decode b_R_fails 1 = .ok (.ifCond .eq 15, 3) := by decide +kernel
theorem d_R_fails_4 : decode b_R_fails 4 = .ok (.aload_n 0, 1) := by decide +kernel
theorem d_R_fails_5 : decode b_R_fails 5 = .ok (.getfield 37, 3) := by decide +kernel
theorem d_R_fails_8 : decode b_R_fails 8 = .ok (.ifCond .ne 8, 3) := by decide +kernel
theorem d_R_fails_11 : decode b_R_fails 11 = .ok (.aload_n 0, 1) := by decide +kernel
theorem d_R_fails_12 : decode b_R_fails 12 = .ok (.iload_n 2, 1) := by decide +kernel
theorem d_R_fails_13 : decode b_R_fails 13 = .ok (.putfield 37, 3) := by decide +kernel
theorem d_R_fails_16 : decode b_R_fails 16 = .ok (.aload_n 0, 1) := by decide +kernel
theorem d_R_fails_17 : decode b_R_fails 17 = .ok (.getfield 37, 3) := by decide +kernel
theorem d_R_fails_20 : decode b_R_fails 20 = .ok (.ifCond .eq 7, 3) := by decide +kernel
theorem d_R_fails_23 : decode b_R_fails 23 = .ok (.iconst 1, 1) := by decide +kernel
theorem d_R_fails_24 : decode b_R_fails 24 = .ok (.goto 4, 3) := by decide +kernel
theorem d_R_fails_27 : decode b_R_fails 27 = .ok (.iconst 0, 1) := by decide +kernel
theorem d_R_fails_28 : decode b_R_fails 28 = .ok (.ireturn, 1) := by decide +kernel
theorem d_R_bankHigh_0 : decode b_R_bankHigh 0 = .ok (.aload_n 0, 1) := by decide +kernel
theorem d_R_bankHigh_1 : decode b_R_bankHigh 1 = .ok (.getfield 161, 3) := by decide +kernel
theorem d_R_bankHigh_4 : decode b_R_bankHigh 4 = .ok (.ifCond .eq 10, 3) := by decide +kernel
theorem d_R_bankHigh_7 : decode b_R_bankHigh 7 = .ok (.aload_n 0, 1) := by decide +kernel
theorem d_R_bankHigh_8 : decode b_R_bankHigh 8 = .ok (.getfield 164, 3) := by decide +kernel
theorem d_R_bankHigh_11 : decode b_R_bankHigh 11 = .ok (.ifCond .ne 7, 3) := by decide +kernel
theorem d_R_bankHigh_14 : decode b_R_bankHigh 14 = .ok (.iconst 1, 1) := by decide +kernel
theorem d_R_bankHigh_15 : decode b_R_bankHigh 15 = .ok (.goto 43, 3) := by decide +kernel
theorem d_R_bankHigh_18 : decode b_R_bankHigh 18 = .ok (.aload_n 0, 1) := by decide +kernel
theorem d_R_bankHigh_19 : decode b_R_bankHigh 19 = .ok (.getfield 164, 3) := by decide +kernel
theorem d_R_bankHigh_22 : decode b_R_bankHigh 22 = .ok (.iconst 1, 1) := by decide +kernel
theorem d_R_bankHigh_23 : decode b_R_bankHigh 23 = .ok (.if_icmp .ne 13, 3) := by decide +kernel
theorem d_R_bankHigh_26 : decode b_R_bankHigh 26 = .ok (.aload_n 0, 1) := by decide +kernel
theorem d_R_bankHigh_27 : decode b_R_bankHigh 27 = .ok (.getfield 49, 3) := by decide +kernel
theorem d_R_bankHigh_30 : decode b_R_bankHigh 30 = .ok (.bipush 8, 2) := by decide +kernel
theorem d_R_bankHigh_32 : decode b_R_bankHigh 32 = .ok (.irem, 1) := by decide +kernel
theorem d_R_bankHigh_33 : decode b_R_bankHigh 33 = .ok (.goto 25, 3) := by decide +kernel
theorem d_R_bankHigh_36 : decode b_R_bankHigh 36 = .ok (.aload_n 0, 1) := by decide +kernel
theorem d_R_bankHigh_37 : decode b_R_bankHigh 37 = .ok (.getfield 164, 3) := by decide +kernel
theorem d_R_bankHigh_40 : decode b_R_bankHigh 40 = .ok (.iconst 2, 1) := by decide +kernel
theorem d_R_bankHigh_41 : decode b_R_bankHigh 41 = .ok (.if_icmp .ne 10, 3) := by decide +kernel
theorem d_R_bankHigh_44 : decode b_R_bankHigh 44 = .ok (.aload_n 0, 1) := by decide +kernel
theorem d_R_bankHigh_45 : decode b_R_bankHigh 45 = .ok (.getfield 64, 3) := by decide +kernel
theorem d_R_bankHigh_48 : decode b_R_bankHigh 48 = .ok (.goto 10, 3) := by decide +kernel
theorem d_R_bankHigh_51 : decode b_R_bankHigh 51 = .ok (.aload_n 0, 1) := by decide +kernel
theorem d_R_bankHigh_52 : decode b_R_bankHigh 52 = .ok (.getfield 58, 3) := by decide +kernel
theorem d_R_bankHigh_55 : decode b_R_bankHigh 55 = .ok (.bipush 8, 2) := by decide +kernel
theorem d_R_bankHigh_57 : decode b_R_bankHigh 57 = .ok (.irem, 1) := by decide +kernel
theorem d_R_bankHigh_58 : decode b_R_bankHigh 58 = .ok (.ireturn, 1) := by decide +kernel
theorem d_R_bankRam_0 : decode b_R_bankRam 0 = .ok (.aload_n 0, 1) := by decide +kernel
theorem d_R_bankRam_1 : decode b_R_bankRam 1 = .ok (.getfield 164, 3) := by decide +kernel
theorem d_R_bankRam_4 : decode b_R_bankRam 4 = .ok (.iconst 1, 1) := by decide +kernel
theorem d_R_bankRam_5 : decode b_R_bankRam 5 = .ok (.if_icmp .ne 22, 3) := by decide +kernel
theorem d_R_bankRam_8 : decode b_R_bankRam 8 = .ok (.aload_n 0, 1) := by decide +kernel
theorem d_R_bankRam_9 : decode b_R_bankRam 9 = .ok (.getfield 55, 3) := by decide +kernel
theorem d_R_bankRam_12 : decode b_R_bankRam 12 = .ok (.iconst 1, 1) := by decide +kernel
theorem d_R_bankRam_13 : decode b_R_bankRam 13 = .ok (.if_icmp .ne 10, 3) := by decide +kernel
theorem d_R_bankRam_16 : decode b_R_bankRam 16 = .ok (.aload_n 0, 1) := by decide +kernel
theorem d_R_bankRam_17 : decode b_R_bankRam 17 = .ok (.getfield 52, 3) := by decide +kernel
theorem d_R_bankRam_20 : decode b_R_bankRam 20 = .ok (.goto 23, 3) := by decide +kernel
theorem d_R_bankRam_23 : decode b_R_bankRam 23 = .ok (.iconst 0, 1) := by decide +kernel
theorem d_R_bankRam_24 : decode b_R_bankRam 24 = .ok (.goto 19, 3) := by decide +kernel
theorem d_R_bankRam_27 : decode b_R_bankRam 27 = .ok (.aload_n 0, 1) := by decide +kernel
theorem d_R_bankRam_28 : decode b_R_bankRam 28 = .ok (.getfield 164, 3) := by decide +kernel
theorem d_R_bankRam_31 : decode b_R_bankRam 31 = .ok (.iconst 3, 1) := by decide +kernel
theorem d_R_bankRam_32 : decode b_R_bankRam 32 = .ok (.if_icmp .ne 10, 3) := by decide +kernel
theorem d_R_bankRam_35 : decode b_R_bankRam 35 = .ok (.aload_n 0, 1) := by decide +kernel
theorem d_R_bankRam_36 : decode b_R_bankRam 36 = .ok (.getfield 61, 3) := by decide +kernel
theorem d_R_bankRam_39 : decode b_R_bankRam 39 = .ok (.goto 4, 3) := by decide +kernel
theorem d_R_bankRam_42 : decode b_R_bankRam 42 = .ok (.iconst 0, 1) := by decide +kernel
theorem d_R_bankRam_43 : decode b_R_bankRam 43 = .ok (.ireturn, 1) := by decide +kernel
theorem d_R_hasRam_0 : decode b_R_hasRam 0 = .ok (.aload_n 0, 1) := by decide +kernel
theorem d_R_hasRam_1 : decode b_R_hasRam 1 = .ok (.getfield 161, 3) := by decide +kernel
theorem d_R_hasRam_4 : decode b_R_hasRam 4 = .ok (.ifCond .eq 21, 3) := by decide +kernel
theorem d_R_hasRam_7 : decode b_R_hasRam 7 = .ok (.aload_n 0, 1) := by decide +kernel
theorem d_R_hasRam_8 : decode b_R_hasRam 8 = .ok (.getfield 164, 3) := by decide +kernel
theorem d_R_hasRam_11 : decode b_R_hasRam 11 = .ok (.ifCond .eq 10, 3) := by decide +kernel
theorem d_R_hasRam_14 : decode b_R_hasRam 14 = .ok (.aload_n 0, 1) := by decide +kernel
theorem d_R_hasRam_15 : decode b_R_hasRam 15 = .ok (.getfield 45, 3) := by decide +kernel
theorem d_R_hasRam_18 : decode b_R_hasRam 18 = .ok (.ifCond .eq 7, 3) := by decide +kernel
theorem d_R_hasRam_21 : decode b_R_hasRam 21 = .ok (.iconst 1, 1) := by decide +kernel
theorem d_R_hasRam_22 : decode b_R_hasRam 22 = .ok (.goto 4, 3) := by decide +kernel
theorem d_R_hasRam_25 : decode b_R_hasRam 25 = .ok (.iconst 0, 1) := by decide +kernel
theorem d_R_hasRam_26 : decode b_R_hasRam 26 = .ok (.ireturn, 1) := by decide +kernel
theorem d_R_controls_0 : decode b_R_controls 0 = .ok (.aload_n 0, 1) := by decide +kernel
theorem d_R_controls_1 : decode b_R_controls 1 = .ok (.getfield 161, 3) := by decide +kernel
theorem d_R_controls_4 : decode b_R_controls 4 = .ok (.ifCond .eq 10, 3) := by decide +kernel
theorem d_R_controls_7 : decode b_R_controls 7 = .ok (.aload_n 0, 1) := by decide +kernel
theorem d_R_controls_8 : decode b_R_controls 8 = .ok (.getfield 164, 3) := by decide +kernel
theorem d_R_controls_11 : decode b_R_controls 11 = .ok (.ifCond .ne 4, 3) := by decide +kernel
theorem d_R_controls_14 : decode b_R_controls 14 = .ok (.return_, 1) := by decide +kernel
theorem d_R_controls_15 : decode b_R_controls 15 = .ok (.aload_n 0, 1) := by decide +kernel
theorem d_R_controls_16 : decode b_R_controls 16 = .ok (.getfield 164, 3) := by decide +kernel
theorem d_R_controls_19 : decode b_R_controls 19 = .ok (.iconst 2, 1) := by decide +kernel
theorem d_R_controls_20 : decode b_R_controls 20 = .ok (.if_icmp .ne 63, 3) := by decide +kernel
theorem d_R_controls_23 : decode b_R_controls 23 = .ok (.iload_n 1, 1) := by decide +kernel
theorem d_R_controls_24 : decode b_R_controls 24 = .ok (.sipush 16384, 3) := by decide +kernel
theorem d_R_controls_27 : decode b_R_controls 27 = .ok (.if_icmp .lt 4, 3) := by decide +kernel
theorem d_R_controls_30 : decode b_R_controls 30 = .ok (.return_, 1) := by decide +kernel
theorem d_R_controls_31 : decode b_R_controls 31 = .ok (.iload_n 1, 1) := by decide +kernel
theorem d_R_controls_32 : decode b_R_controls 32 = .ok (.sipush 256, 3) := by decide +kernel
theorem d_R_controls_35 : decode b_R_controls 35 = .ok (.iand, 1) := by decide +kernel
theorem d_R_controls_36 : decode b_R_controls 36 = .ok (.ifCond .ne 24, 3) := by decide +kernel
theorem d_R_controls_39 : decode b_R_controls 39 = .ok (.aload_n 0, 1) := by decide +kernel
theorem d_R_controls_40 : decode b_R_controls 40 = .ok (.iload_n 2, 1) := by decide +kernel
theorem d_R_controls_41 : decode b_R_controls 41 = .ok (.bipush 15, 2) := by decide +kernel
theorem d_R_controls_43 : decode b_R_controls 43 = .ok (.iand, 1) := by decide +kernel
theorem d_R_controls_44 : decode b_R_controls 44 = .ok (.bipush 10, 2) := by decide +kernel
theorem d_R_controls_46 : decode b_R_controls 46 = .ok (.if_icmp .ne 7, 3) := by decide +kernel
theorem d_R_controls_49 : decode b_R_controls 49 = .ok (.iconst 1, 1) := by decide +kernel
theorem d_R_controls_50 : decode b_R_controls 50 = .ok (.goto 4, 3) := by decide +kernel
theorem d_R_controls_53 : decode b_R_controls 53 = .ok (.iconst 0, 1) := by decide +kernel
theorem d_R_controls_54 : decode b_R_controls 54 = .ok (.putfield 45, 3) := by decide +kernel
theorem d_R_controls_57 : decode b_R_controls 57 = .ok (.goto 25, 3) := by decide +kernel
theorem d_R_controls_60 : decode b_R_controls 60 = .ok (.aload_n 0, 1) := by decide +kernel
theorem d_R_controls_61 : decode b_R_controls 61 = .ok (.iload_n 2, 1) := by decide +kernel
theorem d_R_controls_62 : decode b_R_controls 62 = .ok (.bipush 15, 2) := by decide +kernel
theorem d_R_controls_64 : decode b_R_controls 64 = .ok (.iand, 1) := by decide +kernel
theorem d_R_controls_65 : decode b_R_controls 65 = .ok (.ifCond .ne 7, 3) := by decide +kernel
theorem d_R_controls_68 : decode b_R_controls 68 = .ok (.iconst 1, 1) := by decide +kernel
theorem d_R_controls_69 : decode b_R_controls 69 = .ok (.goto 7, 3) := by decide +kernel
theorem d_R_controls_72 : decode b_R_controls 72 = .ok (.iload_n 2, 1) := by decide +kernel
theorem d_R_controls_73 : decode b_R_controls 73 = .ok (.bipush 15, 2) := by decide +kernel
theorem d_R_controls_75 : decode b_R_controls 75 = .ok (.iand, 1) := by decide +kernel
theorem d_R_controls_76 : decode b_R_controls 76 = .ok (.bipush 8, 2) := by decide +kernel
theorem d_R_controls_78 : decode b_R_controls 78 = .ok (.irem, 1) := by decide +kernel
theorem d_R_controls_79 : decode b_R_controls 79 = .ok (.putfield 64, 3) := by decide +kernel
theorem d_R_controls_82 : decode b_R_controls 82 = .ok (.return_, 1) := by decide +kernel
theorem d_R_controls_83 : decode b_R_controls 83 = .ok (.iload_n 1, 1) := by decide +kernel
theorem d_R_controls_84 : decode b_R_controls 84 = .ok (.sipush 8192, 3) := by decide +kernel
theorem d_R_controls_87 : decode b_R_controls 87 = .ok (.if_icmp .ge 24, 3) := by decide +kernel
theorem d_R_controls_90 : decode b_R_controls 90 = .ok (.aload_n 0, 1) := by decide +kernel
theorem d_R_controls_91 : decode b_R_controls 91 = .ok (.iload_n 2, 1) := by decide +kernel
theorem d_R_controls_92 : decode b_R_controls 92 = .ok (.bipush 15, 2) := by decide +kernel
theorem d_R_controls_94 : decode b_R_controls 94 = .ok (.iand, 1) := by decide +kernel
theorem d_R_controls_95 : decode b_R_controls 95 = .ok (.bipush 10, 2) := by decide +kernel
theorem d_R_controls_97 : decode b_R_controls 97 = .ok (.if_icmp .ne 7, 3) := by decide +kernel
theorem d_R_controls_100 : decode b_R_controls 100 = .ok (.iconst 1, 1) := by decide +kernel
theorem d_R_controls_101 : decode b_R_controls 101 = .ok (.goto 4, 3) := by decide +kernel
theorem d_R_controls_104 : decode b_R_controls 104 = .ok (.iconst 0, 1) := by decide +kernel
theorem d_R_controls_105 : decode b_R_controls 105 = .ok (.putfield 45, 3) := by decide +kernel
theorem d_R_controls_108 : decode b_R_controls 108 = .ok (.goto 134, 3) := by decide +kernel
theorem d_R_controls_111 : decode b_R_controls 111 = .ok (.aload_n 0, 1) := by decide +kernel
theorem d_R_controls_112 : decode b_R_controls 112 = .ok (.getfield 164, 3) := by decide +kernel
theorem d_R_controls_115 : decode b_R_controls 115 = .ok (.iconst 1, 1) := by decide +kernel
theorem d_R_controls_116 : decode b_R_controls 116 = .ok (.if_icmp .ne 59, 3) := by decide +kernel
theorem d_R_controls_119 : decode b_R_controls 119 = .ok (.iload_n 1, 1) := by decide +kernel
theorem d_R_controls_120 : decode b_R_controls 120 = .ok (.sipush 16384, 3) := by decide +kernel
theorem d_R_controls_123 : decode b_R_controls 123 = .ok (.if_icmp .ge 25, 3) := by decide +kernel
theorem d_R_controls_126 : decode b_R_controls 126 = .ok (.aload_n 0, 1) := by decide +kernel
theorem d_R_controls_127 : decode b_R_controls 127 = .ok (.iload_n 2, 1) := by decide +kernel
theorem d_R_controls_128 : decode b_R_controls 128 = .ok (.bipush 31, 2) := by decide +kernel
theorem d_R_controls_130 : decode b_R_controls 130 = .ok (.iand, 1) := by decide +kernel
theorem d_R_controls_131 : decode b_R_controls 131 = .ok (.ifCond .ne 7, 3) := by decide +kernel
theorem d_R_controls_134 : decode b_R_controls 134 = .ok (.iconst 1, 1) := by decide +kernel
theorem d_R_controls_135 : decode b_R_controls 135 = .ok (.goto 7, 3) := by decide +kernel
theorem d_R_controls_138 : decode b_R_controls 138 = .ok (.iload_n 2, 1) := by decide +kernel
theorem d_R_controls_139 : decode b_R_controls 139 = .ok (.bipush 31, 2) := by decide +kernel
theorem d_R_controls_141 : decode b_R_controls 141 = .ok (.iand, 1) := by decide +kernel
theorem d_R_controls_142 : decode b_R_controls 142 = .ok (.putfield 49, 3) := by decide +kernel
theorem d_R_controls_145 : decode b_R_controls 145 = .ok (.goto 97, 3) := by decide +kernel
theorem d_R_controls_148 : decode b_R_controls 148 = .ok (.iload_n 1, 1) := by decide +kernel
theorem d_R_controls_149 : decode b_R_controls 149 = .ok (.sipush 24576, 3) := by decide +kernel
theorem d_R_controls_152 : decode b_R_controls 152 = .ok (.if_icmp .ge 13, 3) := by decide +kernel
theorem d_R_controls_155 : decode b_R_controls 155 = .ok (.aload_n 0, 1) := by decide +kernel
theorem d_R_controls_156 : decode b_R_controls 156 = .ok (.iload_n 2, 1) := by decide +kernel
theorem d_R_controls_157 : decode b_R_controls 157 = .ok (.iconst 3, 1) := by decide +kernel
theorem d_R_controls_158 : decode b_R_controls 158 = .ok (.iand, 1) := by decide +kernel
theorem d_R_controls_159 : decode b_R_controls 159 = .ok (.putfield 52, 3) := by decide +kernel
theorem d_R_controls_162 : decode b_R_controls 162 = .ok (.goto 80, 3) := by decide +kernel
theorem d_R_controls_165 : decode b_R_controls 165 = .ok (.aload_n 0, 1) := by decide +kernel
theorem d_R_controls_166 : decode b_R_controls 166 = .ok (.iload_n 2, 1) := by decide +kernel
theorem d_R_controls_167 : decode b_R_controls 167 = .ok (.iconst 1, 1) := by decide +kernel
theorem d_R_controls_168 : decode b_R_controls 168 = .ok (.iand, 1) := by decide +kernel
theorem d_R_controls_169 : decode b_R_controls 169 = .ok (.putfield 55, 3) := by decide +kernel
theorem d_R_controls_172 : decode b_R_controls 172 = .ok (.goto 70, 3) := by decide +kernel
theorem d_R_controls_175 : decode b_R_controls 175 = .ok (.iload_n 1, 1) := by decide +kernel
theorem d_R_controls_176 : decode b_R_controls 176 = .ok (.sipush 12288, 3) := by decide +kernel
theorem d_R_controls_179 : decode b_R_controls 179 = .ok (.if_icmp .ge 20, 3) := by decide +kernel
theorem d_R_controls_182 : decode b_R_controls 182 = .ok (.aload_n 0, 1) := by decide +kernel
theorem d_R_controls_183 : decode b_R_controls 183 = .ok (.aload_n 0, 1) := by decide +kernel
theorem d_R_controls_184 : decode b_R_controls 184 = .ok (.getfield 58, 3) := by decide +kernel
theorem d_R_controls_187 : decode b_R_controls 187 = .ok (.sipush 256, 3) := by decide +kernel
theorem d_R_controls_190 : decode b_R_controls 190 = .ok (.iand, 1) := by decide +kernel
theorem d_R_controls_191 : decode b_R_controls 191 = .ok (.iload_n 2, 1) := by decide +kernel
theorem d_R_controls_192 : decode b_R_controls 192 = .ok (.ior, 1) := by decide +kernel
theorem d_R_controls_193 : decode b_R_controls 193 = .ok (.putfield 58, 3) := by decide +kernel
theorem d_R_controls_196 : decode b_R_controls 196 = .ok (.goto 46, 3) := by decide +kernel
theorem d_R_controls_199 : decode b_R_controls 199 = .ok (.iload_n 1, 1) := by decide +kernel
theorem d_R_controls_200 : decode b_R_controls 200 = .ok (.sipush 16384, 3) := by decide +kernel
theorem d_R_controls_203 : decode b_R_controls 203 = .ok (.if_icmp .ge 25, 3) := by decide +kernel
theorem d_R_controls_206 : decode b_R_controls 206 = .ok (.aload_n 0, 1) := by decide +kernel
theorem d_R_controls_207 : decode b_R_controls 207 = .ok (.aload_n 0, 1) := by decide +kernel
theorem d_R_controls_208 : decode b_R_controls 208 = .ok (.getfield 58, 3) := by decide +kernel
theorem d_R_controls_211 : decode b_R_controls 211 = .ok (.sipush 255, 3) := by decide +kernel
theorem d_R_controls_214 : decode b_R_controls 214 = .ok (.iand, 1) := by decide +kernel
theorem d_R_controls_215 : decode b_R_controls 215 = .ok (.iload_n 2, 1) := by decide +kernel
theorem d_R_controls_216 : decode b_R_controls 216 = .ok (.iconst 1, 1) := by decide +kernel
theorem d_R_controls_217 : decode b_R_controls 217 = .ok (.iand, 1) := by decide +kernel
theorem d_R_controls_218 : decode b_R_controls 218 = .ok (.bipush 8, 2) := by decide +kernel
theorem d_R_controls_220 : decode b_R_controls 220 = .ok (.ishl, 1) := by decide +kernel
theorem d_R_controls_221 : decode b_R_controls 221 = .ok (.ior, 1) := by decide +kernel
theorem d_R_controls_222 : decode b_R_controls 222 = .ok (.putfield 58, 3) := by decide +kernel
theorem d_R_controls_225 : decode b_R_controls 225 = .ok (.goto 17, 3) := by decide +kernel
theorem d_R_controls_228 : decode b_R_controls 228 = .ok (.iload_n 1, 1) := by decide +kernel
theorem d_R_controls_229 : decode b_R_controls 229 = .ok (.sipush 24576, 3) := by decide +kernel
theorem d_R_controls_232 : decode b_R_controls 232 = .ok (.if_icmp .ge 10, 3) := by decide +kernel
theorem d_R_controls_235 : decode b_R_controls 235 = .ok (.aload_n 0, 1) := by decide +kernel
theorem d_R_controls_236 : decode b_R_controls 236 = .ok (.iload_n 2, 1) := by decide +kernel
theorem d_R_controls_237 : decode b_R_controls 237 = .ok (.iconst 3, 1) := by decide +kernel
theorem d_R_controls_238 : decode b_R_controls 238 = .ok (.iand, 1) := by decide +kernel
theorem d_R_controls_239 : decode b_R_controls 239 = .ok (.putfield 61, 3) := by decide +kernel
theorem d_R_controls_242 : decode b_R_controls 242 = .ok (.return_, 1) := by decide +kernel
theorem d_R_state_0 : decode b_R_state 0 = .ok (.aload_n 0, 1) := by decide +kernel
theorem d_R_state_1 : decode b_R_state 1 = .ok (.getfield 107, 3) := by decide +kernel
theorem d_R_state_4 : decode b_R_state 4 = .ok (.sipush 128, 3) := by decide +kernel
theorem d_R_state_7 : decode b_R_state 7 = .ok (.iand, 1) := by decide +kernel
theorem d_R_state_8 : decode b_R_state 8 = .ok (.ifCond .ne 5, 3) := by decide +kernel
theorem d_R_state_11 : decode b_R_state 11 = .ok (.iconst 0, 1) := by decide +kernel
theorem d_R_state_12 : decode b_R_state 12 = .ok (.ireturn, 1) := by decide +kernel
theorem d_R_state_13 : decode b_R_state 13 = .ok (.aload_n 0, 1) := by decide +kernel
theorem d_R_state_14 : decode b_R_state 14 = .ok (.getfield 119, 3) := by decide +kernel
theorem d_R_state_17 : decode b_R_state 17 = .ok (.sipush 144, 3) := by decide +kernel
theorem d_R_state_20 : decode b_R_state 20 = .ok (.if_icmp .lt 7, 3) := by decide +kernel
theorem d_R_state_23 : decode b_R_state 23 = .ok (.iconst 1, 1) := by decide +kernel
theorem d_R_state_24 : decode b_R_state 24 = .ok (.goto 30, 3) := by decide +kernel
theorem d_R_state_27 : decode b_R_state 27 = .ok (.aload_n 0, 1) := by decide +kernel
theorem d_R_state_28 : decode b_R_state 28 = .ok (.getfield 143, 3) := by decide +kernel
theorem d_R_state_31 : decode b_R_state 31 = .ok (.bipush 20, 2) := by decide +kernel
theorem d_R_state_33 : decode b_R_state 33 = .ok (.if_icmp .ge 7, 3) := by decide +kernel
theorem d_R_state_36 : decode b_R_state 36 = .ok (.iconst 2, 1) := by decide +kernel
theorem d_R_state_37 : decode b_R_state 37 = .ok (.goto 17, 3) := by decide +kernel
theorem d_R_state_40 : decode b_R_state 40 = .ok (.aload_n 0, 1) := by decide +kernel
theorem d_R_state_41 : decode b_R_state 41 = .ok (.getfield 143, 3) := by decide +kernel
theorem d_R_state_44 : decode b_R_state 44 = .ok (.bipush 63, 2) := by decide +kernel
theorem d_R_state_46 : decode b_R_state 46 = .ok (.if_icmp .ge 7, 3) := by decide +kernel
theorem d_R_state_49 : decode b_R_state 49 = .ok (.iconst 3, 1) := by decide +kernel
theorem d_R_state_50 : decode b_R_state 50 = .ok (.goto 4, 3) := by decide +kernel
theorem d_R_state_53 : decode b_R_state 53 = .ok (.iconst 0, 1) := by decide +kernel
theorem d_R_state_54 : decode b_R_state 54 = .ok (.ireturn, 1) := by decide +kernel
theorem d_R_keyBits_0 : decode b_R_keyBits 0 = .ok (.bipush 15, 2) := by decide +kernel
theorem d_R_keyBits_2 : decode b_R_keyBits 2 = .ok (.istore_n 1, 1) := by decide +kernel
theorem d_R_keyBits_3 : decode b_R_keyBits 3 = .ok (.iconst 0, 1) := by decide +kernel
theorem d_R_keyBits_4 : decode b_R_keyBits 4 = .ok (.istore_n 2, 1) := by decide +kernel
theorem d_R_keyBits_5 : decode b_R_keyBits 5 = .ok (.iload_n 2, 1) := by decide +kernel
theorem d_R_keyBits_6 : decode b_R_keyBits 6 = .ok (.iconst 4, 1) := by decide +kernel
theorem d_R_keyBits_7 : decode b_R_keyBits 7 = .ok (.if_icmp .ge 63, 3) := by decide +kernel
theorem d_R_keyBits_10 : decode b_R_keyBits 10 = .ok (.aload_n 0, 1) := by decide +kernel
theorem d_R_keyBits_11 : decode b_R_keyBits 11 = .ok (.getfield 86, 3) := by decide +kernel
theorem d_R_keyBits_14 : decode b_R_keyBits 14 = .ok (.bipush 16, 2) := by decide +kernel
theorem d_R_keyBits_16 : decode b_R_keyBits 16 = .ok (.iand, 1) := by decide +kernel
theorem d_R_keyBits_17 : decode b_R_keyBits 17 = .ok (.ifCond .ne 15, 3) := by decide +kernel
theorem d_R_keyBits_20 : decode b_R_keyBits 20 = .ok (.aload_n 0, 1) := by decide +kernel
theorem d_R_keyBits_21 : decode b_R_keyBits 21 = .ok (.getfield 167, 3) := by decide +kernel
theorem d_R_keyBits_24 : decode b_R_keyBits 24 = .ok (.iload_n 2, 1) := by decide +kernel
theorem d_R_keyBits_25 : decode b_R_keyBits 25 = .ok (.ishr, 1) := by decide +kernel
theorem d_R_keyBits_26 : decode b_R_keyBits 26 = .ok (.iconst 1, 1) := by decide +kernel
theorem d_R_keyBits_27 : decode b_R_keyBits 27 = .ok (.iand, 1) := by decide +kernel
theorem d_R_keyBits_28 : decode b_R_keyBits 28 = .ok (.iconst 1, 1) := by decide +kernel
theorem d_R_keyBits_29 : decode b_R_keyBits 29 = .ok (.if_icmp .eq 27, 3) := by decide +kernel
theorem d_R_keyBits_32 : decode b_R_keyBits 32 = .ok (.aload_n 0, 1) := by decide +kernel
theorem d_R_keyBits_33 : decode b_R_keyBits 33 = .ok (.getfield 86, 3) := by decide +kernel
theorem d_R_keyBits_36 : decode b_R_keyBits 36 = .ok (.bipush 32, 2) := by decide +kernel
theorem d_R_keyBits_38 : decode b_R_keyBits 38 = .ok (.iand, 1) := by decide +kernel
theorem d_R_keyBits_39 : decode b_R_keyBits 39 = .ok (.ifCond .ne 25, 3) := by decide +kernel
theorem d_R_keyBits_42 : decode b_R_keyBits 42 = .ok (.aload_n 0, 1) := by decide +kernel
theorem d_R_keyBits_43 : decode b_R_keyBits 43 = .ok (.getfield 167, 3) := by decide +kernel
theorem d_R_keyBits_46 : decode b_R_keyBits 46 = .ok (.iload_n 2, 1) := by decide +kernel
theorem d_R_keyBits_47 : decode b_R_keyBits 47 = .ok (.iconst 4, 1) := by decide +kernel
theorem d_R_keyBits_48 : decode b_R_keyBits 48 = .ok (.iadd, 1) := by decide +kernel
theorem d_R_keyBits_49 : decode b_R_keyBits 49 = .ok (.ishr, 1) := by decide +kernel
theorem d_R_keyBits_50 : decode b_R_keyBits 50 = .ok (.iconst 1, 1) := by decide +kernel
theorem d_R_keyBits_51 : decode b_R_keyBits 51 = .ok (.iand, 1) := by decide +kernel
theorem d_R_keyBits_52 : decode b_R_keyBits 52 = .ok (.iconst 1, 1) := by decide +kernel
theorem d_R_keyBits_53 : decode b_R_keyBits 53 = .ok (.if_icmp .ne 11, 3) := by decide +kernel
theorem d_R_keyBits_56 : decode b_R_keyBits 56 = .ok (.iload_n 1, 1) := by decide +kernel
theorem d_R_keyBits_57 : decode b_R_keyBits 57 = .ok (.iconst 1, 1) := by decide +kernel
theorem d_R_keyBits_58 : decode b_R_keyBits 58 = .ok (.iload_n 2, 1) := by decide +kernel
theorem d_R_keyBits_59 : decode b_R_keyBits 59 = .ok (.ishl, 1) := by decide +kernel
theorem d_R_keyBits_60 : decode b_R_keyBits 60 = .ok (.iconst (-1), 1) := by decide +kernel
theorem d_R_keyBits_61 : decode b_R_keyBits 61 = .ok (.ixor, 1) := by decide +kernel
theorem d_R_keyBits_62 : decode b_R_keyBits 62 = .ok (.iand, 1) := by decide +kernel
theorem d_R_keyBits_63 : decode b_R_keyBits 63 = .ok (.istore_n 1, 1) := by decide +kernel
theorem d_R_keyBits_64 : decode b_R_keyBits 64 = .ok (.iinc 2 1, 3) := by decide +kernel
theorem d_R_keyBits_67 : decode b_R_keyBits 67 = .ok (.goto (-62), 3) := by decide +kernel
theorem d_R_keyBits_70 : decode b_R_keyBits 70 = .ok (.sipush 192, 3) := by decide +kernel
theorem d_R_keyBits_73 : decode b_R_keyBits 73 = .ok (.aload_n 0, 1) := by decide +kernel
theorem d_R_keyBits_74 : decode b_R_keyBits 74 = .ok (.getfield 86, 3) := by decide +kernel
theorem d_R_keyBits_77 : decode b_R_keyBits 77 = .ok (.ior, 1) := by decide +kernel
theorem d_R_keyBits_78 : decode b_R_keyBits 78 = .ok (.iload_n 1, 1) := by decide +kernel
theorem d_R_keyBits_79 : decode b_R_keyBits 79 = .ok (.ior, 1) := by decide +kernel
theorem d_R_keyBits_80 : decode b_R_keyBits 80 = .ok (.ireturn, 1) := by decide +kernel
