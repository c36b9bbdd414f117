theorem d_S_chooseSprites_0 : decode b_S_chooseSprites 0 = .ok (.aload_n 0, 1) := by decide +kernel
theorem d_S_chooseSprites_1 : decode b_S_chooseSprites 1 = .ok (.iconst 4, 1) := by decide +kernel
theorem d_S_chooseSprites_2 : decode b_S_chooseSprites 2 = .ok (.invokevirtual 37, 3) := by decide +kernel
theorem d_S_chooseSprites_5 : decode b_S_chooseSprites 5 = .ok (.ifCond .eq 8, 3) := by decide +kernel
theorem d_S_chooseSprites_8 : decode b_S_chooseSprites 8 = .ok (.bipush 16, 2) := by decide +kernel
theorem d_S_chooseSprites_10 : decode b_S_chooseSprites 10 = .ok (.goto 5, 3) := by decide +kernel
theorem d_S_chooseSprites_13 : decode b_S_chooseSprites 13 = .ok (.bipush 8, 2) := by decide +kernel
theorem d_S_chooseSprites_15 : decode b_S_chooseSprites 15 = .ok (.istore_n 2, 1) := by decide +kernel
theorem d_S_chooseSprites_16 : decode b_S_chooseSprites 16 = .ok (.iconst 0, 1) := by decide +kernel
theorem d_S_chooseSprites_17 : decode b_S_chooseSprites 17 = .ok (.istore_n 3, 1) := by decide +kernel
theorem d_S_chooseSprites_18 : decode b_S_chooseSprites 18 = .ok (.iconst 0, 1) := by decide +kernel
theorem d_S_chooseSprites_19 : decode b_S_chooseSprites 19 = .ok (.istore 4, 2) := by decide +kernel
theorem d_S_chooseSprites_21 : decode b_S_chooseSprites 21 = .ok (.iload 4, 2) := by decide +kernel
theorem d_S_chooseSprites_23 : decode b_S_chooseSprites 23 = .ok (.bipush 40, 2) := by decide +kernel
theorem d_S_chooseSprites_25 : decode b_S_chooseSprites 25 = .ok (.if_icmp .ge 56, 3) := by decide +kernel
theorem d_S_chooseSprites_28 : decode b_S_chooseSprites 28 = .ok (.iload_n 3, 1) := by decide +kernel
theorem d_S_chooseSprites_29 : decode b_S_chooseSprites 29 = .ok (.bipush 10, 2) := by decide +kernel
theorem d_S_chooseSprites_31 : decode b_S_chooseSprites 31 = .ok (.if_icmp .ge 50, 3) := by decide +kernel
theorem d_S_chooseSprites_34 : decode b_S_chooseSprites 34 = .ok (.iload_n 1, 1) := by decide +kernel
theorem d_S_chooseSprites_35 : decode b_S_chooseSprites 35 = .ok (.aload_n 0, 1) := by decide +kernel
theorem d_S_chooseSprites_36 : decode b_S_chooseSprites 36 = .ok (.getfield 25, 3) := by decide +kernel
theorem d_S_chooseSprites_39 : decode b_S_chooseSprites 39 = .ok (.iconst 4, 1) := by decide +kernel
theorem d_S_chooseSprites_40 : decode b_S_chooseSprites 40 = .ok (.iload 4, 2) := by decide +kernel
theorem d_S_chooseSprites_42 : decode b_S_chooseSprites 42 = .ok (.imul, 1) := by decide +kernel
theorem d_S_chooseSprites_43 : decode b_S_chooseSprites 43 = .ok (.iaload, 1) := by decide +kernel
theorem d_S_chooseSprites_44 : decode b_S_chooseSprites 44 = .ok (.bipush 16, 2) := by decide +kernel
theorem d_S_chooseSprites_46 : decode b_S_chooseSprites 46 = .ok (.isub, 1) := by decide +kernel
theorem d_S_chooseSprites_47 : decode b_S_chooseSprites 47 = .ok (.isub, 1) := by decide +kernel
theorem d_S_chooseSprites_48 : decode b_S_chooseSprites 48 = .ok (.istore 5, 2) := by decide +kernel
theorem d_S_chooseSprites_50 : decode b_S_chooseSprites 50 = .ok (.iload 5, 2) := by decide +kernel
theorem d_S_chooseSprites_52 : decode b_S_chooseSprites 52 = .ok (.ifCond .lt 23, 3) := by decide +kernel
theorem d_S_chooseSprites_55 : decode b_S_chooseSprites 55 = .ok (.iload 5, 2) := by decide +kernel
theorem d_S_chooseSprites_57 : decode b_S_chooseSprites 57 = .ok (.iload_n 2, 1) := by decide +kernel
theorem d_S_chooseSprites_58 : decode b_S_chooseSprites 58 = .ok (.if_icmp .ge 17, 3) := by decide +kernel
theorem d_S_chooseSprites_61 : decode b_S_chooseSprites 61 = .ok (.aload_n 0, 1) := by decide +kernel
theorem d_S_chooseSprites_62 : decode b_S_chooseSprites 62 = .ok (.iconst 4, 1) := by decide +kernel
theorem d_S_chooseSprites_63 : decode b_S_chooseSprites 63 = .ok (.iload 4, 2) := by decide +kernel
theorem d_S_chooseSprites_65 : decode b_S_chooseSprites 65 = .ok (.imul, 1) := by decide +kernel
theorem d_S_chooseSprites_66 : decode b_S_chooseSprites 66 = .ok (.iload 5, 2) := by decide +kernel
theorem d_S_chooseSprites_68 : decode b_S_chooseSprites 68 = .ok (.iload_n 2, 1) := by decide +kernel
theorem d_S_chooseSprites_69 : decode b_S_chooseSprites 69 = .ok (.invokevirtual 61, 3) := by decide +kernel
theorem d_S_chooseSprites_72 : decode b_S_chooseSprites 72 = .ok (.iinc 3 1, 3) := by decide +kernel
theorem d_S_chooseSprites_75 : decode b_S_chooseSprites 75 = .ok (.iinc 4 1, 3) := by decide +kernel
theorem d_S_chooseSprites_78 : decode b_S_chooseSprites 78 = .ok (.goto (-57), 3) := by decide +kernel
theorem d_S_chooseSprites_81 : decode b_S_chooseSprites 81 = .ok (.return_, 1) := by decide +kernel
theorem d_S_mapNumber_0 : decode b_S_mapNumber 0 = .ok (.aload_n 0, 1) := by decide +kernel
theorem d_S_mapNumber_1 : decode b_S_mapNumber 1 = .ok (.getfield 22, 3) := by decide +kernel
theorem d_S_mapNumber_4 : decode b_S_mapNumber 4 = .ok (.iload_n 1, 1) := by decide +kernel
theorem d_S_mapNumber_5 : decode b_S_mapNumber 5 = .ok (.ifCond .eq 9, 3) := by decide +kernel
theorem d_S_mapNumber_8 : decode b_S_mapNumber 8 = .ok (.sipush 7168, 3) := by decide +kernel
theorem d_S_mapNumber_11 : decode b_S_mapNumber 11 = .ok (.goto 6, 3) := by decide +kernel
theorem d_S_mapNumber_14 : decode b_S_mapNumber 14 = .ok (.sipush 6144, 3) := by decide +kernel
theorem d_S_mapNumber_17 : decode b_S_mapNumber 17 = .ok (.bipush 32, 2) := by decide +kernel
theorem d_S_mapNumber_19 : decode b_S_mapNumber 19 = .ok (.iload_n 3, 1) := by decide +kernel
theorem d_S_mapNumber_20 : decode b_S_mapNumber 20 = .ok (.iconst 3, 1) := by decide +kernel
theorem d_S_mapNumber_21 : decode b_S_mapNumber 21 = .ok (.ishr, 1) := by decide +kernel
theorem d_S_mapNumber_22 : decode b_S_mapNumber 22 = .ok (.bipush 31, 2) := by decide +kernel
theorem d_S_mapNumber_24 : decode b_S_mapNumber 24 = .ok (.iand, 1) := by decide +kernel
theorem d_S_mapNumber_25 : decode b_S_mapNumber 25 = .ok (.imul, 1) := by decide +kernel
theorem d_S_mapNumber_26 : decode b_S_mapNumber 26 = .ok (.iadd, 1) := by decide +kernel
theorem d_S_mapNumber_27 : decode b_S_mapNumber 27 = .ok (.iload_n 2, 1) := by decide +kernel
theorem d_S_mapNumber_28 : decode b_S_mapNumber 28 = .ok (.iconst 3, 1) := by decide +kernel
theorem d_S_mapNumber_29 : decode b_S_mapNumber 29 = .ok (.ishr, 1) := by decide +kernel
theorem d_S_mapNumber_30 : decode b_S_mapNumber 30 = .ok (.bipush 31, 2) := by decide +kernel
theorem d_S_mapNumber_32 : decode b_S_mapNumber 32 = .ok (.iand, 1) := by decide +kernel
theorem d_S_mapNumber_33 : decode b_S_mapNumber 33 = .ok (.iadd, 1) := by decide +kernel
theorem d_S_mapNumber_34 : decode b_S_mapNumber 34 = .ok (.iaload, 1) := by decide +kernel
theorem d_S_mapNumber_35 : decode b_S_mapNumber 35 = .ok (.istore 4, 2) := by decide +kernel
theorem d_S_mapNumber_37 : decode b_S_mapNumber 37 = .ok (.aload_n 0, 1) := by decide +kernel
theorem d_S_mapNumber_38 : decode b_S_mapNumber 38 = .ok (.bipush 16, 2) := by decide +kernel
theorem d_S_mapNumber_40 : decode b_S_mapNumber 40 = .ok (.invokevirtual 37, 3) := by decide +kernel
theorem d_S_mapNumber_43 : decode b_S_mapNumber 43 = .ok (.ifCond .eq 11, 3) := by decide +kernel
theorem d_S_mapNumber_46 : decode b_S_mapNumber 46 = .ok (.bipush 16, 2) := by decide +kernel
theorem d_S_mapNumber_48 : decode b_S_mapNumber 48 = .ok (.iload 4, 2) := by decide +kernel
theorem d_S_mapNumber_50 : decode b_S_mapNumber 50 = .ok (.imul, 1) := by decide +kernel
theorem d_S_mapNumber_51 : decode b_S_mapNumber 51 = .ok (.goto 13, 3) := by decide +kernel
theorem d_S_mapNumber_54 : decode b_S_mapNumber 54 = .ok (.sipush 4096, 3) := by decide +kernel
theorem d_S_mapNumber_57 : decode b_S_mapNumber 57 = .ok (.bipush 16, 2) := by decide +kernel
theorem d_S_mapNumber_59 : decode b_S_mapNumber 59 = .ok (.iload 4, 2) := by decide +kernel
theorem d_S_mapNumber_61 : decode b_S_mapNumber 61 = .ok (.i2b, 1) := by decide +kernel
theorem d_S_mapNumber_62 : decode b_S_mapNumber 62 = .ok (.imul, 1) := by decide +kernel
theorem d_S_mapNumber_63 : decode b_S_mapNumber 63 = .ok (.iadd, 1) := by decide +kernel
theorem d_S_mapNumber_64 : decode b_S_mapNumber 64 = .ok (.istore 5, 2) := by decide +kernel
theorem d_S_mapNumber_66 : decode b_S_mapNumber 66 = .ok (.aload_n 0, 1) := by decide +kernel
theorem d_S_mapNumber_67 : decode b_S_mapNumber 67 = .ok (.iload 5, 2) := by decide +kernel
theorem d_S_mapNumber_69 : decode b_S_mapNumber 69 = .ok (.iconst 2, 1) := by decide +kernel
theorem d_S_mapNumber_70 : decode b_S_mapNumber 70 = .ok (.iload_n 3, 1) := by decide +kernel
theorem d_S_mapNumber_71 : decode b_S_mapNumber 71 = .ok (.bipush 7, 2) := by decide +kernel
theorem d_S_mapNumber_73 : decode b_S_mapNumber 73 = .ok (.iand, 1) := by decide +kernel
theorem d_S_mapNumber_74 : decode b_S_mapNumber 74 = .ok (.imul, 1) := by decide +kernel
theorem d_S_mapNumber_75 : decode b_S_mapNumber 75 = .ok (.iadd, 1) := by decide +kernel
theorem d_S_mapNumber_76 : decode b_S_mapNumber 76 = .ok (.bipush 7, 2) := by decide +kernel
theorem d_S_mapNumber_78 : decode b_S_mapNumber 78 = .ok (.iload_n 2, 1) := by decide +kernel
theorem d_S_mapNumber_79 : decode b_S_mapNumber 79 = .ok (.bipush 7, 2) := by decide +kernel
theorem d_S_mapNumber_81 : decode b_S_mapNumber 81 = .ok (.iand, 1) := by decide +kernel
theorem d_S_mapNumber_82 : decode b_S_mapNumber 82 = .ok (.isub, 1) := by decide +kernel
theorem d_S_mapNumber_83 : decode b_S_mapNumber 83 = .ok (.invokevirtual 58, 3) := by decide +kernel
theorem d_S_mapNumber_86 : decode b_S_mapNumber 86 = .ok (.ireturn, 1) := by decide +kernel
theorem d_S_backgroundNumber_0 : decode b_S_backgroundNumber 0 = .ok (.aload_n 0, 1) := by decide +kernel
theorem d_S_backgroundNumber_1 : decode b_S_backgroundNumber 1 = .ok (.iconst 1, 1) := by decide +kernel
theorem d_S_backgroundNumber_2 : decode b_S_backgroundNumber 2 = .ok (.invokevirtual 37, 3) := by decide +kernel
theorem d_S_backgroundNumber_5 : decode b_S_backgroundNumber 5 = .ok (.ifCond .ne 5, 3) := by decide +kernel
theorem d_S_backgroundNumber_8 : decode b_S_backgroundNumber 8 = .ok (.iconst 0, 1) := by decide +kernel
theorem d_S_backgroundNumber_9 : decode b_S_backgroundNumber 9 = .ok (.ireturn, 1) := by decide +kernel
theorem d_S_backgroundNumber_10 : decode b_S_backgroundNumber 10 = .ok (.aload_n 0, 1) := by decide +kernel
theorem d_S_backgroundNumber_11 : decode b_S_backgroundNumber 11 = .ok (.getfield 28, 3) := by decide +kernel
theorem d_S_backgroundNumber_14 : decode b_S_backgroundNumber 14 = .ok (.bipush 75, 2) := by decide +kernel
theorem d_S_backgroundNumber_16 : decode b_S_backgroundNumber 16 = .ok (.iaload, 1) := by decide +kernel
theorem d_S_backgroundNumber_17 : decode b_S_backgroundNumber 17 = .ok (.istore_n 3, 1) := by decide +kernel
theorem d_S_backgroundNumber_18 : decode b_S_backgroundNumber 18 = .ok (.aload_n 0, 1) := by decide +kernel
theorem d_S_backgroundNumber_19 : decode b_S_backgroundNumber 19 = .ok (.getfield 28, 3) := by decide +kernel
theorem d_S_backgroundNumber_22 : decode b_S_backgroundNumber 22 = .ok (.bipush 74, 2) := by decide +kernel
theorem d_S_backgroundNumber_24 : decode b_S_backgroundNumber 24 = .ok (.iaload, 1) := by decide +kernel
theorem d_S_backgroundNumber_25 : decode b_S_backgroundNumber 25 = .ok (.istore 4, 2) := by decide +kernel
theorem d_S_backgroundNumber_27 : decode b_S_backgroundNumber 27 = .ok (.aload_n 0, 1) := by decide +kernel
theorem d_S_backgroundNumber_28 : decode b_S_backgroundNumber 28 = .ok (.bipush 32, 2) := by decide +kernel
theorem d_S_backgroundNumber_30 : decode b_S_backgroundNumber 30 = .ok (.invokevirtual 37, 3) := by decide +kernel
theorem d_S_backgroundNumber_33 : decode b_S_backgroundNumber 33 = .ok (.ifCond .eq 38, 3) := by decide +kernel
theorem d_S_backgroundNumber_36 : decode b_S_backgroundNumber 36 = .ok (.iload_n 2, 1) := by decide +kernel
theorem d_S_backgroundNumber_37 : decode b_S_backgroundNumber 37 = .ok (.iload 4, 2) := by decide +kernel
theorem d_S_backgroundNumber_39 : decode b_S_backgroundNumber 39 = .ok (.if_icmp .lt 32, 3) := by decide +kernel
theorem d_S_backgroundNumber_42 : decode b_S_backgroundNumber 42 = .ok (.iload_n 1, 1) := by decide +kernel
theorem d_S_backgroundNumber_43 : decode b_S_backgroundNumber 43 = .ok (.bipush 7, 2) := by decide +kernel
theorem d_S_backgroundNumber_45 : decode b_S_backgroundNumber 45 = .ok (.iadd, 1) := by decide +kernel
theorem d_S_backgroundNumber_46 : decode b_S_backgroundNumber 46 = .ok (.iload_n 3, 1) := by decide +kernel
theorem d_S_backgroundNumber_47 : decode b_S_backgroundNumber 47 = .ok (.if_icmp .lt 24, 3) := by decide +kernel
theorem d_S_backgroundNumber_50 : decode b_S_backgroundNumber 50 = .ok (.aload_n 0, 1) := by decide +kernel
theorem d_S_backgroundNumber_51 : decode b_S_backgroundNumber 51 = .ok (.aload_n 0, 1) := by decide +kernel
theorem d_S_backgroundNumber_52 : decode b_S_backgroundNumber 52 = .ok (.bipush 64, 2) := by decide +kernel
theorem d_S_backgroundNumber_54 : decode b_S_backgroundNumber 54 = .ok (.invokevirtual 37, 3) := by decide +kernel
theorem d_S_backgroundNumber_57 : decode b_S_backgroundNumber 57 = .ok (.iload_n 1, 1) := by decide +kernel
theorem d_S_backgroundNumber_58 : decode b_S_backgroundNumber 58 = .ok (.bipush 7, 2) := by decide +kernel
theorem d_S_backgroundNumber_60 : decode b_S_backgroundNumber 60 = .ok (.iadd, 1) := by decide +kernel
theorem d_S_backgroundNumber_61 : decode b_S_backgroundNumber 61 = .ok (.iload_n 3, 1) := by decide +kernel
theorem d_S_backgroundNumber_62 : decode b_S_backgroundNumber 62 = .ok (.isub, 1) := by decide +kernel
theorem d_S_backgroundNumber_63 : decode b_S_backgroundNumber 63 = .ok (.iload_n 2, 1) := by decide +kernel
theorem d_S_backgroundNumber_64 : decode b_S_backgroundNumber 64 = .ok (.iload 4, 2) := by decide +kernel
theorem d_S_backgroundNumber_66 : decode b_S_backgroundNumber 66 = .ok (.isub, 1) := by decide +kernel
theorem d_S_backgroundNumber_67 : decode b_S_backgroundNumber 67 = .ok (.invokevirtual 54, 3) := by decide +kernel
theorem d_S_backgroundNumber_70 : decode b_S_backgroundNumber 70 = .ok (.ireturn, 1) := by decide +kernel
theorem d_S_backgroundNumber_71 : decode b_S_backgroundNumber 71 = .ok (.aload_n 0, 1) := by decide +kernel
theorem d_S_backgroundNumber_72 : decode b_S_backgroundNumber 72 = .ok (.aload_n 0, 1) := by decide +kernel
theorem d_S_backgroundNumber_73 : decode b_S_backgroundNumber 73 = .ok (.bipush 8, 2) := by decide +kernel
theorem d_S_backgroundNumber_75 : decode b_S_backgroundNumber 75 = .ok (.invokevirtual 37, 3) := by decide +kernel
theorem d_S_backgroundNumber_78 : decode b_S_backgroundNumber 78 = .ok (.iload_n 1, 1) := by decide +kernel
theorem d_S_backgroundNumber_79 : decode b_S_backgroundNumber 79 = .ok (.aload_n 0, 1) := by decide +kernel
theorem d_S_backgroundNumber_80 : decode b_S_backgroundNumber 80 = .ok (.getfield 28, 3) := by decide +kernel
theorem d_S_backgroundNumber_83 : decode b_S_backgroundNumber 83 = .ok (.bipush 67, 2) := by decide +kernel
theorem d_S_backgroundNumber_85 : decode b_S_backgroundNumber 85 = .ok (.iaload, 1) := by decide +kernel
theorem d_S_backgroundNumber_86 : decode b_S_backgroundNumber 86 = .ok (.iadd, 1) := by decide +kernel
theorem d_S_backgroundNumber_87 : decode b_S_backgroundNumber 87 = .ok (.sipush 255, 3) := by decide +kernel
theorem d_S_backgroundNumber_90 : decode b_S_backgroundNumber 90 = .ok (.iand, 1) := by decide +kernel
theorem d_S_backgroundNumber_91 : decode b_S_backgroundNumber 91 = .ok (.iload_n 2, 1) := by decide +kernel
theorem d_S_backgroundNumber_92 : decode b_S_backgroundNumber 92 = .ok (.aload_n 0, 1) := by decide +kernel
theorem d_S_backgroundNumber_93 : decode b_S_backgroundNumber 93 = .ok (.getfield 28, 3) := by decide +kernel
theorem d_S_backgroundNumber_96 : decode b_S_backgroundNumber 96 = .ok (.bipush 66, 2) := by decide +kernel
theorem d_S_backgroundNumber_98 : decode b_S_backgroundNumber 98 = .ok (.iaload, 1) := by decide +kernel
theorem d_S_backgroundNumber_99 : decode b_S_backgroundNumber 99 = .ok (.iadd, 1) := by decide +kernel
theorem d_S_backgroundNumber_100 : decode b_S_backgroundNumber 100 = .ok (.sipush 255, 3) := by decide +kernel
theorem d_S_backgroundNumber_103 : decode b_S_backgroundNumber 103 = .ok (.iand, 1) := by decide +kernel
theorem d_S_backgroundNumber_104 : decode b_S_backgroundNumber 104 = .ok (.invokevirtual 54, 3) := by decide +kernel
theorem d_S_backgroundNumber_107 : decode b_S_backgroundNumber 107 = .ok (.ireturn, 1) := by decide +kernel
theorem d_S_colour_0 : decode b_S_colour 0 = .ok (.aload_n 0, 1) := by decide +kernel
theorem d_S_colour_1 : decode b_S_colour 1 = .ok (.getfield 13, 3) := by decide +kernel
theorem d_S_colour_4 : decode b_S_colour 4 = .ok (.iload_n 1, 1) := by decide +kernel
theorem d_S_colour_5 : decode b_S_colour 5 = .ok (.iaload, 1) := by decide +kernel
theorem d_S_colour_6 : decode b_S_colour 6 = .ok (.istore_n 3, 1) := by decide +kernel
theorem d_S_colour_7 : decode b_S_colour 7 = .ok (.aload_n 0, 1) := by decide +kernel
theorem d_S_colour_8 : decode b_S_colour 8 = .ok (.getfield 19, 3) := by decide +kernel
theorem d_S_colour_11 : decode b_S_colour 11 = .ok (.iload_n 1, 1) := by decide +kernel
theorem d_S_colour_12 : decode b_S_colour 12 = .ok (.iaload, 1) := by decide +kernel
theorem d_S_colour_13 : decode b_S_colour 13 = .ok (.istore 4, 2) := by decide +kernel
theorem d_S_colour_15 : decode b_S_colour 15 = .ok (.iload_n 3, 1) := by decide +kernel
theorem d_S_colour_16 : decode b_S_colour 16 = .ok (.ifCond .eq 16, 3) := by decide +kernel
theorem d_S_colour_19 : decode b_S_colour 19 = .ok (.iload 4, 2) := by decide +kernel
theorem d_S_colour_21 : decode b_S_colour 21 = .ok (.sipush 128, 3) := by decide +kernel
theorem d_S_colour_24 : decode b_S_colour 24 = .ok (.iand, 1) := by decide +kernel
theorem d_S_colour_25 : decode b_S_colour 25 = .ok (.ifCond .eq 21, 3) := by decide +kernel
theorem d_S_colour_28 : decode b_S_colour 28 = .ok (.iload_n 2, 1) := by decide +kernel
theorem d_S_colour_29 : decode b_S_colour 29 = .ok (.ifCond .eq 17, 3) := by decide +kernel
theorem d_S_colour_32 : decode b_S_colour 32 = .ok (.aload_n 0, 1) := by decide +kernel
theorem d_S_colour_33 : decode b_S_colour 33 = .ok (.getfield 28, 3) := by decide +kernel
theorem d_S_colour_36 : decode b_S_colour 36 = .ok (.bipush 71, 2) := by decide +kernel
theorem d_S_colour_38 : decode b_S_colour 38 = .ok (.iaload, 1) := by decide +kernel
theorem d_S_colour_39 : decode b_S_colour 39 = .ok (.iconst 2, 1) := by decide +kernel
theorem d_S_colour_40 : decode b_S_colour 40 = .ok (.iload_n 2, 1) := by decide +kernel
theorem d_S_colour_41 : decode b_S_colour 41 = .ok (.imul, 1) := by decide +kernel
theorem d_S_colour_42 : decode b_S_colour 42 = .ok (.ishr, 1) := by decide +kernel
theorem d_S_colour_43 : decode b_S_colour 43 = .ok (.iconst 3, 1) := by decide +kernel
theorem d_S_colour_44 : decode b_S_colour 44 = .ok (.iand, 1) := by decide +kernel
theorem d_S_colour_45 : decode b_S_colour 45 = .ok (.ireturn, 1) := by decide +kernel
theorem d_S_colour_46 : decode b_S_colour 46 = .ok (.aload_n 0, 1) := by decide +kernel
theorem d_S_colour_47 : decode b_S_colour 47 = .ok (.getfield 28, 3) := by decide +kernel
theorem d_S_colour_50 : decode b_S_colour 50 = .ok (.bipush 72, 2) := by decide +kernel
theorem d_S_colour_52 : decode b_S_colour 52 = .ok (.iload 4, 2) := by decide +kernel
theorem d_S_colour_54 : decode b_S_colour 54 = .ok (.iconst 4, 1) := by decide +kernel
theorem d_S_colour_55 : decode b_S_colour 55 = .ok (.ishr, 1) := by decide +kernel
theorem d_S_colour_56 : decode b_S_colour 56 = .ok (.iconst 1, 1) := by decide +kernel
theorem d_S_colour_57 : decode b_S_colour 57 = .ok (.iand, 1) := by decide +kernel
theorem d_S_colour_58 : decode b_S_colour 58 = .ok (.iadd, 1) := by decide +kernel
theorem d_S_colour_59 : decode b_S_colour 59 = .ok (.iaload, 1) := by decide +kernel
theorem d_S_colour_60 : decode b_S_colour 60 = .ok (.iconst 2, 1) := by decide +kernel
theorem d_S_colour_61 : decode b_S_colour 61 = .ok (.iload_n 3, 1) := by decide +kernel
theorem d_S_colour_62 : decode b_S_colour 62 = .ok (.imul, 1) := by decide +kernel
theorem d_S_colour_63 : decode b_S_colour 63 = .ok (.ishr, 1) := by decide +kernel
theorem d_S_colour_64 : decode b_S_colour 64 = .ok (.iconst 3, 1) := by decide +kernel
theorem d_S_colour_65 : decode b_S_colour 65 = .ok (.iand, 1) := by decide +kernel
theorem d_S_colour_66 : decode b_S_colour 66 = .ok (.ireturn, 1) := by decide +kernel
theorem d_S_make_0 : decode b_S_make 0 = .ok (.aload_n 0, 1) := by decide +kernel
theorem d_S_make_1 : decode b_S_make 1 = .ok (.sipush 128, 3) := by decide +kernel
theorem d_S_make_4 : decode b_S_make 4 = .ok (.invokevirtual 37, 3) := by decide +kernel
theorem d_S_make_7 : decode b_S_make 7 = .ok (.ifCond .ne 13, 3) := by decide +kernel
theorem d_S_make_10 : decode b_S_make 10 = .ok (.aload_n 0, 1) := by decide +kernel
theorem d_S_make_11 : decode b_S_make 11 = .ok (.getfield 9, 3) := by decide +kernel
theorem d_S_make_14 : decode b_S_make 14 = .ok (.iconst 0, 1) := by decide +kernel
theorem d_S_make_15 : decode b_S_make 15 = .ok (.invokestatic 31, 3) := by decide +kernel
theorem d_S_make_18 : decode b_S_make 18 = .ok (.iconst 0, 1) := by decide +kernel
theorem d_S_make_19 : decode b_S_make 19 = .ok (.ireturn, 1) := by decide +kernel
theorem d_S_make_20 : decode b_S_make 20 = .ok (.aload_n 0, 1) := by decide +kernel
theorem d_S_make_21 : decode b_S_make 21 = .ok (.getfield 13, 3) := by decide +kernel
theorem d_S_make_24 : decode b_S_make 24 = .ok (.iconst 0, 1) := by decide +kernel
theorem d_S_make_25 : decode b_S_make 25 = .ok (.invokestatic 31, 3) := by decide +kernel
theorem d_S_make_28 : decode b_S_make 28 = .ok (.aload_n 0, 1) := by decide +kernel
theorem d_S_make_29 : decode b_S_make 29 = .ok (.iconst 2, 1) := by decide +kernel
theorem d_S_make_30 : decode b_S_make 30 = .ok (.invokevirtual 37, 3) := by decide +kernel
theorem d_S_make_33 : decode b_S_make 33 = .ok (.ifCond .eq 8, 3) := by decide +kernel
theorem d_S_make_36 : decode b_S_make 36 = .ok (.aload_n 0, 1) := by decide +kernel
theorem d_S_make_37 : decode b_S_make 37 = .ok (.iload_n 1, 1) := by decide +kernel
theorem d_S_make_38 : decode b_S_make 38 = .ok (.invokevirtual 41, 3) := by decide +kernel
theorem d_S_make_41 : decode b_S_make 41 = .ok (.iconst 0, 1) := by decide +kernel
theorem d_S_make_42 : decode b_S_make 42 = .ok (.istore_n 2, 1) := by decide +kernel
theorem d_S_make_43 : decode b_S_make 43 = .ok (.iconst 0, 1) := by decide +kernel
theorem d_S_make_44 : decode b_S_make 44 = .ok (.istore_n 3, 1) := by decide +kernel
theorem d_S_make_45 : decode b_S_make 45 = .ok (.iload_n 3, 1) := by decide +kernel
theorem d_S_make_46 : decode b_S_make 46 = .ok (.sipush 160, 3) := by decide +kernel
theorem d_S_make_49 : decode b_S_make 49 = .ok (.if_icmp .ge 35, 3) := by decide +kernel
theorem d_S_make_52 : decode b_S_make 52 = .ok (.aload_n 0, 1) := by decide +kernel
theorem d_S_make_53 : decode b_S_make 53 = .ok (.getfield 9, 3) := by decide +kernel
theorem d_S_make_56 : decode b_S_make 56 = .ok (.iload_n 3, 1) := by decide +kernel
theorem d_S_make_57 : decode b_S_make 57 = .ok (.aload_n 0, 1) := by decide +kernel
theorem d_S_make_58 : decode b_S_make 58 = .ok (.iload_n 3, 1) := by decide +kernel
theorem d_S_make_59 : decode b_S_make 59 = .ok (.aload_n 0, 1) := by decide +kernel
theorem d_S_make_60 : decode b_S_make 60 = .ok (.iload_n 3, 1) := by decide +kernel
theorem d_S_make_61 : decode b_S_make 61 = .ok (.iload_n 1, 1) := by decide +kernel
theorem d_S_make_62 : decode b_S_make 62 = .ok (.invokevirtual 45, 3) := by decide +kernel
theorem d_S_make_65 : decode b_S_make 65 = .ok (.invokevirtual 49, 3) := by decide +kernel
theorem d_S_make_68 : decode b_S_make 68 = .ok (.iastore, 1) := by decide +kernel
theorem d_S_make_69 : decode b_S_make 69 = .ok (.iload_n 2, 1) := by decide +kernel
theorem d_S_make_70 : decode b_S_make 70 = .ok (.aload_n 0, 1) := by decide +kernel
theorem d_S_make_71 : decode b_S_make 71 = .ok (.getfield 9, 3) := by decide +kernel
theorem d_S_make_74 : decode b_S_make 74 = .ok (.iload_n 3, 1) := by decide +kernel
theorem d_S_make_75 : decode b_S_make 75 = .ok (.iaload, 1) := by decide +kernel
theorem d_S_make_76 : decode b_S_make 76 = .ok (.iadd, 1) := by decide +kernel
theorem d_S_make_77 : decode b_S_make 77 = .ok (.istore_n 2, 1) := by decide +kernel
theorem d_S_make_78 : decode b_S_make 78 = .ok (.iinc 3 1, 3) := by decide +kernel
theorem d_S_make_81 : decode b_S_make 81 = .ok (.goto (-36), 3) := by decide +kernel
theorem d_S_make_84 : decode b_S_make 84 = .ok (.iload_n 2, 1) := by decide +kernel
theorem d_S_make_85 : decode b_S_make 85 = .ok (.ireturn, 1) := by decide +kernel
