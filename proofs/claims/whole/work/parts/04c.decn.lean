theorem d_De_init_0 : decode mi_De_init.2.1 0 = .ok (.aload_n 0, 1) := by decide +kernel
theorem d_De_init_1 : decode mi_De_init.2.1 1 = .ok (.invokespecial 3, 3) := by decide +kernel
theorem d_De_init_4 : decode mi_De_init.2.1 4 = .ok (.aload_n 0, 1) := by decide +kernel
theorem d_De_init_5 : decode mi_De_init.2.1 5 = .ok (.new 9, 3) := by decide +kernel
theorem d_De_init_8 : decode mi_De_init.2.1 8 = .ok (.dup, 1) := by decide +kernel
theorem d_De_init_9 : decode mi_De_init.2.1 9 = .ok (.invokespecial 11, 3) := by decide +kernel
theorem d_De_init_12 : decode mi_De_init.2.1 12 = .ok (.putfield 12, 3) := by decide +kernel
theorem d_De_init_15 : decode mi_De_init.2.1 15 = .ok (.aload_n 0, 1) := by decide +kernel
theorem d_De_init_16 : decode mi_De_init.2.1 16 = .ok (.bipush 12, 2) := by decide +kernel
theorem d_De_init_18 : decode mi_De_init.2.1 18 = .ok (.anewarray 18, 3) := by decide +kernel
theorem d_De_init_21 : decode mi_De_init.2.1 21 = .ok (.putfield 20, 3) := by decide +kernel
theorem d_De_init_24 : decode mi_De_init.2.1 24 = .ok (.aload_n 0, 1) := by decide +kernel
theorem d_De_init_25 : decode mi_De_init.2.1 25 = .ok (.iconst 0, 1) := by decide +kernel
theorem d_De_init_26 : decode mi_De_init.2.1 26 = .ok (.putfield 24, 3) := by decide +kernel
theorem d_De_init_29 : decode mi_De_init.2.1 29 = .ok (.aload_n 0, 1) := by decide +kernel
theorem d_De_init_30 : decode mi_De_init.2.1 30 = .ok (.new 28, 3) := by decide +kernel
theorem d_De_init_33 : decode mi_De_init.2.1 33 = .ok (.dup, 1) := by decide +kernel
theorem d_De_init_34 : decode mi_De_init.2.1 34 = .ok (.invokespecial 30, 3) := by decide +kernel
theorem d_De_init_37 : decode mi_De_init.2.1 37 = .ok (.putfield 31, 3) := by decide +kernel
theorem d_De_init_40 : decode mi_De_init.2.1 40 = .ok (.aload_n 0, 1) := by decide +kernel
theorem d_De_init_41 : decode mi_De_init.2.1 41 = .ok (.iconst 0, 1) := by decide +kernel
theorem d_De_init_42 : decode mi_De_init.2.1 42 = .ok (.putfield 35, 3) := by decide +kernel
theorem d_De_init_45 : decode mi_De_init.2.1 45 = .ok (.aload_n 0, 1) := by decide +kernel
theorem d_De_init_46 : decode mi_De_init.2.1 46 = .ok (.iconst 1, 1) := by decide +kernel
theorem d_De_init_47 : decode mi_De_init.2.1 47 = .ok (.putfield 38, 3) := by decide +kernel
theorem d_De_init_50 : decode mi_De_init.2.1 50 = .ok (.aload_n 0, 1) := by decide +kernel
theorem d_De_init_51 : decode mi_De_init.2.1 51 = .ok (.iconst 0, 1) := by decide +kernel
theorem d_De_init_52 : decode mi_De_init.2.1 52 = .ok (.putfield 41, 3) := by decide +kernel
theorem d_De_init_55 : decode mi_De_init.2.1 55 = .ok (.iconst 0, 1) := by decide +kernel
theorem d_De_init_56 : decode mi_De_init.2.1 56 = .ok (.istore_n 1, 1) := by decide +kernel
theorem d_De_init_57 : decode mi_De_init.2.1 57 = .ok (.iload_n 1, 1) := by decide +kernel
theorem d_De_init_58 : decode mi_De_init.2.1 58 = .ok (.bipush 12, 2) := by decide +kernel
theorem d_De_init_60 : decode mi_De_init.2.1 60 = .ok (.if_icmp .ge 22, 3) := by decide +kernel
theorem d_De_init_63 : decode mi_De_init.2.1 63 = .ok (.aload_n 0, 1) := by decide +kernel
theorem d_De_init_64 : decode mi_De_init.2.1 64 = .ok (.getfield 20, 3) := by decide +kernel
theorem d_De_init_67 : decode mi_De_init.2.1 67 = .ok (.iload_n 1, 1) := by decide +kernel
theorem d_De_init_68 : decode mi_De_init.2.1 68 = .ok (.new 18, 3) := by decide +kernel
theorem d_De_init_71 : decode mi_De_init.2.1 71 = .ok (.dup, 1) := by decide +kernel
theorem d_De_init_72 : decode mi_De_init.2.1 72 = .ok (.invokespecial 44, 3) := by decide +kernel
theorem d_De_init_75 : decode mi_De_init.2.1 75 = .ok (.aastore, 1) := by decide +kernel
theorem d_De_init_76 : decode mi_De_init.2.1 76 = .ok (.iinc 1 1, 3) := by decide +kernel
theorem d_De_init_79 : decode mi_De_init.2.1 79 = .ok (.goto (-22), 3) := by decide +kernel
theorem d_De_init_82 : decode mi_De_init.2.1 82 = .ok (.return_, 1) := by decide +kernel
theorem d_Pe_init_0 : decode mi_Pe_init.2.1 0 = .ok (.aload_n 0, 1) := by decide +kernel
theorem d_Pe_init_1 : decode mi_Pe_init.2.1 1 = .ok (.invokespecial 3, 3) := by decide +kernel
theorem d_Pe_init_4 : decode mi_Pe_init.2.1 4 = .ok (.aload_n 0, 1) := by decide +kernel
theorem d_Pe_init_5 : decode mi_Pe_init.2.1 5 = .ok (.bipush 24, 2) := by decide +kernel
theorem d_Pe_init_7 : decode mi_Pe_init.2.1 7 = .ok (.newarray .int, 2) := by decide +kernel
theorem d_Pe_init_9 : decode mi_Pe_init.2.1 9 = .ok (.putfield 9, 3) := by decide +kernel
theorem d_Pe_init_12 : decode mi_Pe_init.2.1 12 = .ok (.aload_n 0, 1) := by decide +kernel
theorem d_Pe_init_13 : decode mi_Pe_init.2.1 13 = .ok (.bipush 24, 2) := by decide +kernel
theorem d_Pe_init_15 : decode mi_Pe_init.2.1 15 = .ok (.newarray .int, 2) := by decide +kernel
theorem d_Pe_init_17 : decode mi_Pe_init.2.1 17 = .ok (.putfield 15, 3) := by decide +kernel
theorem d_Pe_init_20 : decode mi_Pe_init.2.1 20 = .ok (.aload_n 0, 1) := by decide +kernel
theorem d_Pe_init_21 : decode mi_Pe_init.2.1 21 = .ok (.iconst 0, 1) := by decide +kernel
theorem d_Pe_init_22 : decode mi_Pe_init.2.1 22 = .ok (.putfield 18, 3) := by decide +kernel
theorem d_Pe_init_25 : decode mi_Pe_init.2.1 25 = .ok (.return_, 1) := by decide +kernel
theorem d_St_init_0 : decode mi_St_init.2.1 0 = .ok (.aload_n 0, 1) := by decide +kernel
theorem d_St_init_1 : decode mi_St_init.2.1 1 = .ok (.invokespecial 3, 3) := by decide +kernel
theorem d_St_init_4 : decode mi_St_init.2.1 4 = .ok (.aload_n 0, 1) := by decide +kernel
theorem d_St_init_5 : decode mi_St_init.2.1 5 = .ok (.bipush 24, 2) := by decide +kernel
theorem d_St_init_7 : decode mi_St_init.2.1 7 = .ok (.newarray .int, 2) := by decide +kernel
theorem d_St_init_9 : decode mi_St_init.2.1 9 = .ok (.putfield 9, 3) := by decide +kernel
theorem d_St_init_12 : decode mi_St_init.2.1 12 = .ok (.aload_n 0, 1) := by decide +kernel
theorem d_St_init_13 : decode mi_St_init.2.1 13 = .ok (.bipush 24, 2) := by decide +kernel
theorem d_St_init_15 : decode mi_St_init.2.1 15 = .ok (.newarray .int, 2) := by decide +kernel
theorem d_St_init_17 : decode mi_St_init.2.1 17 = .ok (.putfield 15, 3) := by decide +kernel
theorem d_St_init_20 : decode mi_St_init.2.1 20 = .ok (.aload_n 0, 1) := by decide +kernel
theorem d_St_init_21 : decode mi_St_init.2.1 21 = .ok (.bipush 24, 2) := by decide +kernel
theorem d_St_init_23 : decode mi_St_init.2.1 23 = .ok (.newarray .int, 2) := by decide +kernel
theorem d_St_init_25 : decode mi_St_init.2.1 25 = .ok (.putfield 18, 3) := by decide +kernel
theorem d_St_init_28 : decode mi_St_init.2.1 28 = .ok (.aload_n 0, 1) := by decide +kernel
theorem d_St_init_29 : decode mi_St_init.2.1 29 = .ok (.bipush 24, 2) := by decide +kernel
theorem d_St_init_31 : decode mi_St_init.2.1 31 = .ok (.newarray .int, 2) := by decide +kernel
theorem d_St_init_33 : decode mi_St_init.2.1 33 = .ok (.putfield 21, 3) := by decide +kernel
theorem d_St_init_36 : decode mi_St_init.2.1 36 = .ok (.aload_n 0, 1) := by decide +kernel
theorem d_St_init_37 : decode mi_St_init.2.1 37 = .ok (.bipush 24, 2) := by decide +kernel
theorem d_St_init_39 : decode mi_St_init.2.1 39 = .ok (.newarray .int, 2) := by decide +kernel
theorem d_St_init_41 : decode mi_St_init.2.1 41 = .ok (.putfield 24, 3) := by decide +kernel
theorem d_St_init_44 : decode mi_St_init.2.1 44 = .ok (.aload_n 0, 1) := by decide +kernel
theorem d_St_init_45 : decode mi_St_init.2.1 45 = .ok (.iconst 0, 1) := by decide +kernel
theorem d_St_init_46 : decode mi_St_init.2.1 46 = .ok (.putfield 27, 3) := by decide +kernel
theorem d_St_init_49 : decode mi_St_init.2.1 49 = .ok (.return_, 1) := by decide +kernel
theorem d_Fe_init_0 : decode mi_Fe_init.2.1 0 = .ok (.aload_n 0, 1) := by decide +kernel
theorem d_Fe_init_1 : decode mi_Fe_init.2.1 1 = .ok (.invokespecial 3, 3) := by decide +kernel
theorem d_Fe_init_4 : decode mi_Fe_init.2.1 4 = .ok (.aload_n 0, 1) := by decide +kernel
theorem d_Fe_init_5 : decode mi_Fe_init.2.1 5 = .ok (.iconst 1, 1) := by decide +kernel
theorem d_Fe_init_6 : decode mi_Fe_init.2.1 6 = .ok (.putfield 9, 3) := by decide +kernel
theorem d_Fe_init_9 : decode mi_Fe_init.2.1 9 = .ok (.aload_n 0, 1) := by decide +kernel
theorem d_Fe_init_10 : decode mi_Fe_init.2.1 10 = .ok (.iconst 0, 1) := by decide +kernel
theorem d_Fe_init_11 : decode mi_Fe_init.2.1 11 = .ok (.putfield 15, 3) := by decide +kernel
theorem d_Fe_init_14 : decode mi_Fe_init.2.1 14 = .ok (.aload_n 0, 1) := by decide +kernel
theorem d_Fe_init_15 : decode mi_Fe_init.2.1 15 = .ok (.iconst 0, 1) := by decide +kernel
theorem d_Fe_init_16 : decode mi_Fe_init.2.1 16 = .ok (.putfield 18, 3) := by decide +kernel
theorem d_Fe_init_19 : decode mi_Fe_init.2.1 19 = .ok (.aload_n 0, 1) := by decide +kernel
theorem d_Fe_init_20 : decode mi_Fe_init.2.1 20 = .ok (.iconst 0, 1) := by decide +kernel
theorem d_Fe_init_21 : decode mi_Fe_init.2.1 21 = .ok (.putfield 21, 3) := by decide +kernel
theorem d_Fe_init_24 : decode mi_Fe_init.2.1 24 = .ok (.aload_n 0, 1) := by decide +kernel
theorem d_Fe_init_25 : decode mi_Fe_init.2.1 25 = .ok (.bipush 6, 2) := by decide +kernel
theorem d_Fe_init_27 : decode mi_Fe_init.2.1 27 = .ok (.anewarray 24, 3) := by decide +kernel
theorem d_Fe_init_30 : decode mi_Fe_init.2.1 30 = .ok (.putfield 26, 3) := by decide +kernel
theorem d_Fe_init_33 : decode mi_Fe_init.2.1 33 = .ok (.aload_n 0, 1) := by decide +kernel
theorem d_Fe_init_34 : decode mi_Fe_init.2.1 34 = .ok (.iconst 0, 1) := by decide +kernel
theorem d_Fe_init_35 : decode mi_Fe_init.2.1 35 = .ok (.putfield 30, 3) := by decide +kernel
theorem d_Fe_init_38 : decode mi_Fe_init.2.1 38 = .ok (.aload_n 0, 1) := by decide +kernel
theorem d_Fe_init_39 : decode mi_Fe_init.2.1 39 = .ok (.iconst 3, 1) := by decide +kernel
theorem d_Fe_init_40 : decode mi_Fe_init.2.1 40 = .ok (.newarray .int, 2) := by decide +kernel
theorem d_Fe_init_42 : decode mi_Fe_init.2.1 42 = .ok (.putfield 33, 3) := by decide +kernel
theorem d_Fe_init_45 : decode mi_Fe_init.2.1 45 = .ok (.aload_n 0, 1) := by decide +kernel
theorem d_Fe_init_46 : decode mi_Fe_init.2.1 46 = .ok (.iconst 3, 1) := by decide +kernel
theorem d_Fe_init_47 : decode mi_Fe_init.2.1 47 = .ok (.newarray .int, 2) := by decide +kernel
theorem d_Fe_init_49 : decode mi_Fe_init.2.1 49 = .ok (.putfield 37, 3) := by decide +kernel
theorem d_Fe_init_52 : decode mi_Fe_init.2.1 52 = .ok (.aload_n 0, 1) := by decide +kernel
theorem d_Fe_init_53 : decode mi_Fe_init.2.1 53 = .ok (.iconst 0, 1) := by decide +kernel
theorem d_Fe_init_54 : decode mi_Fe_init.2.1 54 = .ok (.putfield 40, 3) := by decide +kernel
theorem d_Fe_init_57 : decode mi_Fe_init.2.1 57 = .ok (.aload_n 0, 1) := by decide +kernel
theorem d_Fe_init_58 : decode mi_Fe_init.2.1 58 = .ok (.bipush 24, 2) := by decide +kernel
theorem d_Fe_init_60 : decode mi_Fe_init.2.1 60 = .ok (.newarray .int, 2) := by decide +kernel
theorem d_Fe_init_62 : decode mi_Fe_init.2.1 62 = .ok (.putfield 43, 3) := by decide +kernel
theorem d_Fe_init_65 : decode mi_Fe_init.2.1 65 = .ok (.aload_n 0, 1) := by decide +kernel
theorem d_Fe_init_66 : decode mi_Fe_init.2.1 66 = .ok (.bipush 24, 2) := by decide +kernel
theorem d_Fe_init_68 : decode mi_Fe_init.2.1 68 = .ok (.newarray .int, 2) := by decide +kernel
theorem d_Fe_init_70 : decode mi_Fe_init.2.1 70 = .ok (.putfield 46, 3) := by decide +kernel
theorem d_Fe_init_73 : decode mi_Fe_init.2.1 73 = .ok (.aload_n 0, 1) := by decide +kernel
theorem d_Fe_init_74 : decode mi_Fe_init.2.1 74 = .ok (.iconst 4, 1) := by decide +kernel
theorem d_Fe_init_75 : decode mi_Fe_init.2.1 75 = .ok (.newarray .int, 2) := by decide +kernel
theorem d_Fe_init_77 : decode mi_Fe_init.2.1 77 = .ok (.putfield 49, 3) := by decide +kernel
theorem d_Fe_init_80 : decode mi_Fe_init.2.1 80 = .ok (.aload_n 0, 1) := by decide +kernel
theorem d_Fe_init_81 : decode mi_Fe_init.2.1 81 = .ok (.iconst (-1), 1) := by decide +kernel
theorem d_Fe_init_82 : decode mi_Fe_init.2.1 82 = .ok (.putfield 52, 3) := by decide +kernel
theorem d_Fe_init_85 : decode mi_Fe_init.2.1 85 = .ok (.aload_n 0, 1) := by decide +kernel
theorem d_Fe_init_86 : decode mi_Fe_init.2.1 86 = .ok (.iconst 0, 1) := by decide +kernel
theorem d_Fe_init_87 : decode mi_Fe_init.2.1 87 = .ok (.putfield 55, 3) := by decide +kernel
theorem d_Fe_init_90 : decode mi_Fe_init.2.1 90 = .ok (.aload_n 0, 1) := by decide +kernel
theorem d_Fe_init_91 : decode mi_Fe_init.2.1 91 = .ok (.iconst 0, 1) := by decide +kernel
theorem d_Fe_init_92 : decode mi_Fe_init.2.1 92 = .ok (.putfield 58, 3) := by decide +kernel
theorem d_Fe_init_95 : decode mi_Fe_init.2.1 95 = .ok (.iconst 0, 1) := by decide +kernel
theorem d_Fe_init_96 : decode mi_Fe_init.2.1 96 = .ok (.istore_n 1, 1) := by decide +kernel
theorem d_Fe_init_97 : decode mi_Fe_init.2.1 97 = .ok (.iload_n 1, 1) := by decide +kernel
theorem d_Fe_init_98 : decode mi_Fe_init.2.1 98 = .ok (.bipush 6, 2) := by decide +kernel
theorem d_Fe_init_100 : decode mi_Fe_init.2.1 100 = .ok (.if_icmp .ge 22, 3) := by decide +kernel
theorem d_Fe_init_103 : decode mi_Fe_init.2.1 103 = .ok (.aload_n 0, 1) := by decide +kernel
theorem d_Fe_init_104 : decode mi_Fe_init.2.1 104 = .ok (.getfield 26, 3) := by decide +kernel
theorem d_Fe_init_107 : decode mi_Fe_init.2.1 107 = .ok (.iload_n 1, 1) := by decide +kernel
theorem d_Fe_init_108 : decode mi_Fe_init.2.1 108 = .ok (.new 24, 3) := by decide +kernel
theorem d_Fe_init_111 : decode mi_Fe_init.2.1 111 = .ok (.dup, 1) := by decide +kernel
theorem d_Fe_init_112 : decode mi_Fe_init.2.1 112 = .ok (.invokespecial 61, 3) := by decide +kernel
theorem d_Fe_init_115 : decode mi_Fe_init.2.1 115 = .ok (.aastore, 1) := by decide +kernel
theorem d_Fe_init_116 : decode mi_Fe_init.2.1 116 = .ok (.iinc 1 1, 3) := by decide +kernel
theorem d_Fe_init_119 : decode mi_Fe_init.2.1 119 = .ok (.goto (-22), 3) := by decide +kernel
theorem d_Fe_init_122 : decode mi_Fe_init.2.1 122 = .ok (.aload_n 0, 1) := by decide +kernel
theorem d_Fe_init_123 : decode mi_Fe_init.2.1 123 = .ok (.getfield 43, 3) := by decide +kernel
theorem d_Fe_init_126 : decode mi_Fe_init.2.1 126 = .ok (.iconst (-1), 1) := by decide +kernel
theorem d_Fe_init_127 : decode mi_Fe_init.2.1 127 = .ok (.invokestatic 62, 3) := by decide +kernel
theorem d_Fe_init_130 : decode mi_Fe_init.2.1 130 = .ok (.aload_n 0, 1) := by decide +kernel
theorem d_Fe_init_131 : decode mi_Fe_init.2.1 131 = .ok (.getfield 46, 3) := by decide +kernel
theorem d_Fe_init_134 : decode mi_Fe_init.2.1 134 = .ok (.iconst (-1), 1) := by decide +kernel
theorem d_Fe_init_135 : decode mi_Fe_init.2.1 135 = .ok (.invokestatic 62, 3) := by decide +kernel
theorem d_Fe_init_138 : decode mi_Fe_init.2.1 138 = .ok (.return_, 1) := by decide +kernel
theorem d_Ru_init_0 : decode mi_Ru_init.2.1 0 = .ok (.aload_n 0, 1) := by decide +kernel
theorem d_Ru_init_1 : decode mi_Ru_init.2.1 1 = .ok (.invokespecial 3, 3) := by decide +kernel
theorem d_Ru_init_4 : decode mi_Ru_init.2.1 4 = .ok (.aload_n 0, 1) := by decide +kernel
theorem d_Ru_init_5 : decode mi_Ru_init.2.1 5 = .ok (.aconst_null, 1) := by decide +kernel
theorem d_Ru_init_6 : decode mi_Ru_init.2.1 6 = .ok (.putfield 9, 3) := by decide +kernel
theorem d_Ru_init_9 : decode mi_Ru_init.2.1 9 = .ok (.aload_n 0, 1) := by decide +kernel
theorem d_Ru_init_10 : decode mi_Ru_init.2.1 10 = .ok (.iconst (-1), 1) := by decide +kernel
theorem d_Ru_init_11 : decode mi_Ru_init.2.1 11 = .ok (.putfield 15, 3) := by decide +kernel
theorem d_Ru_init_14 : decode mi_Ru_init.2.1 14 = .ok (.aload_n 0, 1) := by decide +kernel
theorem d_Ru_init_15 : decode mi_Ru_init.2.1 15 = .ok (.iconst 3, 1) := by decide +kernel
theorem d_Ru_init_16 : decode mi_Ru_init.2.1 16 = .ok (.newarray .int, 2) := by decide +kernel
theorem d_Ru_init_18 : decode mi_Ru_init.2.1 18 = .ok (.putfield 19, 3) := by decide +kernel
theorem d_Ru_init_21 : decode mi_Ru_init.2.1 21 = .ok (.return_, 1) := by decide +kernel
theorem d_JA_fillI_0 : decode mi_JA_fillI.2.1 0 = .ok (.iconst 0, 1) := by decide +kernel
theorem d_JA_fillI_1 : decode mi_JA_fillI.2.1 1 = .ok (.istore_n 2, 1) := by decide +kernel
theorem d_JA_fillI_2 : decode mi_JA_fillI.2.1 2 = .ok (.aload_n 0, 1) := by decide +kernel
theorem d_JA_fillI_3 : decode mi_JA_fillI.2.1 3 = .ok (.arraylength, 1) := by decide +kernel
theorem d_JA_fillI_4 : decode mi_JA_fillI.2.1 4 = .ok (.istore_n 3, 1) := by decide +kernel
theorem d_JA_fillI_5 : decode mi_JA_fillI.2.1 5 = .ok (.iload_n 2, 1) := by decide +kernel
theorem d_JA_fillI_6 : decode mi_JA_fillI.2.1 6 = .ok (.iload_n 3, 1) := by decide +kernel
theorem d_JA_fillI_7 : decode mi_JA_fillI.2.1 7 = .ok (.if_icmp .ge 13, 3) := by decide +kernel
theorem d_JA_fillI_10 : decode mi_JA_fillI.2.1 10 = .ok (.aload_n 0, 1) := by decide +kernel
theorem d_JA_fillI_11 : decode mi_JA_fillI.2.1 11 = .ok (.iload_n 2, 1) := by decide +kernel
theorem d_JA_fillI_12 : decode mi_JA_fillI.2.1 12 = .ok (.iload_n 1, 1) := by decide +kernel
theorem d_JA_fillI_13 : decode mi_JA_fillI.2.1 13 = .ok (.iastore, 1) := by decide +kernel
theorem d_JA_fillI_14 : decode mi_JA_fillI.2.1 14 = .ok (.iinc 2 1, 3) := by decide +kernel
theorem d_JA_fillI_17 : decode mi_JA_fillI.2.1 17 = .ok (.goto (-12), 3) := by decide +kernel
theorem d_JA_fillI_20 : decode mi_JA_fillI.2.1 20 = .ok (.return_, 1) := by decide +kernel
theorem d_An_init_0 : decode mi_An_init.2.1 0 = .ok (.aload_n 0, 1) := by decide +kernel
theorem d_An_init_1 : decode mi_An_init.2.1 1 = .ok (.invokespecial 3, 3) := by decide +kernel
theorem d_An_init_4 : decode mi_An_init.2.1 4 = .ok (.aload_n 0, 1) := by decide +kernel
theorem d_An_init_5 : decode mi_An_init.2.1 5 = .ok (.bipush 12, 2) := by decide +kernel
theorem d_An_init_7 : decode mi_An_init.2.1 7 = .ok (.newarray .int, 2) := by decide +kernel
theorem d_An_init_9 : decode mi_An_init.2.1 9 = .ok (.putfield 9, 3) := by decide +kernel
theorem d_An_init_12 : decode mi_An_init.2.1 12 = .ok (.aload_n 0, 1) := by decide +kernel
theorem d_An_init_13 : decode mi_An_init.2.1 13 = .ok (.bipush 12, 2) := by decide +kernel
theorem d_An_init_15 : decode mi_An_init.2.1 15 = .ok (.newarray .int, 2) := by decide +kernel
theorem d_An_init_17 : decode mi_An_init.2.1 17 = .ok (.putfield 15, 3) := by decide +kernel
theorem d_An_init_20 : decode mi_An_init.2.1 20 = .ok (.aload_n 0, 1) := by decide +kernel
theorem d_An_init_21 : decode mi_An_init.2.1 21 = .ok (.bipush 12, 2) := by decide +kernel
theorem d_An_init_23 : decode mi_An_init.2.1 23 = .ok (.newarray .int, 2) := by decide +kernel
theorem d_An_init_25 : decode mi_An_init.2.1 25 = .ok (.putfield 18, 3) := by decide +kernel
theorem d_An_init_28 : decode mi_An_init.2.1 28 = .ok (.aload_n 0, 1) := by decide +kernel
theorem d_An_init_29 : decode mi_An_init.2.1 29 = .ok (.bipush 12, 2) := by decide +kernel
theorem d_An_init_31 : decode mi_An_init.2.1 31 = .ok (.newarray .int, 2) := by decide +kernel
theorem d_An_init_33 : decode mi_An_init.2.1 33 = .ok (.putfield 21, 3) := by decide +kernel
theorem d_An_init_36 : decode mi_An_init.2.1 36 = .ok (.aload_n 0, 1) := by decide +kernel
theorem d_An_init_37 : decode mi_An_init.2.1 37 = .ok (.iconst 0, 1) := by decide +kernel
theorem d_An_init_38 : decode mi_An_init.2.1 38 = .ok (.putfield 24, 3) := by decide +kernel
theorem d_An_init_41 : decode mi_An_init.2.1 41 = .ok (.aload_n 0, 1) := by decide +kernel
theorem d_An_init_42 : decode mi_An_init.2.1 42 = .ok (.iconst 0, 1) := by decide +kernel
theorem d_An_init_43 : decode mi_An_init.2.1 43 = .ok (.putfield 28, 3) := by decide +kernel
theorem d_An_init_46 : decode mi_An_init.2.1 46 = .ok (.return_, 1) := by decide +kernel
theorem d_Re_init_0 : decode mi_Re_init.2.1 0 = .ok (.aload_n 0, 1) := by decide +kernel
theorem d_Re_init_1 : decode mi_Re_init.2.1 1 = .ok (.invokespecial 3, 3) := by decide +kernel
theorem d_Re_init_4 : decode mi_Re_init.2.1 4 = .ok (.aload_n 0, 1) := by decide +kernel
theorem d_Re_init_5 : decode mi_Re_init.2.1 5 = .ok (.iconst 0, 1) := by decide +kernel
theorem d_Re_init_6 : decode mi_Re_init.2.1 6 = .ok (.newarray .int, 2) := by decide +kernel
theorem d_Re_init_8 : decode mi_Re_init.2.1 8 = .ok (.putfield 9, 3) := by decide +kernel
theorem d_Re_init_11 : decode mi_Re_init.2.1 11 = .ok (.aload_n 0, 1) := by decide +kernel
theorem d_Re_init_12 : decode mi_Re_init.2.1 12 = .ok (.iconst 0, 1) := by decide +kernel
theorem d_Re_init_13 : decode mi_Re_init.2.1 13 = .ok (.putfield 15, 3) := by decide +kernel
theorem d_Re_init_16 : decode mi_Re_init.2.1 16 = .ok (.aload_n 0, 1) := by decide +kernel
theorem d_Re_init_17 : decode mi_Re_init.2.1 17 = .ok (.iconst 0, 1) := by decide +kernel
theorem d_Re_init_18 : decode mi_Re_init.2.1 18 = .ok (.putfield 19, 3) := by decide +kernel
theorem d_Re_init_21 : decode mi_Re_init.2.1 21 = .ok (.aload_n 0, 1) := by decide +kernel
theorem d_Re_init_22 : decode mi_Re_init.2.1 22 = .ok (.iconst (-1), 1) := by decide +kernel
theorem d_Re_init_23 : decode mi_Re_init.2.1 23 = .ok (.putfield 22, 3) := by decide +kernel
theorem d_Re_init_26 : decode mi_Re_init.2.1 26 = .ok (.aload_n 0, 1) := by decide +kernel
theorem d_Re_init_27 : decode mi_Re_init.2.1 27 = .ok (.iconst 3, 1) := by decide +kernel
theorem d_Re_init_28 : decode mi_Re_init.2.1 28 = .ok (.newarray .int, 2) := by decide +kernel
theorem d_Re_init_30 : decode mi_Re_init.2.1 30 = .ok (.putfield 25, 3) := by decide +kernel
theorem d_Re_init_33 : decode mi_Re_init.2.1 33 = .ok (.aload_n 0, 1) := by decide +kernel
theorem d_Re_init_34 : decode mi_Re_init.2.1 34 = .ok (.sipush 250, 3) := by decide +kernel
theorem d_Re_init_37 : decode mi_Re_init.2.1 37 = .ok (.newarray .int, 2) := by decide +kernel
theorem d_Re_init_39 : decode mi_Re_init.2.1 39 = .ok (.putfield 28, 3) := by decide +kernel
theorem d_Re_init_42 : decode mi_Re_init.2.1 42 = .ok (.aload_n 0, 1) := by decide +kernel
theorem d_Re_init_43 : decode mi_Re_init.2.1 43 = .ok (.sipush 250, 3) := by decide +kernel
theorem d_Re_init_46 : decode mi_Re_init.2.1 46 = .ok (.newarray .int, 2) := by decide +kernel
theorem d_Re_init_48 : decode mi_Re_init.2.1 48 = .ok (.putfield 31, 3) := by decide +kernel
theorem d_Re_init_51 : decode mi_Re_init.2.1 51 = .ok (.aload_n 0, 1) := by decide +kernel
theorem d_Re_init_52 : decode mi_Re_init.2.1 52 = .ok (.sipush 250, 3) := by decide +kernel
theorem d_Re_init_55 : decode mi_Re_init.2.1 55 = .ok (.newarray .int, 2) := by decide +kernel
theorem d_Re_init_57 : decode mi_Re_init.2.1 57 = .ok (.putfield 34, 3) := by decide +kernel
theorem d_Re_init_60 : decode mi_Re_init.2.1 60 = .ok (.aload_n 0, 1) := by decide +kernel
theorem d_Re_init_61 : decode mi_Re_init.2.1 61 = .ok (.sipush 250, 3) := by decide +kernel
theorem d_Re_init_64 : decode mi_Re_init.2.1 64 = .ok (.newarray .int, 2) := by decide +kernel
theorem d_Re_init_66 : decode mi_Re_init.2.1 66 = .ok (.putfield 37, 3) := by decide +kernel
theorem d_Re_init_69 : decode mi_Re_init.2.1 69 = .ok (.aload_n 0, 1) := by decide +kernel
theorem d_Re_init_70 : decode mi_Re_init.2.1 70 = .ok (.iconst 0, 1) := by decide +kernel
theorem d_Re_init_71 : decode mi_Re_init.2.1 71 = .ok (.putfield 40, 3) := by decide +kernel
theorem d_Re_init_74 : decode mi_Re_init.2.1 74 = .ok (.aload_n 0, 1) := by decide +kernel
theorem d_Re_init_75 : decode mi_Re_init.2.1 75 = .ok (.sipush 250, 3) := by decide +kernel
theorem d_Re_init_78 : decode mi_Re_init.2.1 78 = .ok (.newarray .int, 2) := by decide +kernel
theorem d_Re_init_80 : decode mi_Re_init.2.1 80 = .ok (.putfield 43, 3) := by decide +kernel
theorem d_Re_init_83 : decode mi_Re_init.2.1 83 = .ok (.aload_n 0, 1) := by decide +kernel
theorem d_Re_init_84 : decode mi_Re_init.2.1 84 = .ok (.iconst 0, 1) := by decide +kernel
theorem d_Re_init_85 : decode mi_Re_init.2.1 85 = .ok (.putfield 46, 3) := by decide +kernel
theorem d_Re_init_88 : decode mi_Re_init.2.1 88 = .ok (.aload_n 0, 1) := by decide +kernel
theorem d_Re_init_89 : decode mi_Re_init.2.1 89 = .ok (.sipush 250, 3) := by decide +kernel
theorem d_Re_init_92 : decode mi_Re_init.2.1 92 = .ok (.newarray .int, 2) := by decide +kernel
theorem d_Re_init_94 : decode mi_Re_init.2.1 94 = .ok (.putfield 49, 3) := by decide +kernel
theorem d_Re_init_97 : decode mi_Re_init.2.1 97 = .ok (.aload_n 0, 1) := by decide +kernel
theorem d_Re_init_98 : decode mi_Re_init.2.1 98 = .ok (.iconst 0, 1) := by decide +kernel
theorem d_Re_init_99 : decode mi_Re_init.2.1 99 = .ok (.putfield 52, 3) := by decide +kernel
theorem d_Re_init_102 : decode mi_Re_init.2.1 102 = .ok (.aload_n 0, 1) := by decide +kernel
theorem d_Re_init_103 : decode mi_Re_init.2.1 103 = .ok (.iconst 0, 1) := by decide +kernel
theorem d_Re_init_104 : decode mi_Re_init.2.1 104 = .ok (.putfield 55, 3) := by decide +kernel
theorem d_Re_init_107 : decode mi_Re_init.2.1 107 = .ok (.aload_n 0, 1) := by decide +kernel
theorem d_Re_init_108 : decode mi_Re_init.2.1 108 = .ok (.iconst 1, 1) := by decide +kernel
theorem d_Re_init_109 : decode mi_Re_init.2.1 109 = .ok (.putfield 58, 3) := by decide +kernel
theorem d_Re_init_112 : decode mi_Re_init.2.1 112 = .ok (.return_, 1) := by decide +kernel
theorem d_Sp_init_0 : decode mi_Sp_init.2.1 0 = .ok (.aload_n 0, 1) := by decide +kernel
theorem d_Sp_init_1 : decode mi_Sp_init.2.1 1 = .ok (.invokespecial 3, 3) := by decide +kernel
theorem d_Sp_init_4 : decode mi_Sp_init.2.1 4 = .ok (.aload_n 0, 1) := by decide +kernel
theorem d_Sp_init_5 : decode mi_Sp_init.2.1 5 = .ok (.sipush 250, 3) := by decide +kernel
theorem d_Sp_init_8 : decode mi_Sp_init.2.1 8 = .ok (.newarray .int, 2) := by decide +kernel
theorem d_Sp_init_10 : decode mi_Sp_init.2.1 10 = .ok (.putfield 9, 3) := by decide +kernel
theorem d_Sp_init_13 : decode mi_Sp_init.2.1 13 = .ok (.aload_n 0, 1) := by decide +kernel
theorem d_Sp_init_14 : decode mi_Sp_init.2.1 14 = .ok (.sipush 250, 3) := by decide +kernel
theorem d_Sp_init_17 : decode mi_Sp_init.2.1 17 = .ok (.newarray .int, 2) := by decide +kernel
theorem d_Sp_init_19 : decode mi_Sp_init.2.1 19 = .ok (.putfield 15, 3) := by decide +kernel
theorem d_Sp_init_22 : decode mi_Sp_init.2.1 22 = .ok (.aload_n 0, 1) := by decide +kernel
theorem d_Sp_init_23 : decode mi_Sp_init.2.1 23 = .ok (.sipush 270, 3) := by decide +kernel
theorem d_Sp_init_26 : decode mi_Sp_init.2.1 26 = .ok (.newarray .int, 2) := by decide +kernel
theorem d_Sp_init_28 : decode mi_Sp_init.2.1 28 = .ok (.putfield 18, 3) := by decide +kernel
theorem d_Sp_init_31 : decode mi_Sp_init.2.1 31 = .ok (.aload_n 0, 1) := by decide +kernel
theorem d_Sp_init_32 : decode mi_Sp_init.2.1 32 = .ok (.iconst 0, 1) := by decide +kernel
theorem d_Sp_init_33 : decode mi_Sp_init.2.1 33 = .ok (.putfield 21, 3) := by decide +kernel
theorem d_Sp_init_36 : decode mi_Sp_init.2.1 36 = .ok (.return_, 1) := by decide +kernel
theorem d_Sh_init_0 : decode mi_Sh_init.2.1 0 = .ok (.aload_n 0, 1) := by decide +kernel
theorem d_Sh_init_1 : decode mi_Sh_init.2.1 1 = .ok (.invokespecial 3, 3) := by decide +kernel
theorem d_Sh_init_4 : decode mi_Sh_init.2.1 4 = .ok (.aload_n 0, 1) := by decide +kernel
theorem d_Sh_init_5 : decode mi_Sh_init.2.1 5 = .ok (.iconst (-1), 1) := by decide +kernel
theorem d_Sh_init_6 : decode mi_Sh_init.2.1 6 = .ok (.putfield 9, 3) := by decide +kernel
theorem d_Sh_init_9 : decode mi_Sh_init.2.1 9 = .ok (.aload_n 0, 1) := by decide +kernel
theorem d_Sh_init_10 : decode mi_Sh_init.2.1 10 = .ok (.iconst 0, 1) := by decide +kernel
theorem d_Sh_init_11 : decode mi_Sh_init.2.1 11 = .ok (.putfield 15, 3) := by decide +kernel
theorem d_Sh_init_14 : decode mi_Sh_init.2.1 14 = .ok (.aload_n 0, 1) := by decide +kernel
theorem d_Sh_init_15 : decode mi_Sh_init.2.1 15 = .ok (.bipush 40, 2) := by decide +kernel
theorem d_Sh_init_17 : decode mi_Sh_init.2.1 17 = .ok (.newarray .long, 2) := by decide +kernel
theorem d_Sh_init_19 : decode mi_Sh_init.2.1 19 = .ok (.putfield 18, 3) := by decide +kernel
theorem d_Sh_init_22 : decode mi_Sh_init.2.1 22 = .ok (.aload_n 0, 1) := by decide +kernel
theorem d_Sh_init_23 : decode mi_Sh_init.2.1 23 = .ok (.aconst_null, 1) := by decide +kernel
theorem d_Sh_init_24 : decode mi_Sh_init.2.1 24 = .ok (.putfield 22, 3) := by decide +kernel
theorem d_Sh_init_27 : decode mi_Sh_init.2.1 27 = .ok (.aload_n 0, 1) := by decide +kernel
theorem d_Sh_init_28 : decode mi_Sh_init.2.1 28 = .ok (.iconst (-1), 1) := by decide +kernel
theorem d_Sh_init_29 : decode mi_Sh_init.2.1 29 = .ok (.putfield 26, 3) := by decide +kernel
theorem d_Sh_init_32 : decode mi_Sh_init.2.1 32 = .ok (.return_, 1) := by decide +kernel
theorem d_Sh_takeRow_0 : decode mi_Sh_takeRow.2.1 0 = .ok (.aload_n 0, 1) := by decide +kernel
theorem d_Sh_takeRow_1 : decode mi_Sh_takeRow.2.1 1 = .ok (.invokevirtual 35, 3) := by decide +kernel
theorem d_Sh_takeRow_4 : decode mi_Sh_takeRow.2.1 4 = .ok (.aload_n 0, 1) := by decide +kernel
theorem d_Sh_takeRow_5 : decode mi_Sh_takeRow.2.1 5 = .ok (.iload_n 1, 1) := by decide +kernel
theorem d_Sh_takeRow_6 : decode mi_Sh_takeRow.2.1 6 = .ok (.putfield 9, 3) := by decide +kernel
theorem d_Sh_takeRow_9 : decode mi_Sh_takeRow.2.1 9 = .ok (.aload_n 0, 1) := by decide +kernel
theorem d_Sh_takeRow_10 : decode mi_Sh_takeRow.2.1 10 = .ok (.iload_n 2, 1) := by decide +kernel
theorem d_Sh_takeRow_11 : decode mi_Sh_takeRow.2.1 11 = .ok (.putfield 15, 3) := by decide +kernel
theorem d_Sh_takeRow_14 : decode mi_Sh_takeRow.2.1 14 = .ok (.aload_n 0, 1) := by decide +kernel
theorem d_Sh_takeRow_15 : decode mi_Sh_takeRow.2.1 15 = .ok (.getfield 18, 3) := by decide +kernel
theorem d_Sh_takeRow_18 : decode mi_Sh_takeRow.2.1 18 = .ok (.lconst 0, 1) := by decide +kernel
theorem d_Sh_takeRow_19 : decode mi_Sh_takeRow.2.1 19 = .ok (.invokestatic 38, 3) := by decide +kernel
theorem d_Sh_takeRow_22 : decode mi_Sh_takeRow.2.1 22 = .ok (.return_, 1) := by decide +kernel
theorem d_Sh_clear_0 : decode mi_Sh_clear.2.1 0 = .ok (.aload_n 0, 1) := by decide +kernel
theorem d_Sh_clear_1 : decode mi_Sh_clear.2.1 1 = .ok (.iconst (-1), 1) := by decide +kernel
theorem d_Sh_clear_2 : decode mi_Sh_clear.2.1 2 = .ok (.putfield 9, 3) := by decide +kernel
theorem d_Sh_clear_5 : decode mi_Sh_clear.2.1 5 = .ok (.aload_n 0, 1) := by decide +kernel
theorem d_Sh_clear_6 : decode mi_Sh_clear.2.1 6 = .ok (.iconst 0, 1) := by decide +kernel
theorem d_Sh_clear_7 : decode mi_Sh_clear.2.1 7 = .ok (.putfield 15, 3) := by decide +kernel
theorem d_Sh_clear_10 : decode mi_Sh_clear.2.1 10 = .ok (.aload_n 0, 1) := by decide +kernel
theorem d_Sh_clear_11 : decode mi_Sh_clear.2.1 11 = .ok (.aconst_null, 1) := by decide +kernel
theorem d_Sh_clear_12 : decode mi_Sh_clear.2.1 12 = .ok (.putfield 22, 3) := by decide +kernel
theorem d_Sh_clear_15 : decode mi_Sh_clear.2.1 15 = .ok (.aload_n 0, 1) := by decide +kernel
theorem d_Sh_clear_16 : decode mi_Sh_clear.2.1 16 = .ok (.iconst (-1), 1) := by decide +kernel
theorem d_Sh_clear_17 : decode mi_Sh_clear.2.1 17 = .ok (.putfield 26, 3) := by decide +kernel
theorem d_Sh_clear_20 : decode mi_Sh_clear.2.1 20 = .ok (.return_, 1) := by decide +kernel
theorem d_JA_fillL_0 : decode mi_JA_fillL.2.1 0 = .ok (.iconst 0, 1) := by decide +kernel
theorem d_JA_fillL_1 : decode mi_JA_fillL.2.1 1 = .ok (.istore_n 3, 1) := by decide +kernel
theorem d_JA_fillL_2 : decode mi_JA_fillL.2.1 2 = .ok (.aload_n 0, 1) := by decide +kernel
theorem d_JA_fillL_3 : decode mi_JA_fillL.2.1 3 = .ok (.arraylength, 1) := by decide +kernel
theorem d_JA_fillL_4 : decode mi_JA_fillL.2.1 4 = .ok (.istore 4, 2) := by decide +kernel
theorem d_JA_fillL_6 : decode mi_JA_fillL.2.1 6 = .ok (.iload_n 3, 1) := by decide +kernel
theorem d_JA_fillL_7 : decode mi_JA_fillL.2.1 7 = .ok (.iload 4, 2) := by decide +kernel
theorem d_JA_fillL_9 : decode mi_JA_fillL.2.1 9 = .ok (.if_icmp .ge 13, 3) := by decide +kernel
theorem d_JA_fillL_12 : decode mi_JA_fillL.2.1 12 = .ok (.aload_n 0, 1) := by decide +kernel
theorem d_JA_fillL_13 : decode mi_JA_fillL.2.1 13 = .ok (.iload_n 3, 1) := by decide +kernel
theorem d_JA_fillL_14 : decode mi_JA_fillL.2.1 14 = .ok (.lload_n 1, 1) := by decide +kernel
theorem d_JA_fillL_15 : decode mi_JA_fillL.2.1 15 = .ok (.lastore, 1) := by decide +kernel
theorem d_JA_fillL_16 : decode mi_JA_fillL.2.1 16 = .ok (.iinc 3 1, 3) := by decide +kernel
theorem d_JA_fillL_19 : decode mi_JA_fillL.2.1 19 = .ok (.goto (-13), 3) := by decide +kernel
theorem d_JA_fillL_22 : decode mi_JA_fillL.2.1 22 = .ok (.return_, 1) := by decide +kernel
theorem d_Sh_hasCondition_0 : decode mi_Sh_hasCondition.2.1 0 = .ok (.aload_n 0, 1) := by decide +kernel
theorem d_Sh_hasCondition_1 : decode mi_Sh_hasCondition.2.1 1 = .ok (.getfield 22, 3) := by decide +kernel
theorem d_Sh_hasCondition_4 : decode mi_Sh_hasCondition.2.1 4 = .ok (.ifnull 7, 3) := by decide +kernel
theorem d_Sh_hasCondition_7 : decode mi_Sh_hasCondition.2.1 7 = .ok (.iconst 1, 1) := by decide +kernel
theorem d_Sh_hasCondition_8 : decode mi_Sh_hasCondition.2.1 8 = .ok (.goto 4, 3) := by decide +kernel
theorem d_Sh_hasCondition_11 : decode mi_Sh_hasCondition.2.1 11 = .ok (.iconst 0, 1) := by decide +kernel
theorem d_Sh_hasCondition_12 : decode mi_Sh_hasCondition.2.1 12 = .ok (.ireturn, 1) := by decide +kernel
theorem d_Sh_hasRow_0 : decode mi_Sh_hasRow.2.1 0 = .ok (.aload_n 0, 1) := by decide +kernel
theorem d_Sh_hasRow_1 : decode mi_Sh_hasRow.2.1 1 = .ok (.getfield 9, 3) := by decide +kernel
theorem d_Sh_hasRow_4 : decode mi_Sh_hasRow.2.1 4 = .ok (.iconst (-1), 1) := by decide +kernel
theorem d_Sh_hasRow_5 : decode mi_Sh_hasRow.2.1 5 = .ok (.if_icmp .eq 7, 3) := by decide +kernel
theorem d_Sh_hasRow_8 : decode mi_Sh_hasRow.2.1 8 = .ok (.iconst 1, 1) := by decide +kernel
theorem d_Sh_hasRow_9 : decode mi_Sh_hasRow.2.1 9 = .ok (.goto 4, 3) := by decide +kernel
theorem d_Sh_hasRow_12 : decode mi_Sh_hasRow.2.1 12 = .ok (.iconst 0, 1) := by decide +kernel
theorem d_Sh_hasRow_13 : decode mi_Sh_hasRow.2.1 13 = .ok (.ireturn, 1) := by decide +kernel
theorem d_Sh_put_0 : decode mi_Sh_put.2.1 0 = .ok (.aload_n 0, 1) := by decide +kernel
theorem d_Sh_put_1 : decode mi_Sh_put.2.1 1 = .ok (.getfield 9, 3) := by decide +kernel
theorem d_Sh_put_4 : decode mi_Sh_put.2.1 4 = .ok (.tableswitch 80 0 3 #[32, 45, 58, 70], 32) := by decide +kernel
theorem d_Sh_put_36 : decode mi_Sh_put.2.1 36 = .ok (.aload_n 0, 1) := by decide +kernel
theorem d_Sh_put_37 : decode mi_Sh_put.2.1 37 = .ok (.getfield 18, 3) := by decide +kernel
theorem d_Sh_put_40 : decode mi_Sh_put.2.1 40 = .ok (.iload_n 1, 1) := by decide +kernel
theorem d_Sh_put_41 : decode mi_Sh_put.2.1 41 = .ok (.lload_n 2, 1) := by decide +kernel
theorem d_Sh_put_42 : decode mi_Sh_put.2.1 42 = .ok (.l2i, 1) := by decide +kernel
theorem d_Sh_put_43 : decode mi_Sh_put.2.1 43 = .ok (.i2b, 1) := by decide +kernel
theorem d_Sh_put_44 : decode mi_Sh_put.2.1 44 = .ok (.i2l, 1) := by decide +kernel
theorem d_Sh_put_45 : decode mi_Sh_put.2.1 45 = .ok (.lastore, 1) := by decide +kernel
theorem d_Sh_put_46 : decode mi_Sh_put.2.1 46 = .ok (.goto 55, 3) := by decide +kernel
theorem d_Sh_put_49 : decode mi_Sh_put.2.1 49 = .ok (.aload_n 0, 1) := by decide +kernel
theorem d_Sh_put_50 : decode mi_Sh_put.2.1 50 = .ok (.getfield 18, 3) := by decide +kernel
theorem d_Sh_put_53 : decode mi_Sh_put.2.1 53 = .ok (.iload_n 1, 1) := by decide +kernel
theorem d_Sh_put_54 : decode mi_Sh_put.2.1 54 = .ok (.lload_n 2, 1) := by decide +kernel
theorem d_Sh_put_55 : decode mi_Sh_put.2.1 55 = .ok (.l2i, 1) := by decide +kernel
theorem d_Sh_put_56 : decode mi_Sh_put.2.1 56 = .ok (.i2s, 1) := by decide +kernel
theorem d_Sh_put_57 : decode mi_Sh_put.2.1 57 = .ok (.i2l, 1) := by decide +kernel
theorem d_Sh_put_58 : decode mi_Sh_put.2.1 58 = .ok (.lastore, 1) := by decide +kernel
theorem d_Sh_put_59 : decode mi_Sh_put.2.1 59 = .ok (.goto 42, 3) := by decide +kernel
theorem d_Sh_put_62 : decode mi_Sh_put.2.1 62 = .ok (.aload_n 0, 1) := by decide +kernel
theorem d_Sh_put_63 : decode mi_Sh_put.2.1 63 = .ok (.getfield 18, 3) := by decide +kernel
theorem d_Sh_put_66 : decode mi_Sh_put.2.1 66 = .ok (.iload_n 1, 1) := by decide +kernel
theorem d_Sh_put_67 : decode mi_Sh_put.2.1 67 = .ok (.lload_n 2, 1) := by decide +kernel
theorem d_Sh_put_68 : decode mi_Sh_put.2.1 68 = .ok (.l2i, 1) := by decide +kernel
theorem d_Sh_put_69 : decode mi_Sh_put.2.1 69 = .ok (.i2l, 1) := by decide +kernel
theorem d_Sh_put_70 : decode mi_Sh_put.2.1 70 = .ok (.lastore, 1) := by decide +kernel
theorem d_Sh_put_71 : decode mi_Sh_put.2.1 71 = .ok (.goto 30, 3) := by decide +kernel
theorem d_Sh_put_74 : decode mi_Sh_put.2.1 74 = .ok (.aload_n 0, 1) := by decide +kernel
theorem d_Sh_put_75 : decode mi_Sh_put.2.1 75 = .ok (.getfield 18, 3) := by decide +kernel
theorem d_Sh_put_78 : decode mi_Sh_put.2.1 78 = .ok (.iload_n 1, 1) := by decide +kernel
theorem d_Sh_put_79 : decode mi_Sh_put.2.1 79 = .ok (.lload_n 2, 1) := by decide +kernel
theorem d_Sh_put_80 : decode mi_Sh_put.2.1 80 = .ok (.lastore, 1) := by decide +kernel
theorem d_Sh_put_81 : decode mi_Sh_put.2.1 81 = .ok (.goto 20, 3) := by decide +kernel
theorem d_Sh_put_84 : decode mi_Sh_put.2.1 84 = .ok (.aload_n 0, 1) := by decide +kernel
theorem d_Sh_put_85 : decode mi_Sh_put.2.1 85 = .ok (.getfield 18, 3) := by decide +kernel
theorem d_Sh_put_88 : decode mi_Sh_put.2.1 88 = .ok (.iload_n 1, 1) := by decide +kernel
theorem d_Sh_put_89 : decode mi_Sh_put.2.1 89 = .ok (.lload_n 2, 1) := by decide +kernel
theorem d_Sh_put_90 : decode mi_Sh_put.2.1 90 = .ok (.lconst 0, 1) := by decide +kernel
theorem d_Sh_put_91 : decode mi_Sh_put.2.1 91 = .ok (.lcmp, 1) := by decide +kernel
theorem d_Sh_put_92 : decode mi_Sh_put.2.1 92 = .ok (.ifCond .ne 7, 3) := by decide +kernel
theorem d_Sh_put_95 : decode mi_Sh_put.2.1 95 = .ok (.lconst 0, 1) := by decide +kernel
theorem d_Sh_put_96 : decode mi_Sh_put.2.1 96 = .ok (.goto 4, 3) := by decide +kernel
theorem d_Sh_put_99 : decode mi_Sh_put.2.1 99 = .ok (.lconst 1, 1) := by decide +kernel
theorem d_Sh_put_100 : decode mi_Sh_put.2.1 100 = .ok (.lastore, 1) := by decide +kernel
theorem d_Sh_put_101 : decode mi_Sh_put.2.1 101 = .ok (.return_, 1) := by decide +kernel
theorem d_Sh_hasRange_0 : decode mi_Sh_hasRange.2.1 0 = .ok (.iload_n 1, 1) := by decide +kernel
theorem d_Sh_hasRange_1 : decode mi_Sh_hasRange.2.1 1 = .ok (.ifCond .lt 29, 3) := by decide +kernel
theorem d_Sh_hasRange_4 : decode mi_Sh_hasRange.2.1 4 = .ok (.iload_n 2, 1) := by decide +kernel
theorem d_Sh_hasRange_5 : decode mi_Sh_hasRange.2.1 5 = .ok (.ifCond .lt 25, 3) := by decide +kernel
theorem d_Sh_hasRange_8 : decode mi_Sh_hasRange.2.1 8 = .ok (.iload_n 1, 1) := by decide +kernel
theorem d_Sh_hasRange_9 : decode mi_Sh_hasRange.2.1 9 = .ok (.aload_n 0, 1) := by decide +kernel
theorem d_Sh_hasRange_10 : decode mi_Sh_hasRange.2.1 10 = .ok (.getfield 15, 3) := by decide +kernel
theorem d_Sh_hasRange_13 : decode mi_Sh_hasRange.2.1 13 = .ok (.if_icmp .gt 17, 3) := by decide +kernel
theorem d_Sh_hasRange_16 : decode mi_Sh_hasRange.2.1 16 = .ok (.iload_n 2, 1) := by decide +kernel
theorem d_Sh_hasRange_17 : decode mi_Sh_hasRange.2.1 17 = .ok (.aload_n 0, 1) := by decide +kernel
theorem d_Sh_hasRange_18 : decode mi_Sh_hasRange.2.1 18 = .ok (.getfield 15, 3) := by decide +kernel
theorem d_Sh_hasRange_21 : decode mi_Sh_hasRange.2.1 21 = .ok (.iload_n 1, 1) := by decide +kernel
theorem d_Sh_hasRange_22 : decode mi_Sh_hasRange.2.1 22 = .ok (.isub, 1) := by decide +kernel
theorem d_Sh_hasRange_23 : decode mi_Sh_hasRange.2.1 23 = .ok (.if_icmp .gt 7, 3) := by decide +kernel
theorem d_Sh_hasRange_26 : decode mi_Sh_hasRange.2.1 26 = .ok (.iconst 1, 1) := by decide +kernel
theorem d_Sh_hasRange_27 : decode mi_Sh_hasRange.2.1 27 = .ok (.goto 4, 3) := by decide +kernel
theorem d_Sh_hasRange_30 : decode mi_Sh_hasRange.2.1 30 = .ok (.iconst 0, 1) := by decide +kernel
theorem d_Sh_hasRange_31 : decode mi_Sh_hasRange.2.1 31 = .ok (.ireturn, 1) := by decide +kernel
theorem d_Sh_holding_0 : decode mi_Sh_holding.2.1 0 = .ok (.aload_n 0, 1) := by decide +kernel
theorem d_Sh_holding_1 : decode mi_Sh_holding.2.1 1 = .ok (.getfield 22, 3) := by decide +kernel
theorem d_Sh_holding_4 : decode mi_Sh_holding.2.1 4 = .ok (.ifnonnull 10, 3) := by decide +kernel
theorem d_Sh_holding_7 : decode mi_Sh_holding.2.1 7 = .ok (.aload_n 0, 1) := by decide +kernel
theorem d_Sh_holding_8 : decode mi_Sh_holding.2.1 8 = .ok (.getfield 9, 3) := by decide +kernel
theorem d_Sh_holding_11 : decode mi_Sh_holding.2.1 11 = .ok (.goto 17, 3) := by decide +kernel
theorem d_Sh_holding_14 : decode mi_Sh_holding.2.1 14 = .ok (.bipush 10, 2) := by decide +kernel
theorem d_Sh_holding_16 : decode mi_Sh_holding.2.1 16 = .ok (.aload_n 0, 1) := by decide +kernel
theorem d_Sh_holding_17 : decode mi_Sh_holding.2.1 17 = .ok (.getfield 22, 3) := by decide +kernel
theorem d_Sh_holding_20 : decode mi_Sh_holding.2.1 20 = .ok (.aload_n 0, 1) := by decide +kernel
theorem d_Sh_holding_21 : decode mi_Sh_holding.2.1 21 = .ok (.getfield 26, 3) := by decide +kernel
theorem d_Sh_holding_24 : decode mi_Sh_holding.2.1 24 = .ok (.invokevirtual 29, 3) := by decide +kernel
theorem d_Sh_holding_27 : decode mi_Sh_holding.2.1 27 = .ok (.iadd, 1) := by decide +kernel
theorem d_Sh_holding_28 : decode mi_Sh_holding.2.1 28 = .ok (.ireturn, 1) := by decide +kernel
theorem d_Co_kindOf_0 : decode mi_Co_kindOf.2.1 0 = .ok (.iload_n 1, 1) := by decide +kernel
theorem d_Co_kindOf_1 : decode mi_Co_kindOf.2.1 1 = .ok (.ifCond .lt 21, 3) := by decide +kernel
theorem d_Co_kindOf_4 : decode mi_Co_kindOf.2.1 4 = .ok (.iload_n 1, 1) := by decide +kernel
theorem d_Co_kindOf_5 : decode mi_Co_kindOf.2.1 5 = .ok (.aload_n 0, 1) := by decide +kernel
theorem d_Co_kindOf_6 : decode mi_Co_kindOf.2.1 6 = .ok (.getfield 15, 3) := by decide +kernel
theorem d_Co_kindOf_9 : decode mi_Co_kindOf.2.1 9 = .ok (.arraylength, 1) := by decide +kernel
theorem d_Co_kindOf_10 : decode mi_Co_kindOf.2.1 10 = .ok (.if_icmp .ge 12, 3) := by decide +kernel
theorem d_Co_kindOf_13 : decode mi_Co_kindOf.2.1 13 = .ok (.aload_n 0, 1) := by decide +kernel
theorem d_Co_kindOf_14 : decode mi_Co_kindOf.2.1 14 = .ok (.getfield 15, 3) := by decide +kernel
theorem d_Co_kindOf_17 : decode mi_Co_kindOf.2.1 17 = .ok (.iload_n 1, 1) := by decide +kernel
theorem d_Co_kindOf_18 : decode mi_Co_kindOf.2.1 18 = .ok (.iaload, 1) := by decide +kernel
theorem d_Co_kindOf_19 : decode mi_Co_kindOf.2.1 19 = .ok (.goto 4, 3) := by decide +kernel
theorem d_Co_kindOf_22 : decode mi_Co_kindOf.2.1 22 = .ok (.iconst (-1), 1) := by decide +kernel
theorem d_Co_kindOf_23 : decode mi_Co_kindOf.2.1 23 = .ok (.ireturn, 1) := by decide +kernel
theorem d_Co_root_0 : decode mi_Co_root.2.1 0 = .ok (.aload_n 0, 1) := by decide +kernel
theorem d_Co_root_1 : decode mi_Co_root.2.1 1 = .ok (.getfield 15, 3) := by decide +kernel
theorem d_Co_root_4 : decode mi_Co_root.2.1 4 = .ok (.arraylength, 1) := by decide +kernel
theorem d_Co_root_5 : decode mi_Co_root.2.1 5 = .ok (.iconst 1, 1) := by decide +kernel
theorem d_Co_root_6 : decode mi_Co_root.2.1 6 = .ok (.isub, 1) := by decide +kernel
theorem d_Co_root_7 : decode mi_Co_root.2.1 7 = .ok (.ireturn, 1) := by decide +kernel
theorem d_Co_partOf_0 : decode mi_Co_partOf.2.1 0 = .ok (.aload_n 0, 1) := by decide +kernel
theorem d_Co_partOf_1 : decode mi_Co_partOf.2.1 1 = .ok (.iload_n 1, 1) := by decide +kernel
theorem d_Co_partOf_2 : decode mi_Co_partOf.2.1 2 = .ok (.invokevirtual 34, 3) := by decide +kernel
theorem d_Co_partOf_5 : decode mi_Co_partOf.2.1 5 = .ok (.istore_n 3, 1) := by decide +kernel
theorem d_Co_partOf_6 : decode mi_Co_partOf.2.1 6 = .ok (.iload_n 3, 1) := by decide +kernel
theorem d_Co_partOf_7 : decode mi_Co_partOf.2.1 7 = .ok (.iconst (-1), 1) := by decide +kernel
theorem d_Co_partOf_8 : decode mi_Co_partOf.2.1 8 = .ok (.if_icmp .eq 7, 3) := by decide +kernel
theorem d_Co_partOf_11 : decode mi_Co_partOf.2.1 11 = .ok (.iload_n 2, 1) := by decide +kernel
theorem d_Co_partOf_12 : decode mi_Co_partOf.2.1 12 = .ok (.ifCond .ne 14, 3) := by decide +kernel
theorem d_Co_partOf_15 : decode mi_Co_partOf.2.1 15 = .ok (.iload_n 3, 1) := by decide +kernel
theorem d_Co_partOf_16 : decode mi_Co_partOf.2.1 16 = .ok (.iconst (-1), 1) := by decide +kernel
theorem d_Co_partOf_17 : decode mi_Co_partOf.2.1 17 = .ok (.if_icmp .ne 7, 3) := by decide +kernel
theorem d_Co_partOf_20 : decode mi_Co_partOf.2.1 20 = .ok (.iconst (-1), 1) := by decide +kernel
theorem d_Co_partOf_21 : decode mi_Co_partOf.2.1 21 = .ok (.goto 4, 3) := by decide +kernel
theorem d_Co_partOf_24 : decode mi_Co_partOf.2.1 24 = .ok (.iload_n 1, 1) := by decide +kernel
theorem d_Co_partOf_25 : decode mi_Co_partOf.2.1 25 = .ok (.ireturn, 1) := by decide +kernel
theorem d_Co_partOf_26 : decode mi_Co_partOf.2.1 26 = .ok (.iload_n 3, 1) := by decide +kernel
theorem d_Co_partOf_27 : decode mi_Co_partOf.2.1 27 = .ok (.bipush 7, 2) := by decide +kernel
theorem d_Co_partOf_29 : decode mi_Co_partOf.2.1 29 = .ok (.if_icmp .eq 9, 3) := by decide +kernel
theorem d_Co_partOf_32 : decode mi_Co_partOf.2.1 32 = .ok (.iload_n 3, 1) := by decide +kernel
theorem d_Co_partOf_33 : decode mi_Co_partOf.2.1 33 = .ok (.bipush 8, 2) := by decide +kernel
theorem d_Co_partOf_35 : decode mi_Co_partOf.2.1 35 = .ok (.if_icmp .ne 7, 3) := by decide +kernel
theorem d_Co_partOf_38 : decode mi_Co_partOf.2.1 38 = .ok (.iconst 1, 1) := by decide +kernel
theorem d_Co_partOf_39 : decode mi_Co_partOf.2.1 39 = .ok (.goto 4, 3) := by decide +kernel
theorem d_Co_partOf_42 : decode mi_Co_partOf.2.1 42 = .ok (.iconst 0, 1) := by decide +kernel
theorem d_Co_partOf_43 : decode mi_Co_partOf.2.1 43 = .ok (.istore 4, 2) := by decide +kernel
theorem d_Co_partOf_45 : decode mi_Co_partOf.2.1 45 = .ok (.iload_n 2, 1) := by decide +kernel
theorem d_Co_partOf_46 : decode mi_Co_partOf.2.1 46 = .ok (.iconst 1, 1) := by decide +kernel
theorem d_Co_partOf_47 : decode mi_Co_partOf.2.1 47 = .ok (.if_icmp .ne 20, 3) := by decide +kernel
theorem d_Co_partOf_50 : decode mi_Co_partOf.2.1 50 = .ok (.iload 4, 2) := by decide +kernel
theorem d_Co_partOf_52 : decode mi_Co_partOf.2.1 52 = .ok (.ifCond .ne 8, 3) := by decide +kernel
theorem d_Co_partOf_55 : decode mi_Co_partOf.2.1 55 = .ok (.iload_n 3, 1) := by decide +kernel
theorem d_Co_partOf_56 : decode mi_Co_partOf.2.1 56 = .ok (.iconst 3, 1) := by decide +kernel
theorem d_Co_partOf_57 : decode mi_Co_partOf.2.1 57 = .ok (.if_icmp .ne 10, 3) := by decide +kernel
theorem d_Co_partOf_60 : decode mi_Co_partOf.2.1 60 = .ok (.aload_n 0, 1) := by decide +kernel
theorem d_Co_partOf_61 : decode mi_Co_partOf.2.1 61 = .ok (.getfield 21, 3) := by decide +kernel
theorem d_Co_partOf_64 : decode mi_Co_partOf.2.1 64 = .ok (.iload_n 1, 1) := by decide +kernel
theorem d_Co_partOf_65 : decode mi_Co_partOf.2.1 65 = .ok (.iaload, 1) := by decide +kernel
theorem d_Co_partOf_66 : decode mi_Co_partOf.2.1 66 = .ok (.ireturn, 1) := by decide +kernel
theorem d_Co_partOf_67 : decode mi_Co_partOf.2.1 67 = .ok (.iload_n 2, 1) := by decide +kernel
theorem d_Co_partOf_68 : decode mi_Co_partOf.2.1 68 = .ok (.iconst 2, 1) := by decide +kernel
theorem d_Co_partOf_69 : decode mi_Co_partOf.2.1 69 = .ok (.if_icmp .ne 17, 3) := by decide +kernel
theorem d_Co_partOf_72 : decode mi_Co_partOf.2.1 72 = .ok (.iload 4, 2) := by decide +kernel
theorem d_Co_partOf_74 : decode mi_Co_partOf.2.1 74 = .ok (.ifCond .eq 12, 3) := by decide +kernel
theorem d_Co_partOf_77 : decode mi_Co_partOf.2.1 77 = .ok (.aload_n 0, 1) := by decide +kernel
theorem d_Co_partOf_78 : decode mi_Co_partOf.2.1 78 = .ok (.getfield 24, 3) := by decide +kernel
theorem d_Co_partOf_81 : decode mi_Co_partOf.2.1 81 = .ok (.iload_n 1, 1) := by decide +kernel
theorem d_Co_partOf_82 : decode mi_Co_partOf.2.1 82 = .ok (.iaload, 1) := by decide +kernel
theorem d_Co_partOf_83 : decode mi_Co_partOf.2.1 83 = .ok (.goto 4, 3) := by decide +kernel
theorem d_Co_partOf_86 : decode mi_Co_partOf.2.1 86 = .ok (.iconst (-1), 1) := by decide +kernel
theorem d_Co_partOf_87 : decode mi_Co_partOf.2.1 87 = .ok (.ireturn, 1) := by decide +kernel
theorem d_Sh_takeCondition_0 : decode mi_Sh_takeCondition.2.1 0 = .ok (.aload_n 0, 1) := by decide +kernel
theorem d_Sh_takeCondition_1 : decode mi_Sh_takeCondition.2.1 1 = .ok (.invokevirtual 35, 3) := by decide +kernel
theorem d_Sh_takeCondition_4 : decode mi_Sh_takeCondition.2.1 4 = .ok (.aload_n 0, 1) := by decide +kernel
theorem d_Sh_takeCondition_5 : decode mi_Sh_takeCondition.2.1 5 = .ok (.aload_n 1, 1) := by decide +kernel
theorem d_Sh_takeCondition_6 : decode mi_Sh_takeCondition.2.1 6 = .ok (.putfield 22, 3) := by decide +kernel
theorem d_Sh_takeCondition_9 : decode mi_Sh_takeCondition.2.1 9 = .ok (.aload_n 0, 1) := by decide +kernel
theorem d_Sh_takeCondition_10 : decode mi_Sh_takeCondition.2.1 10 = .ok (.iload_n 2, 1) := by decide +kernel
theorem d_Sh_takeCondition_11 : decode mi_Sh_takeCondition.2.1 11 = .ok (.putfield 26, 3) := by decide +kernel
theorem d_Sh_takeCondition_14 : decode mi_Sh_takeCondition.2.1 14 = .ok (.return_, 1) := by decide +kernel
theorem d_Co_isSo_0 : decode mi_Co_isSo.2.1 0 = .ok (.iload_n 1, 1) := by decide +kernel
theorem d_Co_isSo_1 : decode mi_Co_isSo.2.1 1 = .ok (.ifCond .lt 12, 3) := by decide +kernel
theorem d_Co_isSo_4 : decode mi_Co_isSo.2.1 4 = .ok (.iload_n 1, 1) := by decide +kernel
theorem d_Co_isSo_5 : decode mi_Co_isSo.2.1 5 = .ok (.aload_n 0, 1) := by decide +kernel
theorem d_Co_isSo_6 : decode mi_Co_isSo.2.1 6 = .ok (.getfield 15, 3) := by decide +kernel
theorem d_Co_isSo_9 : decode mi_Co_isSo.2.1 9 = .ok (.arraylength, 1) := by decide +kernel
theorem d_Co_isSo_10 : decode mi_Co_isSo.2.1 10 = .ok (.if_icmp .lt 5, 3) := by decide +kernel
theorem d_Co_isSo_13 : decode mi_Co_isSo.2.1 13 = .ok (.iconst 0, 1) := by decide +kernel
theorem d_Co_isSo_14 : decode mi_Co_isSo.2.1 14 = .ok (.ireturn, 1) := by decide +kernel
theorem d_Co_isSo_15 : decode mi_Co_isSo.2.1 15 = .ok (.iconst 0, 1) := by decide +kernel
theorem d_Co_isSo_16 : decode mi_Co_isSo.2.1 16 = .ok (.istore 4, 2) := by decide +kernel
theorem d_Co_isSo_18 : decode mi_Co_isSo.2.1 18 = .ok (.iload 4, 2) := by decide +kernel
theorem d_Co_isSo_20 : decode mi_Co_isSo.2.1 20 = .ok (.iload_n 1, 1) := by decide +kernel
theorem d_Co_isSo_21 : decode mi_Co_isSo.2.1 21 = .ok (.if_icmp .gt 251, 3) := by decide +kernel
theorem d_Co_isSo_24 : decode mi_Co_isSo.2.1 24 = .ok (.aload_n 0, 1) := by decide +kernel
theorem d_Co_isSo_25 : decode mi_Co_isSo.2.1 25 = .ok (.getfield 15, 3) := by decide +kernel
theorem d_Co_isSo_28 : decode mi_Co_isSo.2.1 28 = .ok (.iload 4, 2) := by decide +kernel
theorem d_Co_isSo_30 : decode mi_Co_isSo.2.1 30 = .ok (.iaload, 1) := by decide +kernel
theorem d_Co_isSo_31 : decode mi_Co_isSo.2.1 31 = .ok (.tableswitch 227 3 8 #[37, 227, 66, 104, 141, 184], 37) := by decide +kernel
theorem d_Co_isSo_68 : decode mi_Co_isSo.2.1 68 = .ok (.aload_n 0, 1) := by decide +kernel
theorem d_Co_isSo_69 : decode mi_Co_isSo.2.1 69 = .ok (.getfield 30, 3) := by decide +kernel
theorem d_Co_isSo_72 : decode mi_Co_isSo.2.1 72 = .ok (.iload 4, 2) := by decide +kernel
theorem d_Co_isSo_74 : decode mi_Co_isSo.2.1 74 = .ok (.aload_n 0, 1) := by decide +kernel
theorem d_Co_isSo_75 : decode mi_Co_isSo.2.1 75 = .ok (.aload_n 0, 1) := by decide +kernel
theorem d_Co_isSo_76 : decode mi_Co_isSo.2.1 76 = .ok (.getfield 21, 3) := by decide +kernel
theorem d_Co_isSo_79 : decode mi_Co_isSo.2.1 79 = .ok (.iload 4, 2) := by decide +kernel
theorem d_Co_isSo_81 : decode mi_Co_isSo.2.1 81 = .ok (.iaload, 1) := by decide +kernel
theorem d_Co_isSo_82 : decode mi_Co_isSo.2.1 82 = .ok (.invokevirtual 38, 3) := by decide +kernel
theorem d_Co_isSo_85 : decode mi_Co_isSo.2.1 85 = .ok (.ifCond .ne 7, 3) := by decide +kernel
theorem d_Co_isSo_88 : decode mi_Co_isSo.2.1 88 = .ok (.iconst 1, 1) := by decide +kernel
theorem d_Co_isSo_89 : decode mi_Co_isSo.2.1 89 = .ok (.goto 4, 3) := by decide +kernel
theorem d_Co_isSo_92 : decode mi_Co_isSo.2.1 92 = .ok (.iconst 0, 1) := by decide +kernel
theorem d_Co_isSo_93 : decode mi_Co_isSo.2.1 93 = .ok (.bastore, 1) := by decide +kernel
theorem d_Co_isSo_94 : decode mi_Co_isSo.2.1 94 = .ok (.goto 172, 3) := by decide +kernel
theorem d_Co_isSo_97 : decode mi_Co_isSo.2.1 97 = .ok (.aload_n 0, 1) := by decide +kernel
theorem d_Co_isSo_98 : decode mi_Co_isSo.2.1 98 = .ok (.getfield 30, 3) := by decide +kernel
theorem d_Co_isSo_101 : decode mi_Co_isSo.2.1 101 = .ok (.iload 4, 2) := by decide +kernel
theorem d_Co_isSo_103 : decode mi_Co_isSo.2.1 103 = .ok (.iload_n 3, 1) := by decide +kernel
theorem d_Co_isSo_104 : decode mi_Co_isSo.2.1 104 = .ok (.aload_n 0, 1) := by decide +kernel
theorem d_Co_isSo_105 : decode mi_Co_isSo.2.1 105 = .ok (.getfield 21, 3) := by decide +kernel
theorem d_Co_isSo_108 : decode mi_Co_isSo.2.1 108 = .ok (.iload 4, 2) := by decide +kernel
theorem d_Co_isSo_110 : decode mi_Co_isSo.2.1 110 = .ok (.iaload, 1) := by decide +kernel
theorem d_Co_isSo_111 : decode mi_Co_isSo.2.1 111 = .ok (.invokestatic 42, 3) := by decide +kernel
theorem d_Co_isSo_114 : decode mi_Co_isSo.2.1 114 = .ok (.aload_n 0, 1) := by decide +kernel
theorem d_Co_isSo_115 : decode mi_Co_isSo.2.1 115 = .ok (.getfield 27, 3) := by decide +kernel
theorem d_Co_isSo_118 : decode mi_Co_isSo.2.1 118 = .ok (.iload 4, 2) := by decide +kernel
theorem d_Co_isSo_120 : decode mi_Co_isSo.2.1 120 = .ok (.iaload, 1) := by decide +kernel
theorem d_Co_isSo_121 : decode mi_Co_isSo.2.1 121 = .ok (.aload_n 0, 1) := by decide +kernel
theorem d_Co_isSo_122 : decode mi_Co_isSo.2.1 122 = .ok (.getfield 24, 3) := by decide +kernel
theorem d_Co_isSo_125 : decode mi_Co_isSo.2.1 125 = .ok (.iload 4, 2) := by decide +kernel
theorem d_Co_isSo_127 : decode mi_Co_isSo.2.1 127 = .ok (.iaload, 1) := by decide +kernel
theorem d_Co_isSo_128 : decode mi_Co_isSo.2.1 128 = .ok (.invokestatic 46, 3) := by decide +kernel
theorem d_Co_isSo_131 : decode mi_Co_isSo.2.1 131 = .ok (.bastore, 1) := by decide +kernel
theorem d_Co_isSo_132 : decode mi_Co_isSo.2.1 132 = .ok (.goto 134, 3) := by decide +kernel
theorem d_Co_isSo_135 : decode mi_Co_isSo.2.1 135 = .ok (.aload_n 0, 1) := by decide +kernel
theorem d_Co_isSo_136 : decode mi_Co_isSo.2.1 136 = .ok (.getfield 30, 3) := by decide +kernel
theorem d_Co_isSo_139 : decode mi_Co_isSo.2.1 139 = .ok (.iload 4, 2) := by decide +kernel
theorem d_Co_isSo_141 : decode mi_Co_isSo.2.1 141 = .ok (.iload_n 2, 1) := by decide +kernel
theorem d_Co_isSo_142 : decode mi_Co_isSo.2.1 142 = .ok (.aload_n 0, 1) := by decide +kernel
theorem d_Co_isSo_143 : decode mi_Co_isSo.2.1 143 = .ok (.getfield 21, 3) := by decide +kernel
theorem d_Co_isSo_146 : decode mi_Co_isSo.2.1 146 = .ok (.iload 4, 2) := by decide +kernel
theorem d_Co_isSo_148 : decode mi_Co_isSo.2.1 148 = .ok (.iaload, 1) := by decide +kernel
theorem d_Co_isSo_149 : decode mi_Co_isSo.2.1 149 = .ok (.if_icmp .lt 18, 3) := by decide +kernel
theorem d_Co_isSo_152 : decode mi_Co_isSo.2.1 152 = .ok (.iload_n 2, 1) := by decide +kernel
theorem d_Co_isSo_153 : decode mi_Co_isSo.2.1 153 = .ok (.aload_n 0, 1) := by decide +kernel
theorem d_Co_isSo_154 : decode mi_Co_isSo.2.1 154 = .ok (.getfield 24, 3) := by decide +kernel
theorem d_Co_isSo_157 : decode mi_Co_isSo.2.1 157 = .ok (.iload 4, 2) := by decide +kernel
theorem d_Co_isSo_159 : decode mi_Co_isSo.2.1 159 = .ok (.iaload, 1) := by decide +kernel
theorem d_Co_isSo_160 : decode mi_Co_isSo.2.1 160 = .ok (.if_icmp .gt 7, 3) := by decide +kernel
theorem d_Co_isSo_163 : decode mi_Co_isSo.2.1 163 = .ok (.iconst 1, 1) := by decide +kernel
theorem d_Co_isSo_164 : decode mi_Co_isSo.2.1 164 = .ok (.goto 4, 3) := by decide +kernel
theorem d_Co_isSo_167 : decode mi_Co_isSo.2.1 167 = .ok (.iconst 0, 1) := by decide +kernel
theorem d_Co_isSo_168 : decode mi_Co_isSo.2.1 168 = .ok (.bastore, 1) := by decide +kernel
theorem d_Co_isSo_169 : decode mi_Co_isSo.2.1 169 = .ok (.goto 97, 3) := by decide +kernel
theorem d_Co_isSo_172 : decode mi_Co_isSo.2.1 172 = .ok (.aload_n 0, 1) := by decide +kernel
theorem d_Co_isSo_173 : decode mi_Co_isSo.2.1 173 = .ok (.getfield 30, 3) := by decide +kernel
theorem d_Co_isSo_176 : decode mi_Co_isSo.2.1 176 = .ok (.iload 4, 2) := by decide +kernel
theorem d_Co_isSo_178 : decode mi_Co_isSo.2.1 178 = .ok (.aload_n 0, 1) := by decide +kernel
theorem d_Co_isSo_179 : decode mi_Co_isSo.2.1 179 = .ok (.aload_n 0, 1) := by decide +kernel
theorem d_Co_isSo_180 : decode mi_Co_isSo.2.1 180 = .ok (.getfield 21, 3) := by decide +kernel
theorem d_Co_isSo_183 : decode mi_Co_isSo.2.1 183 = .ok (.iload 4, 2) := by decide +kernel
theorem d_Co_isSo_185 : decode mi_Co_isSo.2.1 185 = .ok (.iaload, 1) := by decide +kernel
theorem d_Co_isSo_186 : decode mi_Co_isSo.2.1 186 = .ok (.invokevirtual 38, 3) := by decide +kernel
theorem d_Co_isSo_189 : decode mi_Co_isSo.2.1 189 = .ok (.ifCond .eq 21, 3) := by decide +kernel
theorem d_Co_isSo_192 : decode mi_Co_isSo.2.1 192 = .ok (.aload_n 0, 1) := by decide +kernel
theorem d_Co_isSo_193 : decode mi_Co_isSo.2.1 193 = .ok (.aload_n 0, 1) := by decide +kernel
theorem d_Co_isSo_194 : decode mi_Co_isSo.2.1 194 = .ok (.getfield 24, 3) := by decide +kernel
theorem d_Co_isSo_197 : decode mi_Co_isSo.2.1 197 = .ok (.iload 4, 2) := by decide +kernel
theorem d_Co_isSo_199 : decode mi_Co_isSo.2.1 199 = .ok (.iaload, 1) := by decide +kernel
theorem d_Co_isSo_200 : decode mi_Co_isSo.2.1 200 = .ok (.invokevirtual 38, 3) := by decide +kernel
theorem d_Co_isSo_203 : decode mi_Co_isSo.2.1 203 = .ok (.ifCond .eq 7, 3) := by decide +kernel
theorem d_Co_isSo_206 : decode mi_Co_isSo.2.1 206 = .ok (.iconst 1, 1) := by decide +kernel
theorem d_Co_isSo_207 : decode mi_Co_isSo.2.1 207 = .ok (.goto 4, 3) := by decide +kernel
theorem d_Co_isSo_210 : decode mi_Co_isSo.2.1 210 = .ok (.iconst 0, 1) := by decide +kernel
theorem d_Co_isSo_211 : decode mi_Co_isSo.2.1 211 = .ok (.bastore, 1) := by decide +kernel
theorem d_Co_isSo_212 : decode mi_Co_isSo.2.1 212 = .ok (.goto 54, 3) := by decide +kernel
theorem d_Co_isSo_215 : decode mi_Co_isSo.2.1 215 = .ok (.aload_n 0, 1) := by decide +kernel
theorem d_Co_isSo_216 : decode mi_Co_isSo.2.1 216 = .ok (.getfield 30, 3) := by decide +kernel
theorem d_Co_isSo_219 : decode mi_Co_isSo.2.1 219 = .ok (.iload 4, 2) := by decide +kernel
theorem d_Co_isSo_221 : decode mi_Co_isSo.2.1 221 = .ok (.aload_n 0, 1) := by decide +kernel
theorem d_Co_isSo_222 : decode mi_Co_isSo.2.1 222 = .ok (.aload_n 0, 1) := by decide +kernel
theorem d_Co_isSo_223 : decode mi_Co_isSo.2.1 223 = .ok (.getfield 21, 3) := by decide +kernel
theorem d_Co_isSo_226 : decode mi_Co_isSo.2.1 226 = .ok (.iload 4, 2) := by decide +kernel
theorem d_Co_isSo_228 : decode mi_Co_isSo.2.1 228 = .ok (.iaload, 1) := by decide +kernel
theorem d_Co_isSo_229 : decode mi_Co_isSo.2.1 229 = .ok (.invokevirtual 38, 3) := by decide +kernel
theorem d_Co_isSo_232 : decode mi_Co_isSo.2.1 232 = .ok (.ifCond .ne 17, 3) := by decide +kernel
theorem d_Co_isSo_235 : decode mi_Co_isSo.2.1 235 = .ok (.aload_n 0, 1) := by decide +kernel
theorem d_Co_isSo_236 : decode mi_Co_isSo.2.1 236 = .ok (.aload_n 0, 1) := by decide +kernel
theorem d_Co_isSo_237 : decode mi_Co_isSo.2.1 237 = .ok (.getfield 24, 3) := by decide +kernel
theorem d_Co_isSo_240 : decode mi_Co_isSo.2.1 240 = .ok (.iload 4, 2) := by decide +kernel
theorem d_Co_isSo_242 : decode mi_Co_isSo.2.1 242 = .ok (.iaload, 1) := by decide +kernel
theorem d_Co_isSo_243 : decode mi_Co_isSo.2.1 243 = .ok (.invokevirtual 38, 3) := by decide +kernel
theorem d_Co_isSo_246 : decode mi_Co_isSo.2.1 246 = .ok (.ifCond .eq 7, 3) := by decide +kernel
theorem d_Co_isSo_249 : decode mi_Co_isSo.2.1 249 = .ok (.iconst 1, 1) := by decide +kernel
theorem d_Co_isSo_250 : decode mi_Co_isSo.2.1 250 = .ok (.goto 4, 3) := by decide +kernel
theorem d_Co_isSo_253 : decode mi_Co_isSo.2.1 253 = .ok (.iconst 0, 1) := by decide +kernel
theorem d_Co_isSo_254 : decode mi_Co_isSo.2.1 254 = .ok (.bastore, 1) := by decide +kernel
theorem d_Co_isSo_255 : decode mi_Co_isSo.2.1 255 = .ok (.goto 11, 3) := by decide +kernel
theorem d_Co_isSo_258 : decode mi_Co_isSo.2.1 258 = .ok (.aload_n 0, 1) := by decide +kernel
theorem d_Co_isSo_259 : decode mi_Co_isSo.2.1 259 = .ok (.getfield 30, 3) := by decide +kernel
theorem d_Co_isSo_262 : decode mi_Co_isSo.2.1 262 = .ok (.iload 4, 2) := by decide +kernel
theorem d_Co_isSo_264 : decode mi_Co_isSo.2.1 264 = .ok (.iconst 1, 1) := by decide +kernel
theorem d_Co_isSo_265 : decode mi_Co_isSo.2.1 265 = .ok (.bastore, 1) := by decide +kernel
theorem d_Co_isSo_266 : decode mi_Co_isSo.2.1 266 = .ok (.iinc 4 1, 3) := by decide +kernel
theorem d_Co_isSo_269 : decode mi_Co_isSo.2.1 269 = .ok (.goto (-251), 3) := by decide +kernel
theorem d_Co_isSo_272 : decode mi_Co_isSo.2.1 272 = .ok (.aload_n 0, 1) := by decide +kernel
theorem d_Co_isSo_273 : decode mi_Co_isSo.2.1 273 = .ok (.getfield 30, 3) := by decide +kernel
theorem d_Co_isSo_276 : decode mi_Co_isSo.2.1 276 = .ok (.iload_n 1, 1) := by decide +kernel
theorem d_Co_isSo_277 : decode mi_Co_isSo.2.1 277 = .ok (.baload, 1) := by decide +kernel
theorem d_Co_isSo_278 : decode mi_Co_isSo.2.1 278 = .ok (.ireturn, 1) := by decide +kernel
theorem d_Co_truthAt_0 : decode mi_Co_truthAt.2.1 0 = .ok (.iload_n 1, 1) := by decide +kernel
theorem d_Co_truthAt_1 : decode mi_Co_truthAt.2.1 1 = .ok (.ifCond .lt 25, 3) := by decide +kernel
theorem d_Co_truthAt_4 : decode mi_Co_truthAt.2.1 4 = .ok (.iload_n 1, 1) := by decide +kernel
theorem d_Co_truthAt_5 : decode mi_Co_truthAt.2.1 5 = .ok (.aload_n 0, 1) := by decide +kernel
theorem d_Co_truthAt_6 : decode mi_Co_truthAt.2.1 6 = .ok (.getfield 30, 3) := by decide +kernel
theorem d_Co_truthAt_9 : decode mi_Co_truthAt.2.1 9 = .ok (.arraylength, 1) := by decide +kernel
theorem d_Co_truthAt_10 : decode mi_Co_truthAt.2.1 10 = .ok (.if_icmp .ge 16, 3) := by decide +kernel
theorem d_Co_truthAt_13 : decode mi_Co_truthAt.2.1 13 = .ok (.aload_n 0, 1) := by decide +kernel
theorem d_Co_truthAt_14 : decode mi_Co_truthAt.2.1 14 = .ok (.getfield 30, 3) := by decide +kernel
theorem d_Co_truthAt_17 : decode mi_Co_truthAt.2.1 17 = .ok (.iload_n 1, 1) := by decide +kernel
theorem d_Co_truthAt_18 : decode mi_Co_truthAt.2.1 18 = .ok (.baload, 1) := by decide +kernel
theorem d_Co_truthAt_19 : decode mi_Co_truthAt.2.1 19 = .ok (.ifCond .eq 7, 3) := by decide +kernel
theorem d_Co_truthAt_22 : decode mi_Co_truthAt.2.1 22 = .ok (.iconst 1, 1) := by decide +kernel
theorem d_Co_truthAt_23 : decode mi_Co_truthAt.2.1 23 = .ok (.goto 4, 3) := by decide +kernel
theorem d_Co_truthAt_26 : decode mi_Co_truthAt.2.1 26 = .ok (.iconst 0, 1) := by decide +kernel
theorem d_Co_truthAt_27 : decode mi_Co_truthAt.2.1 27 = .ok (.ireturn, 1) := by decide +kernel
theorem d_Co_digitOf_0 : decode mi_Co_digitOf.2.1 0 = .ok (.iload_n 1, 1) := by decide +kernel
theorem d_Co_digitOf_1 : decode mi_Co_digitOf.2.1 1 = .ok (.tableswitch 49 0 2 #[27, 33, 41], 27) := by decide +kernel
theorem d_Co_digitOf_28 : decode mi_Co_digitOf.2.1 28 = .ok (.iload_n 0, 1) := by decide +kernel
theorem d_Co_digitOf_29 : decode mi_Co_digitOf.2.1 29 = .ok (.sipush 1000, 3) := by decide +kernel
theorem d_Co_digitOf_32 : decode mi_Co_digitOf.2.1 32 = .ok (.idiv, 1) := by decide +kernel
theorem d_Co_digitOf_33 : decode mi_Co_digitOf.2.1 33 = .ok (.ireturn, 1) := by decide +kernel
theorem d_Co_digitOf_34 : decode mi_Co_digitOf.2.1 34 = .ok (.iload_n 0, 1) := by decide +kernel
theorem d_Co_digitOf_35 : decode mi_Co_digitOf.2.1 35 = .ok (.bipush 100, 2) := by decide +kernel
theorem d_Co_digitOf_37 : decode mi_Co_digitOf.2.1 37 = .ok (.idiv, 1) := by decide +kernel
theorem d_Co_digitOf_38 : decode mi_Co_digitOf.2.1 38 = .ok (.bipush 10, 2) := by decide +kernel
theorem d_Co_digitOf_40 : decode mi_Co_digitOf.2.1 40 = .ok (.irem, 1) := by decide +kernel
theorem d_Co_digitOf_41 : decode mi_Co_digitOf.2.1 41 = .ok (.ireturn, 1) := by decide +kernel
theorem d_Co_digitOf_42 : decode mi_Co_digitOf.2.1 42 = .ok (.iload_n 0, 1) := by decide +kernel
theorem d_Co_digitOf_43 : decode mi_Co_digitOf.2.1 43 = .ok (.bipush 10, 2) := by decide +kernel
theorem d_Co_digitOf_45 : decode mi_Co_digitOf.2.1 45 = .ok (.idiv, 1) := by decide +kernel
theorem d_Co_digitOf_46 : decode mi_Co_digitOf.2.1 46 = .ok (.bipush 10, 2) := by decide +kernel
theorem d_Co_digitOf_48 : decode mi_Co_digitOf.2.1 48 = .ok (.irem, 1) := by decide +kernel
theorem d_Co_digitOf_49 : decode mi_Co_digitOf.2.1 49 = .ok (.ireturn, 1) := by decide +kernel
theorem d_Co_digitOf_50 : decode mi_Co_digitOf.2.1 50 = .ok (.iload_n 0, 1) := by decide +kernel
theorem d_Co_digitOf_51 : decode mi_Co_digitOf.2.1 51 = .ok (.bipush 10, 2) := by decide +kernel
theorem d_Co_digitOf_53 : decode mi_Co_digitOf.2.1 53 = .ok (.irem, 1) := by decide +kernel
theorem d_Co_digitOf_54 : decode mi_Co_digitOf.2.1 54 = .ok (.ireturn, 1) := by decide +kernel
theorem d_Co_isTestSo_0 : decode mi_Co_isTestSo.2.1 0 = .ok (.iload_n 1, 1) := by decide +kernel
theorem d_Co_isTestSo_1 : decode mi_Co_isTestSo.2.1 1 = .ok (.bipush 60, 2) := by decide +kernel
theorem d_Co_isTestSo_3 : decode mi_Co_isTestSo.2.1 3 = .ok (.if_icmp .ne 14, 3) := by decide +kernel
theorem d_Co_isTestSo_6 : decode mi_Co_isTestSo.2.1 6 = .ok (.iload_n 0, 1) := by decide +kernel
theorem d_Co_isTestSo_7 : decode mi_Co_isTestSo.2.1 7 = .ok (.iload_n 2, 1) := by decide +kernel
theorem d_Co_isTestSo_8 : decode mi_Co_isTestSo.2.1 8 = .ok (.if_icmp .ge 7, 3) := by decide +kernel
theorem d_Co_isTestSo_11 : decode mi_Co_isTestSo.2.1 11 = .ok (.iconst 1, 1) := by decide +kernel
theorem d_Co_isTestSo_12 : decode mi_Co_isTestSo.2.1 12 = .ok (.goto 4, 3) := by decide +kernel
theorem d_Co_isTestSo_15 : decode mi_Co_isTestSo.2.1 15 = .ok (.iconst 0, 1) := by decide +kernel
theorem d_Co_isTestSo_16 : decode mi_Co_isTestSo.2.1 16 = .ok (.ireturn, 1) := by decide +kernel
theorem d_Co_isTestSo_17 : decode mi_Co_isTestSo.2.1 17 = .ok (.iload_n 1, 1) := by decide +kernel
theorem d_Co_isTestSo_18 : decode mi_Co_isTestSo.2.1 18 = .ok (.bipush 61, 2) := by decide +kernel
theorem d_Co_isTestSo_20 : decode mi_Co_isTestSo.2.1 20 = .ok (.if_icmp .ne 16, 3) := by decide +kernel
theorem d_Co_isTestSo_23 : decode mi_Co_isTestSo.2.1 23 = .ok (.iload_n 0, 1) := by decide +kernel
theorem d_Co_isTestSo_24 : decode mi_Co_isTestSo.2.1 24 = .ok (.iload_n 2, 1) := by decide +kernel
theorem d_Co_isTestSo_25 : decode mi_Co_isTestSo.2.1 25 = .ok (.if_icmp .ne 7, 3) := by decide +kernel
theorem d_Co_isTestSo_28 : decode mi_Co_isTestSo.2.1 28 = .ok (.iconst 1, 1) := by decide +kernel
theorem d_Co_isTestSo_29 : decode mi_Co_isTestSo.2.1 29 = .ok (.goto 17, 3) := by decide +kernel
theorem d_Co_isTestSo_32 : decode mi_Co_isTestSo.2.1 32 = .ok (.iconst 0, 1) := by decide +kernel
theorem d_Co_isTestSo_33 : decode mi_Co_isTestSo.2.1 33 = .ok (.goto 13, 3) := by decide +kernel
theorem d_Co_isTestSo_36 : decode mi_Co_isTestSo.2.1 36 = .ok (.iload_n 0, 1) := by decide +kernel
theorem d_Co_isTestSo_37 : decode mi_Co_isTestSo.2.1 37 = .ok (.iload_n 2, 1) := by decide +kernel
theorem d_Co_isTestSo_38 : decode mi_Co_isTestSo.2.1 38 = .ok (.if_icmp .le 7, 3) := by decide +kernel
theorem d_Co_isTestSo_41 : decode mi_Co_isTestSo.2.1 41 = .ok (.iconst 1, 1) := by decide +kernel
theorem d_Co_isTestSo_42 : decode mi_Co_isTestSo.2.1 42 = .ok (.goto 4, 3) := by decide +kernel
theorem d_Co_isTestSo_45 : decode mi_Co_isTestSo.2.1 45 = .ok (.iconst 0, 1) := by decide +kernel
theorem d_Co_isTestSo_46 : decode mi_Co_isTestSo.2.1 46 = .ok (.ireturn, 1) := by decide +kernel
theorem d_JI_bitCount_0 : decode mi_JI_bitCount.2.1 0 = .ok (.iload_n 0, 1) := by decide +kernel
theorem d_JI_bitCount_1 : decode mi_JI_bitCount.2.1 1 = .ok (.iload_n 0, 1) := by decide +kernel
theorem d_JI_bitCount_2 : decode mi_JI_bitCount.2.1 2 = .ok (.iconst 1, 1) := by decide +kernel
theorem d_JI_bitCount_3 : decode mi_JI_bitCount.2.1 3 = .ok (.iushr, 1) := by decide +kernel
theorem d_JI_bitCount_4 : decode mi_JI_bitCount.2.1 4 = .ok (.ldc_w 265, 3) := by decide +kernel
theorem d_JI_bitCount_7 : decode mi_JI_bitCount.2.1 7 = .ok (.iand, 1) := by decide +kernel
theorem d_JI_bitCount_8 : decode mi_JI_bitCount.2.1 8 = .ok (.isub, 1) := by decide +kernel
theorem d_JI_bitCount_9 : decode mi_JI_bitCount.2.1 9 = .ok (.istore_n 0, 1) := by decide +kernel
theorem d_JI_bitCount_10 : decode mi_JI_bitCount.2.1 10 = .ok (.iload_n 0, 1) := by decide +kernel
theorem d_JI_bitCount_11 : decode mi_JI_bitCount.2.1 11 = .ok (.ldc_w 266, 3) := by decide +kernel
theorem d_JI_bitCount_14 : decode mi_JI_bitCount.2.1 14 = .ok (.iand, 1) := by decide +kernel
theorem d_JI_bitCount_15 : decode mi_JI_bitCount.2.1 15 = .ok (.iload_n 0, 1) := by decide +kernel
theorem d_JI_bitCount_16 : decode mi_JI_bitCount.2.1 16 = .ok (.iconst 2, 1) := by decide +kernel
theorem d_JI_bitCount_17 : decode mi_JI_bitCount.2.1 17 = .ok (.iushr, 1) := by decide +kernel
theorem d_JI_bitCount_18 : decode mi_JI_bitCount.2.1 18 = .ok (.ldc_w 266, 3) := by decide +kernel
theorem d_JI_bitCount_21 : decode mi_JI_bitCount.2.1 21 = .ok (.iand, 1) := by decide +kernel
theorem d_JI_bitCount_22 : decode mi_JI_bitCount.2.1 22 = .ok (.iadd, 1) := by decide +kernel
theorem d_JI_bitCount_23 : decode mi_JI_bitCount.2.1 23 = .ok (.istore_n 0, 1) := by decide +kernel
theorem d_JI_bitCount_24 : decode mi_JI_bitCount.2.1 24 = .ok (.iload_n 0, 1) := by decide +kernel
theorem d_JI_bitCount_25 : decode mi_JI_bitCount.2.1 25 = .ok (.iload_n 0, 1) := by decide +kernel
theorem d_JI_bitCount_26 : decode mi_JI_bitCount.2.1 26 = .ok (.iconst 4, 1) := by decide +kernel
theorem d_JI_bitCount_27 : decode mi_JI_bitCount.2.1 27 = .ok (.iushr, 1) := by decide +kernel
theorem d_JI_bitCount_28 : decode mi_JI_bitCount.2.1 28 = .ok (.iadd, 1) := by decide +kernel
theorem d_JI_bitCount_29 : decode mi_JI_bitCount.2.1 29 = .ok (.ldc_w 267, 3) := by decide +kernel
theorem d_JI_bitCount_32 : decode mi_JI_bitCount.2.1 32 = .ok (.iand, 1) := by decide +kernel
theorem d_JI_bitCount_33 : decode mi_JI_bitCount.2.1 33 = .ok (.istore_n 0, 1) := by decide +kernel
theorem d_JI_bitCount_34 : decode mi_JI_bitCount.2.1 34 = .ok (.iload_n 0, 1) := by decide +kernel
theorem d_JI_bitCount_35 : decode mi_JI_bitCount.2.1 35 = .ok (.iload_n 0, 1) := by decide +kernel
theorem d_JI_bitCount_36 : decode mi_JI_bitCount.2.1 36 = .ok (.bipush 8, 2) := by decide +kernel
theorem d_JI_bitCount_38 : decode mi_JI_bitCount.2.1 38 = .ok (.iushr, 1) := by decide +kernel
theorem d_JI_bitCount_39 : decode mi_JI_bitCount.2.1 39 = .ok (.iadd, 1) := by decide +kernel
theorem d_JI_bitCount_40 : decode mi_JI_bitCount.2.1 40 = .ok (.istore_n 0, 1) := by decide +kernel
theorem d_JI_bitCount_41 : decode mi_JI_bitCount.2.1 41 = .ok (.iload_n 0, 1) := by decide +kernel
theorem d_JI_bitCount_42 : decode mi_JI_bitCount.2.1 42 = .ok (.iload_n 0, 1) := by decide +kernel
theorem d_JI_bitCount_43 : decode mi_JI_bitCount.2.1 43 = .ok (.bipush 16, 2) := by decide +kernel
theorem d_JI_bitCount_45 : decode mi_JI_bitCount.2.1 45 = .ok (.iushr, 1) := by decide +kernel
theorem d_JI_bitCount_46 : decode mi_JI_bitCount.2.1 46 = .ok (.iadd, 1) := by decide +kernel
theorem d_JI_bitCount_47 : decode mi_JI_bitCount.2.1 47 = .ok (.istore_n 0, 1) := by decide +kernel
theorem d_JI_bitCount_48 : decode mi_JI_bitCount.2.1 48 = .ok (.iload_n 0, 1) := by decide +kernel
theorem d_JI_bitCount_49 : decode mi_JI_bitCount.2.1 49 = .ok (.bipush 63, 2) := by decide +kernel
theorem d_JI_bitCount_51 : decode mi_JI_bitCount.2.1 51 = .ok (.iand, 1) := by decide +kernel
theorem d_JI_bitCount_52 : decode mi_JI_bitCount.2.1 52 = .ok (.ireturn, 1) := by decide +kernel
theorem d_Pe_find_0 : decode mi_Pe_find.2.1 0 = .ok (.iconst 0, 1) := by decide +kernel
theorem d_Pe_find_1 : decode mi_Pe_find.2.1 1 = .ok (.istore_n 3, 1) := by decide +kernel
theorem d_Pe_find_2 : decode mi_Pe_find.2.1 2 = .ok (.iload_n 3, 1) := by decide +kernel
theorem d_Pe_find_3 : decode mi_Pe_find.2.1 3 = .ok (.aload_n 0, 1) := by decide +kernel
theorem d_Pe_find_4 : decode mi_Pe_find.2.1 4 = .ok (.getfield 18, 3) := by decide +kernel
theorem d_Pe_find_7 : decode mi_Pe_find.2.1 7 = .ok (.if_icmp .ge 23, 3) := by decide +kernel
theorem d_Pe_find_10 : decode mi_Pe_find.2.1 10 = .ok (.aload_n 0, 1) := by decide +kernel
theorem d_Pe_find_11 : decode mi_Pe_find.2.1 11 = .ok (.getfield 9, 3) := by decide +kernel
theorem d_Pe_find_14 : decode mi_Pe_find.2.1 14 = .ok (.iload_n 3, 1) := by decide +kernel
theorem d_Pe_find_15 : decode mi_Pe_find.2.1 15 = .ok (.iaload, 1) := by decide +kernel
theorem d_Pe_find_16 : decode mi_Pe_find.2.1 16 = .ok (.i2l, 1) := by decide +kernel
theorem d_Pe_find_17 : decode mi_Pe_find.2.1 17 = .ok (.lload_n 1, 1) := by decide +kernel
theorem d_Pe_find_18 : decode mi_Pe_find.2.1 18 = .ok (.lcmp, 1) := by decide +kernel
theorem d_Pe_find_19 : decode mi_Pe_find.2.1 19 = .ok (.ifCond .ne 5, 3) := by decide +kernel
theorem d_Pe_find_22 : decode mi_Pe_find.2.1 22 = .ok (.iload_n 3, 1) := by decide +kernel
theorem d_Pe_find_23 : decode mi_Pe_find.2.1 23 = .ok (.ireturn, 1) := by decide +kernel
theorem d_Pe_find_24 : decode mi_Pe_find.2.1 24 = .ok (.iinc 3 1, 3) := by decide +kernel
theorem d_Pe_find_27 : decode mi_Pe_find.2.1 27 = .ok (.goto (-25), 3) := by decide +kernel
theorem d_Pe_find_30 : decode mi_Pe_find.2.1 30 = .ok (.iconst (-1), 1) := by decide +kernel
theorem d_Pe_find_31 : decode mi_Pe_find.2.1 31 = .ok (.ireturn, 1) := by decide +kernel
theorem d_Pe_add_0 : decode mi_Pe_add.2.1 0 = .ok (.aload_n 0, 1) := by decide +kernel
theorem d_Pe_add_1 : decode mi_Pe_add.2.1 1 = .ok (.getfield 18, 3) := by decide +kernel
theorem d_Pe_add_4 : decode mi_Pe_add.2.1 4 = .ok (.bipush 24, 2) := by decide +kernel
theorem d_Pe_add_6 : decode mi_Pe_add.2.1 6 = .ok (.if_icmp .lt 4, 3) := by decide +kernel
theorem d_Pe_add_9 : decode mi_Pe_add.2.1 9 = .ok (.return_, 1) := by decide +kernel
theorem d_Pe_add_10 : decode mi_Pe_add.2.1 10 = .ok (.aload_n 0, 1) := by decide +kernel
theorem d_Pe_add_11 : decode mi_Pe_add.2.1 11 = .ok (.getfield 9, 3) := by decide +kernel
theorem d_Pe_add_14 : decode mi_Pe_add.2.1 14 = .ok (.aload_n 0, 1) := by decide +kernel
theorem d_Pe_add_15 : decode mi_Pe_add.2.1 15 = .ok (.getfield 18, 3) := by decide +kernel
theorem d_Pe_add_18 : decode mi_Pe_add.2.1 18 = .ok (.iload_n 1, 1) := by decide +kernel
theorem d_Pe_add_19 : decode mi_Pe_add.2.1 19 = .ok (.iastore, 1) := by decide +kernel
theorem d_Pe_add_20 : decode mi_Pe_add.2.1 20 = .ok (.aload_n 0, 1) := by decide +kernel
theorem d_Pe_add_21 : decode mi_Pe_add.2.1 21 = .ok (.getfield 15, 3) := by decide +kernel
theorem d_Pe_add_24 : decode mi_Pe_add.2.1 24 = .ok (.aload_n 0, 1) := by decide +kernel
theorem d_Pe_add_25 : decode mi_Pe_add.2.1 25 = .ok (.getfield 18, 3) := by decide +kernel
theorem d_Pe_add_28 : decode mi_Pe_add.2.1 28 = .ok (.iload_n 2, 1) := by decide +kernel
theorem d_Pe_add_29 : decode mi_Pe_add.2.1 29 = .ok (.iastore, 1) := by decide +kernel
theorem d_Pe_add_30 : decode mi_Pe_add.2.1 30 = .ok (.aload_n 0, 1) := by decide +kernel
theorem d_Pe_add_31 : decode mi_Pe_add.2.1 31 = .ok (.dup, 1) := by decide +kernel
theorem d_Pe_add_32 : decode mi_Pe_add.2.1 32 = .ok (.getfield 18, 3) := by decide +kernel
theorem d_Pe_add_35 : decode mi_Pe_add.2.1 35 = .ok (.iconst 1, 1) := by decide +kernel
theorem d_Pe_add_36 : decode mi_Pe_add.2.1 36 = .ok (.iadd, 1) := by decide +kernel
theorem d_Pe_add_37 : decode mi_Pe_add.2.1 37 = .ok (.putfield 18, 3) := by decide +kernel
theorem d_Pe_add_40 : decode mi_Pe_add.2.1 40 = .ok (.return_, 1) := by decide +kernel
theorem d_De_removePerson_0 : decode mi_De_removePerson.2.1 0 = .ok (.aload_n 0, 1) := by decide +kernel
theorem d_De_removePerson_1 : decode mi_De_removePerson.2.1 1 = .ok (.getfield 12, 3) := by decide +kernel
theorem d_De_removePerson_4 : decode mi_De_removePerson.2.1 4 = .ok (.iload_n 1, 1) := by decide +kernel
theorem d_De_removePerson_5 : decode mi_De_removePerson.2.1 5 = .ok (.invokevirtual 55, 3) := by decide +kernel
theorem d_De_removePerson_8 : decode mi_De_removePerson.2.1 8 = .ok (.iconst 0, 1) := by decide +kernel
theorem d_De_removePerson_9 : decode mi_De_removePerson.2.1 9 = .ok (.istore_n 2, 1) := by decide +kernel
theorem d_De_removePerson_10 : decode mi_De_removePerson.2.1 10 = .ok (.iload_n 2, 1) := by decide +kernel
theorem d_De_removePerson_11 : decode mi_De_removePerson.2.1 11 = .ok (.aload_n 0, 1) := by decide +kernel
theorem d_De_removePerson_12 : decode mi_De_removePerson.2.1 12 = .ok (.getfield 24, 3) := by decide +kernel
theorem d_De_removePerson_15 : decode mi_De_removePerson.2.1 15 = .ok (.if_icmp .ge 19, 3) := by decide +kernel
theorem d_De_removePerson_18 : decode mi_De_removePerson.2.1 18 = .ok (.aload_n 0, 1) := by decide +kernel
theorem d_De_removePerson_19 : decode mi_De_removePerson.2.1 19 = .ok (.getfield 20, 3) := by decide +kernel
theorem d_De_removePerson_22 : decode mi_De_removePerson.2.1 22 = .ok (.iload_n 2, 1) := by decide +kernel
theorem d_De_removePerson_23 : decode mi_De_removePerson.2.1 23 = .ok (.aaload, 1) := by decide +kernel
theorem d_De_removePerson_24 : decode mi_De_removePerson.2.1 24 = .ok (.iload_n 1, 1) := by decide +kernel
theorem d_De_removePerson_25 : decode mi_De_removePerson.2.1 25 = .ok (.invokevirtual 59, 3) := by decide +kernel
theorem d_De_removePerson_28 : decode mi_De_removePerson.2.1 28 = .ok (.iinc 2 1, 3) := by decide +kernel
theorem d_De_removePerson_31 : decode mi_De_removePerson.2.1 31 = .ok (.goto (-21), 3) := by decide +kernel
theorem d_De_removePerson_34 : decode mi_De_removePerson.2.1 34 = .ok (.return_, 1) := by decide +kernel
theorem d_Pe_remove_0 : decode mi_Pe_remove.2.1 0 = .ok (.iload_n 1, 1) := by decide +kernel
theorem d_Pe_remove_1 : decode mi_Pe_remove.2.1 1 = .ok (.istore_n 2, 1) := by decide +kernel
theorem d_Pe_remove_2 : decode mi_Pe_remove.2.1 2 = .ok (.iload_n 2, 1) := by decide +kernel
theorem d_Pe_remove_3 : decode mi_Pe_remove.2.1 3 = .ok (.iconst 1, 1) := by decide +kernel
theorem d_Pe_remove_4 : decode mi_Pe_remove.2.1 4 = .ok (.iadd, 1) := by decide +kernel
theorem d_Pe_remove_5 : decode mi_Pe_remove.2.1 5 = .ok (.aload_n 0, 1) := by decide +kernel
theorem d_Pe_remove_6 : decode mi_Pe_remove.2.1 6 = .ok (.getfield 18, 3) := by decide +kernel
theorem d_Pe_remove_9 : decode mi_Pe_remove.2.1 9 = .ok (.if_icmp .ge 37, 3) := by decide +kernel
theorem d_Pe_remove_12 : decode mi_Pe_remove.2.1 12 = .ok (.aload_n 0, 1) := by decide +kernel
theorem d_Pe_remove_13 : decode mi_Pe_remove.2.1 13 = .ok (.getfield 9, 3) := by decide +kernel
theorem d_Pe_remove_16 : decode mi_Pe_remove.2.1 16 = .ok (.iload_n 2, 1) := by decide +kernel
theorem d_Pe_remove_17 : decode mi_Pe_remove.2.1 17 = .ok (.aload_n 0, 1) := by decide +kernel
theorem d_Pe_remove_18 : decode mi_Pe_remove.2.1 18 = .ok (.getfield 9, 3) := by decide +kernel
theorem d_Pe_remove_21 : decode mi_Pe_remove.2.1 21 = .ok (.iload_n 2, 1) := by decide +kernel
theorem d_Pe_remove_22 : decode mi_Pe_remove.2.1 22 = .ok (.iconst 1, 1) := by decide +kernel
theorem d_Pe_remove_23 : decode mi_Pe_remove.2.1 23 = .ok (.iadd, 1) := by decide +kernel
theorem d_Pe_remove_24 : decode mi_Pe_remove.2.1 24 = .ok (.iaload, 1) := by decide +kernel
theorem d_Pe_remove_25 : decode mi_Pe_remove.2.1 25 = .ok (.iastore, 1) := by decide +kernel
theorem d_Pe_remove_26 : decode mi_Pe_remove.2.1 26 = .ok (.aload_n 0, 1) := by decide +kernel
theorem d_Pe_remove_27 : decode mi_Pe_remove.2.1 27 = .ok (.getfield 15, 3) := by decide +kernel
theorem d_Pe_remove_30 : decode mi_Pe_remove.2.1 30 = .ok (.iload_n 2, 1) := by decide +kernel
theorem d_Pe_remove_31 : decode mi_Pe_remove.2.1 31 = .ok (.aload_n 0, 1) := by decide +kernel
theorem d_Pe_remove_32 : decode mi_Pe_remove.2.1 32 = .ok (.getfield 15, 3) := by decide +kernel
theorem d_Pe_remove_35 : decode mi_Pe_remove.2.1 35 = .ok (.iload_n 2, 1) := by decide +kernel
theorem d_Pe_remove_36 : decode mi_Pe_remove.2.1 36 = .ok (.iconst 1, 1) := by decide +kernel
theorem d_Pe_remove_37 : decode mi_Pe_remove.2.1 37 = .ok (.iadd, 1) := by decide +kernel
theorem d_Pe_remove_38 : decode mi_Pe_remove.2.1 38 = .ok (.iaload, 1) := by decide +kernel
theorem d_Pe_remove_39 : decode mi_Pe_remove.2.1 39 = .ok (.iastore, 1) := by decide +kernel
theorem d_Pe_remove_40 : decode mi_Pe_remove.2.1 40 = .ok (.iinc 2 1, 3) := by decide +kernel
theorem d_Pe_remove_43 : decode mi_Pe_remove.2.1 43 = .ok (.goto (-41), 3) := by decide +kernel
theorem d_Pe_remove_46 : decode mi_Pe_remove.2.1 46 = .ok (.aload_n 0, 1) := by decide +kernel
theorem d_Pe_remove_47 : decode mi_Pe_remove.2.1 47 = .ok (.dup, 1) := by decide +kernel
theorem d_Pe_remove_48 : decode mi_Pe_remove.2.1 48 = .ok (.getfield 18, 3) := by decide +kernel
theorem d_Pe_remove_51 : decode mi_Pe_remove.2.1 51 = .ok (.iconst 1, 1) := by decide +kernel
theorem d_Pe_remove_52 : decode mi_Pe_remove.2.1 52 = .ok (.isub, 1) := by decide +kernel
theorem d_Pe_remove_53 : decode mi_Pe_remove.2.1 53 = .ok (.putfield 18, 3) := by decide +kernel
theorem d_Pe_remove_56 : decode mi_Pe_remove.2.1 56 = .ok (.return_, 1) := by decide +kernel
theorem d_Fe_removePerson_0 : decode mi_Fe_removePerson.2.1 0 = .ok (.aload_n 0, 1) := by decide +kernel
theorem d_Fe_removePerson_1 : decode mi_Fe_removePerson.2.1 1 = .ok (.getfield 43, 3) := by decide +kernel
theorem d_Fe_removePerson_4 : decode mi_Fe_removePerson.2.1 4 = .ok (.iload_n 1, 1) := by decide +kernel
theorem d_Fe_removePerson_5 : decode mi_Fe_removePerson.2.1 5 = .ok (.invokestatic 92, 3) := by decide +kernel
theorem d_Fe_removePerson_8 : decode mi_Fe_removePerson.2.1 8 = .ok (.aload_n 0, 1) := by decide +kernel
theorem d_Fe_removePerson_9 : decode mi_Fe_removePerson.2.1 9 = .ok (.getfield 46, 3) := by decide +kernel
theorem d_Fe_removePerson_12 : decode mi_Fe_removePerson.2.1 12 = .ok (.iload_n 1, 1) := by decide +kernel
theorem d_Fe_removePerson_13 : decode mi_Fe_removePerson.2.1 13 = .ok (.invokestatic 92, 3) := by decide +kernel
theorem d_Fe_removePerson_16 : decode mi_Fe_removePerson.2.1 16 = .ok (.return_, 1) := by decide +kernel
theorem d_Fe_removeFrom_0 : decode mi_Fe_removeFrom.2.1 0 = .ok (.iconst 0, 1) := by decide +kernel
theorem d_Fe_removeFrom_1 : decode mi_Fe_removeFrom.2.1 1 = .ok (.iload_n 1, 1) := by decide +kernel
theorem d_Fe_removeFrom_2 : decode mi_Fe_removeFrom.2.1 2 = .ok (.invokestatic 99, 3) := by decide +kernel
theorem d_Fe_removeFrom_5 : decode mi_Fe_removeFrom.2.1 5 = .ok (.istore_n 2, 1) := by decide +kernel
theorem d_Fe_removeFrom_6 : decode mi_Fe_removeFrom.2.1 6 = .ok (.iload_n 2, 1) := by decide +kernel
theorem d_Fe_removeFrom_7 : decode mi_Fe_removeFrom.2.1 7 = .ok (.iconst 1, 1) := by decide +kernel
theorem d_Fe_removeFrom_8 : decode mi_Fe_removeFrom.2.1 8 = .ok (.iadd, 1) := by decide +kernel
theorem d_Fe_removeFrom_9 : decode mi_Fe_removeFrom.2.1 9 = .ok (.aload_n 0, 1) := by decide +kernel
theorem d_Fe_removeFrom_10 : decode mi_Fe_removeFrom.2.1 10 = .ok (.arraylength, 1) := by decide +kernel
theorem d_Fe_removeFrom_11 : decode mi_Fe_removeFrom.2.1 11 = .ok (.if_icmp .ge 17, 3) := by decide +kernel
theorem d_Fe_removeFrom_14 : decode mi_Fe_removeFrom.2.1 14 = .ok (.aload_n 0, 1) := by decide +kernel
theorem d_Fe_removeFrom_15 : decode mi_Fe_removeFrom.2.1 15 = .ok (.iload_n 2, 1) := by decide +kernel
theorem d_Fe_removeFrom_16 : decode mi_Fe_removeFrom.2.1 16 = .ok (.aload_n 0, 1) := by decide +kernel
theorem d_Fe_removeFrom_17 : decode mi_Fe_removeFrom.2.1 17 = .ok (.iload_n 2, 1) := by decide +kernel
theorem d_Fe_removeFrom_18 : decode mi_Fe_removeFrom.2.1 18 = .ok (.iconst 1, 1) := by decide +kernel
theorem d_Fe_removeFrom_19 : decode mi_Fe_removeFrom.2.1 19 = .ok (.iadd, 1) := by decide +kernel
theorem d_Fe_removeFrom_20 : decode mi_Fe_removeFrom.2.1 20 = .ok (.iaload, 1) := by decide +kernel
theorem d_Fe_removeFrom_21 : decode mi_Fe_removeFrom.2.1 21 = .ok (.iastore, 1) := by decide +kernel
theorem d_Fe_removeFrom_22 : decode mi_Fe_removeFrom.2.1 22 = .ok (.iinc 2 1, 3) := by decide +kernel
theorem d_Fe_removeFrom_25 : decode mi_Fe_removeFrom.2.1 25 = .ok (.goto (-19), 3) := by decide +kernel
theorem d_Fe_removeFrom_28 : decode mi_Fe_removeFrom.2.1 28 = .ok (.aload_n 0, 1) := by decide +kernel
theorem d_Fe_removeFrom_29 : decode mi_Fe_removeFrom.2.1 29 = .ok (.arraylength, 1) := by decide +kernel
theorem d_Fe_removeFrom_30 : decode mi_Fe_removeFrom.2.1 30 = .ok (.ifCond .le 10, 3) := by decide +kernel
theorem d_Fe_removeFrom_33 : decode mi_Fe_removeFrom.2.1 33 = .ok (.aload_n 0, 1) := by decide +kernel
theorem d_Fe_removeFrom_34 : decode mi_Fe_removeFrom.2.1 34 = .ok (.aload_n 0, 1) := by decide +kernel
theorem d_Fe_removeFrom_35 : decode mi_Fe_removeFrom.2.1 35 = .ok (.arraylength, 1) := by decide +kernel
theorem d_Fe_removeFrom_36 : decode mi_Fe_removeFrom.2.1 36 = .ok (.iconst 1, 1) := by decide +kernel
theorem d_Fe_removeFrom_37 : decode mi_Fe_removeFrom.2.1 37 = .ok (.isub, 1) := by decide +kernel
theorem d_Fe_removeFrom_38 : decode mi_Fe_removeFrom.2.1 38 = .ok (.iconst (-1), 1) := by decide +kernel
theorem d_Fe_removeFrom_39 : decode mi_Fe_removeFrom.2.1 39 = .ok (.iastore, 1) := by decide +kernel
theorem d_Fe_removeFrom_40 : decode mi_Fe_removeFrom.2.1 40 = .ok (.return_, 1) := by decide +kernel
theorem d_JM_max_0 : decode mi_JM_max.2.1 0 = .ok (.iload_n 0, 1) := by decide +kernel
theorem d_JM_max_1 : decode mi_JM_max.2.1 1 = .ok (.iload_n 1, 1) := by decide +kernel
theorem d_JM_max_2 : decode mi_JM_max.2.1 2 = .ok (.if_icmp .lt 7, 3) := by decide +kernel
theorem d_JM_max_5 : decode mi_JM_max.2.1 5 = .ok (.iload_n 0, 1) := by decide +kernel
theorem d_JM_max_6 : decode mi_JM_max.2.1 6 = .ok (.goto 4, 3) := by decide +kernel
theorem d_JM_max_9 : decode mi_JM_max.2.1 9 = .ok (.iload_n 1, 1) := by decide +kernel
theorem d_JM_max_10 : decode mi_JM_max.2.1 10 = .ok (.ireturn, 1) := by decide +kernel
theorem d_Re_read_0 : decode mi_Re_read.2.1 0 = .ok (.aload_n 0, 1) := by decide +kernel
theorem d_Re_read_1 : decode mi_Re_read.2.1 1 = .ok (.aload_n 1, 1) := by decide +kernel
theorem d_Re_read_2 : decode mi_Re_read.2.1 2 = .ok (.putfield 9, 3) := by decide +kernel
theorem d_Re_read_5 : decode mi_Re_read.2.1 5 = .ok (.aload_n 0, 1) := by decide +kernel
theorem d_Re_read_6 : decode mi_Re_read.2.1 6 = .ok (.iload_n 2, 1) := by decide +kernel
theorem d_Re_read_7 : decode mi_Re_read.2.1 7 = .ok (.aload_n 1, 1) := by decide +kernel
theorem d_Re_read_8 : decode mi_Re_read.2.1 8 = .ok (.arraylength, 1) := by decide +kernel
theorem d_Re_read_9 : decode mi_Re_read.2.1 9 = .ok (.sipush 250, 3) := by decide +kernel
theorem d_Re_read_12 : decode mi_Re_read.2.1 12 = .ok (.invokestatic 62, 3) := by decide +kernel
theorem d_Re_read_15 : decode mi_Re_read.2.1 15 = .ok (.invokestatic 62, 3) := by decide +kernel
theorem d_Re_read_18 : decode mi_Re_read.2.1 18 = .ok (.putfield 15, 3) := by decide +kernel
theorem d_Re_read_21 : decode mi_Re_read.2.1 21 = .ok (.aload_n 0, 1) := by decide +kernel
theorem d_Re_read_22 : decode mi_Re_read.2.1 22 = .ok (.iconst 0, 1) := by decide +kernel
theorem d_Re_read_23 : decode mi_Re_read.2.1 23 = .ok (.putfield 19, 3) := by decide +kernel
theorem d_Re_read_26 : decode mi_Re_read.2.1 26 = .ok (.aload_n 0, 1) := by decide +kernel
theorem d_Re_read_27 : decode mi_Re_read.2.1 27 = .ok (.iconst 0, 1) := by decide +kernel
theorem d_Re_read_28 : decode mi_Re_read.2.1 28 = .ok (.putfield 40, 3) := by decide +kernel
theorem d_Re_read_31 : decode mi_Re_read.2.1 31 = .ok (.aload_n 0, 1) := by decide +kernel
theorem d_Re_read_32 : decode mi_Re_read.2.1 32 = .ok (.iconst 0, 1) := by decide +kernel
theorem d_Re_read_33 : decode mi_Re_read.2.1 33 = .ok (.putfield 46, 3) := by decide +kernel
theorem d_Re_read_36 : decode mi_Re_read.2.1 36 = .ok (.aload_n 0, 1) := by decide +kernel
theorem d_Re_read_37 : decode mi_Re_read.2.1 37 = .ok (.iconst 0, 1) := by decide +kernel
theorem d_Re_read_38 : decode mi_Re_read.2.1 38 = .ok (.putfield 52, 3) := by decide +kernel
theorem d_Re_read_41 : decode mi_Re_read.2.1 41 = .ok (.aload_n 0, 1) := by decide +kernel
theorem d_Re_read_42 : decode mi_Re_read.2.1 42 = .ok (.iconst 0, 1) := by decide +kernel
theorem d_Re_read_43 : decode mi_Re_read.2.1 43 = .ok (.putfield 55, 3) := by decide +kernel
theorem d_Re_read_46 : decode mi_Re_read.2.1 46 = .ok (.aload_n 0, 1) := by decide +kernel
theorem d_Re_read_47 : decode mi_Re_read.2.1 47 = .ok (.iconst 1, 1) := by decide +kernel
theorem d_Re_read_48 : decode mi_Re_read.2.1 48 = .ok (.putfield 58, 3) := by decide +kernel
theorem d_Re_read_51 : decode mi_Re_read.2.1 51 = .ok (.aload_n 0, 1) := by decide +kernel
theorem d_Re_read_52 : decode mi_Re_read.2.1 52 = .ok (.invokevirtual 68, 3) := by decide +kernel
theorem d_Re_read_55 : decode mi_Re_read.2.1 55 = .ok (.ifCond .eq 26, 3) := by decide +kernel
theorem d_Re_read_58 : decode mi_Re_read.2.1 58 = .ok (.aload_n 0, 1) := by decide +kernel
theorem d_Re_read_59 : decode mi_Re_read.2.1 59 = .ok (.iload_n 3, 1) := by decide +kernel
theorem d_Re_read_60 : decode mi_Re_read.2.1 60 = .ok (.invokevirtual 72, 3) := by decide +kernel
theorem d_Re_read_63 : decode mi_Re_read.2.1 63 = .ok (.ifCond .eq 18, 3) := by decide +kernel
theorem d_Re_read_66 : decode mi_Re_read.2.1 66 = .ok (.aload_n 0, 1) := by decide +kernel
theorem d_Re_read_67 : decode mi_Re_read.2.1 67 = .ok (.getfield 19, 3) := by decide +kernel
theorem d_Re_read_70 : decode mi_Re_read.2.1 70 = .ok (.aload_n 0, 1) := by decide +kernel
theorem d_Re_read_71 : decode mi_Re_read.2.1 71 = .ok (.getfield 15, 3) := by decide +kernel
theorem d_Re_read_74 : decode mi_Re_read.2.1 74 = .ok (.if_icmp .ne 7, 3) := by decide +kernel
theorem d_Re_read_77 : decode mi_Re_read.2.1 77 = .ok (.iconst 1, 1) := by decide +kernel
theorem d_Re_read_78 : decode mi_Re_read.2.1 78 = .ok (.goto 4, 3) := by decide +kernel
theorem d_Re_read_81 : decode mi_Re_read.2.1 81 = .ok (.iconst 0, 1) := by decide +kernel
theorem d_Re_read_82 : decode mi_Re_read.2.1 82 = .ok (.istore 4, 2) := by decide +kernel
theorem d_Re_read_84 : decode mi_Re_read.2.1 84 = .ok (.iload 4, 2) := by decide +kernel
theorem d_Re_read_86 : decode mi_Re_read.2.1 86 = .ok (.ifCond .eq 7, 3) := by decide +kernel
theorem d_Re_read_89 : decode mi_Re_read.2.1 89 = .ok (.iconst (-1), 1) := by decide +kernel
theorem d_Re_read_90 : decode mi_Re_read.2.1 90 = .ok (.goto 7, 3) := by decide +kernel
theorem d_Re_read_93 : decode mi_Re_read.2.1 93 = .ok (.aload_n 0, 1) := by decide +kernel
theorem d_Re_read_94 : decode mi_Re_read.2.1 94 = .ok (.getfield 19, 3) := by decide +kernel
theorem d_Re_read_97 : decode mi_Re_read.2.1 97 = .ok (.ireturn, 1) := by decide +kernel
theorem d_JM_min_0 : decode mi_JM_min.2.1 0 = .ok (.iload_n 0, 1) := by decide +kernel
theorem d_JM_min_1 : decode mi_JM_min.2.1 1 = .ok (.iload_n 1, 1) := by decide +kernel
theorem d_JM_min_2 : decode mi_JM_min.2.1 2 = .ok (.if_icmp .gt 7, 3) := by decide +kernel
theorem d_JM_min_5 : decode mi_JM_min.2.1 5 = .ok (.iload_n 0, 1) := by decide +kernel
theorem d_JM_min_6 : decode mi_JM_min.2.1 6 = .ok (.goto 4, 3) := by decide +kernel
theorem d_JM_min_9 : decode mi_JM_min.2.1 9 = .ok (.iload_n 1, 1) := by decide +kernel
theorem d_JM_min_10 : decode mi_JM_min.2.1 10 = .ok (.ireturn, 1) := by decide +kernel
theorem d_Re_readCondition_0 : decode mi_Re_readCondition.2.1 0 = .ok (.iconst 0, 1) := by decide +kernel
theorem d_Re_readCondition_1 : decode mi_Re_readCondition.2.1 1 = .ok (.istore_n 1, 1) := by decide +kernel
theorem d_Re_readCondition_2 : decode mi_Re_readCondition.2.1 2 = .ok (.iload_n 1, 1) := by decide +kernel
theorem d_Re_readCondition_3 : decode mi_Re_readCondition.2.1 3 = .ok (.sipush 250, 3) := by decide +kernel
theorem d_Re_readCondition_6 : decode mi_Re_readCondition.2.1 6 = .ok (.if_icmp .ge 106, 3) := by decide +kernel
theorem d_Re_readCondition_9 : decode mi_Re_readCondition.2.1 9 = .ok (.aload_n 0, 1) := by decide +kernel
theorem d_Re_readCondition_10 : decode mi_Re_readCondition.2.1 10 = .ok (.getfield 19, 3) := by decide +kernel
theorem d_Re_readCondition_13 : decode mi_Re_readCondition.2.1 13 = .ok (.aload_n 0, 1) := by decide +kernel
theorem d_Re_readCondition_14 : decode mi_Re_readCondition.2.1 14 = .ok (.getfield 15, 3) := by decide +kernel
theorem d_Re_readCondition_17 : decode mi_Re_readCondition.2.1 17 = .ok (.if_icmp .ge 95, 3) := by decide +kernel
theorem d_Re_readCondition_20 : decode mi_Re_readCondition.2.1 20 = .ok (.aload_n 0, 1) := by decide +kernel
theorem d_Re_readCondition_21 : decode mi_Re_readCondition.2.1 21 = .ok (.getfield 9, 3) := by decide +kernel
theorem d_Re_readCondition_24 : decode mi_Re_readCondition.2.1 24 = .ok (.aload_n 0, 1) := by decide +kernel
theorem d_Re_readCondition_25 : decode mi_Re_readCondition.2.1 25 = .ok (.getfield 19, 3) := by decide +kernel
theorem d_Re_readCondition_28 : decode mi_Re_readCondition.2.1 28 = .ok (.iaload, 1) := by decide +kernel
theorem d_Re_readCondition_29 : decode mi_Re_readCondition.2.1 29 = .ok (.istore_n 2, 1) := by decide +kernel
theorem d_Re_readCondition_30 : decode mi_Re_readCondition.2.1 30 = .ok (.aload_n 0, 1) := by decide +kernel
theorem d_Re_readCondition_31 : decode mi_Re_readCondition.2.1 31 = .ok (.getfield 58, 3) := by decide +kernel
theorem d_Re_readCondition_34 : decode mi_Re_readCondition.2.1 34 = .ok (.ifCond .ne 33, 3) := by decide +kernel
theorem d_Re_readCondition_37 : decode mi_Re_readCondition.2.1 37 = .ok (.iload_n 2, 1) := by decide +kernel
theorem d_Re_readCondition_38 : decode mi_Re_readCondition.2.1 38 = .ok (.bipush 58, 2) := by decide +kernel
theorem d_Re_readCondition_40 : decode mi_Re_readCondition.2.1 40 = .ok (.if_icmp .eq 9, 3) := by decide +kernel
theorem d_Re_readCondition_43 : decode mi_Re_readCondition.2.1 43 = .ok (.iload_n 2, 1) := by decide +kernel
theorem d_Re_readCondition_44 : decode mi_Re_readCondition.2.1 44 = .ok (.bipush 37, 2) := by decide +kernel
theorem d_Re_readCondition_46 : decode mi_Re_readCondition.2.1 46 = .ok (.if_icmp .ne 21, 3) := by decide +kernel
theorem d_Re_readCondition_49 : decode mi_Re_readCondition.2.1 49 = .ok (.aload_n 0, 1) := by decide +kernel
theorem d_Re_readCondition_50 : decode mi_Re_readCondition.2.1 50 = .ok (.iconst 1, 1) := by decide +kernel
theorem d_Re_readCondition_51 : decode mi_Re_readCondition.2.1 51 = .ok (.invokevirtual 81, 3) := by decide +kernel
theorem d_Re_readCondition_54 : decode mi_Re_readCondition.2.1 54 = .ok (.aload_n 0, 1) := by decide +kernel
theorem d_Re_readCondition_55 : decode mi_Re_readCondition.2.1 55 = .ok (.getfield 55, 3) := by decide +kernel
theorem d_Re_readCondition_58 : decode mi_Re_readCondition.2.1 58 = .ok (.ifCond .ne 7, 3) := by decide +kernel
theorem d_Re_readCondition_61 : decode mi_Re_readCondition.2.1 61 = .ok (.iconst 1, 1) := by decide +kernel
theorem d_Re_readCondition_62 : decode mi_Re_readCondition.2.1 62 = .ok (.goto 4, 3) := by decide +kernel
theorem d_Re_readCondition_65 : decode mi_Re_readCondition.2.1 65 = .ok (.iconst 0, 1) := by decide +kernel
theorem d_Re_readCondition_66 : decode mi_Re_readCondition.2.1 66 = .ok (.ireturn, 1) := by decide +kernel
theorem d_Re_readCondition_67 : decode mi_Re_readCondition.2.1 67 = .ok (.aload_n 0, 1) := by decide +kernel
theorem d_Re_readCondition_68 : decode mi_Re_readCondition.2.1 68 = .ok (.getfield 58, 3) := by decide +kernel
theorem d_Re_readCondition_71 : decode mi_Re_readCondition.2.1 71 = .ok (.ifCond .eq 14, 3) := by decide +kernel
theorem d_Re_readCondition_74 : decode mi_Re_readCondition.2.1 74 = .ok (.aload_n 0, 1) := by decide +kernel
theorem d_Re_readCondition_75 : decode mi_Re_readCondition.2.1 75 = .ok (.iload_n 2, 1) := by decide +kernel
theorem d_Re_readCondition_76 : decode mi_Re_readCondition.2.1 76 = .ok (.invokevirtual 85, 3) := by decide +kernel
theorem d_Re_readCondition_79 : decode mi_Re_readCondition.2.1 79 = .ok (.ifCond .eq 14, 3) := by decide +kernel
theorem d_Re_readCondition_82 : decode mi_Re_readCondition.2.1 82 = .ok (.goto 13, 3) := by decide +kernel
theorem d_Re_readCondition_85 : decode mi_Re_readCondition.2.1 85 = .ok (.aload_n 0, 1) := by decide +kernel
theorem d_Re_readCondition_86 : decode mi_Re_readCondition.2.1 86 = .ok (.iload_n 2, 1) := by decide +kernel
theorem d_Re_readCondition_87 : decode mi_Re_readCondition.2.1 87 = .ok (.invokevirtual 88, 3) := by decide +kernel
theorem d_Re_readCondition_90 : decode mi_Re_readCondition.2.1 90 = .ok (.ifCond .ne 5, 3) := by decide +kernel
theorem d_Re_readCondition_93 : decode mi_Re_readCondition.2.1 93 = .ok (.iconst 0, 1) := by decide +kernel
theorem d_Re_readCondition_94 : decode mi_Re_readCondition.2.1 94 = .ok (.ireturn, 1) := by decide +kernel
theorem d_Re_readCondition_95 : decode mi_Re_readCondition.2.1 95 = .ok (.aload_n 0, 1) := by decide +kernel
theorem d_Re_readCondition_96 : decode mi_Re_readCondition.2.1 96 = .ok (.getfield 58, 3) := by decide +kernel
theorem d_Re_readCondition_99 : decode mi_Re_readCondition.2.1 99 = .ok (.ifCond .ne 7, 3) := by decide +kernel
theorem d_Re_readCondition_102 : decode mi_Re_readCondition.2.1 102 = .ok (.aload_n 0, 1) := by decide +kernel
theorem d_Re_readCondition_103 : decode mi_Re_readCondition.2.1 103 = .ok (.invokevirtual 91, 3) := by decide +kernel
theorem d_Re_readCondition_106 : decode mi_Re_readCondition.2.1 106 = .ok (.iinc 1 1, 3) := by decide +kernel
theorem d_Re_readCondition_109 : decode mi_Re_readCondition.2.1 109 = .ok (.goto (-107), 3) := by decide +kernel
theorem d_Re_readCondition_112 : decode mi_Re_readCondition.2.1 112 = .ok (.iconst 0, 1) := by decide +kernel
theorem d_Re_readCondition_113 : decode mi_Re_readCondition.2.1 113 = .ok (.ireturn, 1) := by decide +kernel
theorem d_Re_joinWaiting_0 : decode mi_Re_joinWaiting.2.1 0 = .ok (.aload_n 0, 1) := by decide +kernel
theorem d_Re_joinWaiting_1 : decode mi_Re_joinWaiting.2.1 1 = .ok (.getfield 52, 3) := by decide +kernel
theorem d_Re_joinWaiting_4 : decode mi_Re_joinWaiting.2.1 4 = .ok (.ifCond .le 77, 3) := by decide +kernel
theorem d_Re_joinWaiting_7 : decode mi_Re_joinWaiting.2.1 7 = .ok (.aload_n 0, 1) := by decide +kernel
theorem d_Re_joinWaiting_8 : decode mi_Re_joinWaiting.2.1 8 = .ok (.getfield 49, 3) := by decide +kernel
theorem d_Re_joinWaiting_11 : decode mi_Re_joinWaiting.2.1 11 = .ok (.aload_n 0, 1) := by decide +kernel
theorem d_Re_joinWaiting_12 : decode mi_Re_joinWaiting.2.1 12 = .ok (.getfield 52, 3) := by decide +kernel
theorem d_Re_joinWaiting_15 : decode mi_Re_joinWaiting.2.1 15 = .ok (.iconst 1, 1) := by decide +kernel
theorem d_Re_joinWaiting_16 : decode mi_Re_joinWaiting.2.1 16 = .ok (.isub, 1) := by decide +kernel
theorem d_Re_joinWaiting_17 : decode mi_Re_joinWaiting.2.1 17 = .ok (.iaload, 1) := by decide +kernel
theorem d_Re_joinWaiting_18 : decode mi_Re_joinWaiting.2.1 18 = .ok (.istore_n 2, 1) := by decide +kernel
theorem d_Re_joinWaiting_19 : decode mi_Re_joinWaiting.2.1 19 = .ok (.iload_n 2, 1) := by decide +kernel
theorem d_Re_joinWaiting_20 : decode mi_Re_joinWaiting.2.1 20 = .ok (.bipush 38, 2) := by decide +kernel
theorem d_Re_joinWaiting_22 : decode mi_Re_joinWaiting.2.1 22 = .ok (.if_icmp .eq 14, 3) := by decide +kernel
theorem d_Re_joinWaiting_25 : decode mi_Re_joinWaiting.2.1 25 = .ok (.iload_n 1, 1) := by decide +kernel
theorem d_Re_joinWaiting_26 : decode mi_Re_joinWaiting.2.1 26 = .ok (.ifCond .eq 9, 3) := by decide +kernel
theorem d_Re_joinWaiting_29 : decode mi_Re_joinWaiting.2.1 29 = .ok (.iload_n 2, 1) := by decide +kernel
theorem d_Re_joinWaiting_30 : decode mi_Re_joinWaiting.2.1 30 = .ok (.bipush 124, 2) := by decide +kernel
theorem d_Re_joinWaiting_32 : decode mi_Re_joinWaiting.2.1 32 = .ok (.if_icmp .eq 4, 3) := by decide +kernel
theorem d_Re_joinWaiting_35 : decode mi_Re_joinWaiting.2.1 35 = .ok (.return_, 1) := by decide +kernel
theorem d_Re_joinWaiting_36 : decode mi_Re_joinWaiting.2.1 36 = .ok (.aload_n 0, 1) := by decide +kernel
theorem d_Re_joinWaiting_37 : decode mi_Re_joinWaiting.2.1 37 = .ok (.invokevirtual 138, 3) := by decide +kernel
theorem d_Re_joinWaiting_40 : decode mi_Re_joinWaiting.2.1 40 = .ok (.istore_n 3, 1) := by decide +kernel
theorem d_Re_joinWaiting_41 : decode mi_Re_joinWaiting.2.1 41 = .ok (.aload_n 0, 1) := by decide +kernel
theorem d_Re_joinWaiting_42 : decode mi_Re_joinWaiting.2.1 42 = .ok (.invokevirtual 138, 3) := by decide +kernel
theorem d_Re_joinWaiting_45 : decode mi_Re_joinWaiting.2.1 45 = .ok (.istore 4, 2) := by decide +kernel
theorem d_Re_joinWaiting_47 : decode mi_Re_joinWaiting.2.1 47 = .ok (.aload_n 0, 1) := by decide +kernel
theorem d_Re_joinWaiting_48 : decode mi_Re_joinWaiting.2.1 48 = .ok (.iload_n 2, 1) := by decide +kernel
theorem d_Re_joinWaiting_49 : decode mi_Re_joinWaiting.2.1 49 = .ok (.bipush 38, 2) := by decide +kernel
theorem d_Re_joinWaiting_51 : decode mi_Re_joinWaiting.2.1 51 = .ok (.if_icmp .ne 8, 3) := by decide +kernel
theorem d_Re_joinWaiting_54 : decode mi_Re_joinWaiting.2.1 54 = .ok (.bipush 7, 2) := by decide +kernel
theorem d_Re_joinWaiting_56 : decode mi_Re_joinWaiting.2.1 56 = .ok (.goto 5, 3) := by decide +kernel
theorem d_Re_joinWaiting_59 : decode mi_Re_joinWaiting.2.1 59 = .ok (.bipush 8, 2) := by decide +kernel
theorem d_Re_joinWaiting_61 : decode mi_Re_joinWaiting.2.1 61 = .ok (.iload 4, 2) := by decide +kernel
theorem d_Re_joinWaiting_63 : decode mi_Re_joinWaiting.2.1 63 = .ok (.iload_n 3, 1) := by decide +kernel
theorem d_Re_joinWaiting_64 : decode mi_Re_joinWaiting.2.1 64 = .ok (.iconst 0, 1) := by decide +kernel
theorem d_Re_joinWaiting_65 : decode mi_Re_joinWaiting.2.1 65 = .ok (.invokevirtual 134, 3) := by decide +kernel
theorem d_Re_joinWaiting_68 : decode mi_Re_joinWaiting.2.1 68 = .ok (.aload_n 0, 1) := by decide +kernel
theorem d_Re_joinWaiting_69 : decode mi_Re_joinWaiting.2.1 69 = .ok (.dup, 1) := by decide +kernel
theorem d_Re_joinWaiting_70 : decode mi_Re_joinWaiting.2.1 70 = .ok (.getfield 52, 3) := by decide +kernel
theorem d_Re_joinWaiting_73 : decode mi_Re_joinWaiting.2.1 73 = .ok (.iconst 1, 1) := by decide +kernel
theorem d_Re_joinWaiting_74 : decode mi_Re_joinWaiting.2.1 74 = .ok (.isub, 1) := by decide +kernel
theorem d_Re_joinWaiting_75 : decode mi_Re_joinWaiting.2.1 75 = .ok (.putfield 52, 3) := by decide +kernel
theorem d_Re_joinWaiting_78 : decode mi_Re_joinWaiting.2.1 78 = .ok (.goto (-78), 3) := by decide +kernel
theorem d_Re_joinWaiting_81 : decode mi_Re_joinWaiting.2.1 81 = .ok (.return_, 1) := by decide +kernel
theorem d_Re_takeLoose_0 : decode mi_Re_takeLoose.2.1 0 = .ok (.aload_n 0, 1) := by decide +kernel
theorem d_Re_takeLoose_1 : decode mi_Re_takeLoose.2.1 1 = .ok (.getfield 46, 3) := by decide +kernel
theorem d_Re_takeLoose_4 : decode mi_Re_takeLoose.2.1 4 = .ok (.ifCond .gt 5, 3) := by decide +kernel
theorem d_Re_takeLoose_7 : decode mi_Re_takeLoose.2.1 7 = .ok (.iconst (-1), 1) := by decide +kernel
theorem d_Re_takeLoose_8 : decode mi_Re_takeLoose.2.1 8 = .ok (.ireturn, 1) := by decide +kernel
theorem d_Re_takeLoose_9 : decode mi_Re_takeLoose.2.1 9 = .ok (.aload_n 0, 1) := by decide +kernel
theorem d_Re_takeLoose_10 : decode mi_Re_takeLoose.2.1 10 = .ok (.dup, 1) := by decide +kernel
theorem d_Re_takeLoose_11 : decode mi_Re_takeLoose.2.1 11 = .ok (.getfield 46, 3) := by decide +kernel
theorem d_Re_takeLoose_14 : decode mi_Re_takeLoose.2.1 14 = .ok (.iconst 1, 1) := by decide +kernel
theorem d_Re_takeLoose_15 : decode mi_Re_takeLoose.2.1 15 = .ok (.isub, 1) := by decide +kernel
theorem d_Re_takeLoose_16 : decode mi_Re_takeLoose.2.1 16 = .ok (.putfield 46, 3) := by decide +kernel
theorem d_Re_takeLoose_19 : decode mi_Re_takeLoose.2.1 19 = .ok (.aload_n 0, 1) := by decide +kernel
theorem d_Re_takeLoose_20 : decode mi_Re_takeLoose.2.1 20 = .ok (.getfield 43, 3) := by decide +kernel
theorem d_Re_takeLoose_23 : decode mi_Re_takeLoose.2.1 23 = .ok (.aload_n 0, 1) := by decide +kernel
theorem d_Re_takeLoose_24 : decode mi_Re_takeLoose.2.1 24 = .ok (.getfield 46, 3) := by decide +kernel
theorem d_Re_takeLoose_27 : decode mi_Re_takeLoose.2.1 27 = .ok (.iaload, 1) := by decide +kernel
theorem d_Re_takeLoose_28 : decode mi_Re_takeLoose.2.1 28 = .ok (.ireturn, 1) := by decide +kernel
theorem d_Re_addNode_0 : decode mi_Re_addNode.2.1 0 = .ok (.aload_n 0, 1) := by decide +kernel
theorem d_Re_addNode_1 : decode mi_Re_addNode.2.1 1 = .ok (.getfield 40, 3) := by decide +kernel
theorem d_Re_addNode_4 : decode mi_Re_addNode.2.1 4 = .ok (.sipush 250, 3) := by decide +kernel
theorem d_Re_addNode_7 : decode mi_Re_addNode.2.1 7 = .ok (.if_icmp .ge 13, 3) := by decide +kernel
theorem d_Re_addNode_10 : decode mi_Re_addNode.2.1 10 = .ok (.aload_n 0, 1) := by decide +kernel
theorem d_Re_addNode_11 : decode mi_Re_addNode.2.1 11 = .ok (.getfield 46, 3) := by decide +kernel
theorem d_Re_addNode_14 : decode mi_Re_addNode.2.1 14 = .ok (.sipush 250, 3) := by decide +kernel
theorem d_Re_addNode_17 : decode mi_Re_addNode.2.1 17 = .ok (.if_icmp .lt 4, 3) := by decide +kernel
theorem d_Re_addNode_20 : decode mi_Re_addNode.2.1 20 = .ok (.return_, 1) := by decide +kernel
theorem d_Re_addNode_21 : decode mi_Re_addNode.2.1 21 = .ok (.aload_n 0, 1) := by decide +kernel
theorem d_Re_addNode_22 : decode mi_Re_addNode.2.1 22 = .ok (.getfield 28, 3) := by decide +kernel
theorem d_Re_addNode_25 : decode mi_Re_addNode.2.1 25 = .ok (.aload_n 0, 1) := by decide +kernel
theorem d_Re_addNode_26 : decode mi_Re_addNode.2.1 26 = .ok (.getfield 40, 3) := by decide +kernel
theorem d_Re_addNode_29 : decode mi_Re_addNode.2.1 29 = .ok (.iload_n 1, 1) := by decide +kernel
theorem d_Re_addNode_30 : decode mi_Re_addNode.2.1 30 = .ok (.iastore, 1) := by decide +kernel
theorem d_Re_addNode_31 : decode mi_Re_addNode.2.1 31 = .ok (.aload_n 0, 1) := by decide +kernel
theorem d_Re_addNode_32 : decode mi_Re_addNode.2.1 32 = .ok (.getfield 31, 3) := by decide +kernel
theorem d_Re_addNode_35 : decode mi_Re_addNode.2.1 35 = .ok (.aload_n 0, 1) := by decide +kernel
theorem d_Re_addNode_36 : decode mi_Re_addNode.2.1 36 = .ok (.getfield 40, 3) := by decide +kernel
theorem d_Re_addNode_39 : decode mi_Re_addNode.2.1 39 = .ok (.iload_n 2, 1) := by decide +kernel
theorem d_Re_addNode_40 : decode mi_Re_addNode.2.1 40 = .ok (.iastore, 1) := by decide +kernel
theorem d_Re_addNode_41 : decode mi_Re_addNode.2.1 41 = .ok (.aload_n 0, 1) := by decide +kernel
theorem d_Re_addNode_42 : decode mi_Re_addNode.2.1 42 = .ok (.getfield 34, 3) := by decide +kernel
theorem d_Re_addNode_45 : decode mi_Re_addNode.2.1 45 = .ok (.aload_n 0, 1) := by decide +kernel
theorem d_Re_addNode_46 : decode mi_Re_addNode.2.1 46 = .ok (.getfield 40, 3) := by decide +kernel
theorem d_Re_addNode_49 : decode mi_Re_addNode.2.1 49 = .ok (.iload_n 3, 1) := by decide +kernel
theorem d_Re_addNode_50 : decode mi_Re_addNode.2.1 50 = .ok (.iastore, 1) := by decide +kernel
theorem d_Re_addNode_51 : decode mi_Re_addNode.2.1 51 = .ok (.aload_n 0, 1) := by decide +kernel
theorem d_Re_addNode_52 : decode mi_Re_addNode.2.1 52 = .ok (.getfield 37, 3) := by decide +kernel
theorem d_Re_addNode_55 : decode mi_Re_addNode.2.1 55 = .ok (.aload_n 0, 1) := by decide +kernel
theorem d_Re_addNode_56 : decode mi_Re_addNode.2.1 56 = .ok (.getfield 40, 3) := by decide +kernel
theorem d_Re_addNode_59 : decode mi_Re_addNode.2.1 59 = .ok (.iload 4, 2) := by decide +kernel
theorem d_Re_addNode_61 : decode mi_Re_addNode.2.1 61 = .ok (.iastore, 1) := by decide +kernel
theorem d_Re_addNode_62 : decode mi_Re_addNode.2.1 62 = .ok (.aload_n 0, 1) := by decide +kernel
theorem d_Re_addNode_63 : decode mi_Re_addNode.2.1 63 = .ok (.getfield 43, 3) := by decide +kernel
theorem d_Re_addNode_66 : decode mi_Re_addNode.2.1 66 = .ok (.aload_n 0, 1) := by decide +kernel
theorem d_Re_addNode_67 : decode mi_Re_addNode.2.1 67 = .ok (.getfield 46, 3) := by decide +kernel
theorem d_Re_addNode_70 : decode mi_Re_addNode.2.1 70 = .ok (.aload_n 0, 1) := by decide +kernel
theorem d_Re_addNode_71 : decode mi_Re_addNode.2.1 71 = .ok (.getfield 40, 3) := by decide +kernel
theorem d_Re_addNode_74 : decode mi_Re_addNode.2.1 74 = .ok (.iastore, 1) := by decide +kernel
theorem d_Re_addNode_75 : decode mi_Re_addNode.2.1 75 = .ok (.aload_n 0, 1) := by decide +kernel
theorem d_Re_addNode_76 : decode mi_Re_addNode.2.1 76 = .ok (.dup, 1) := by decide +kernel
theorem d_Re_addNode_77 : decode mi_Re_addNode.2.1 77 = .ok (.getfield 46, 3) := by decide +kernel
theorem d_Re_addNode_80 : decode mi_Re_addNode.2.1 80 = .ok (.iconst 1, 1) := by decide +kernel
theorem d_Re_addNode_81 : decode mi_Re_addNode.2.1 81 = .ok (.iadd, 1) := by decide +kernel
theorem d_Re_addNode_82 : decode mi_Re_addNode.2.1 82 = .ok (.putfield 46, 3) := by decide +kernel
theorem d_Re_addNode_85 : decode mi_Re_addNode.2.1 85 = .ok (.aload_n 0, 1) := by decide +kernel
theorem d_Re_addNode_86 : decode mi_Re_addNode.2.1 86 = .ok (.dup, 1) := by decide +kernel
theorem d_Re_addNode_87 : decode mi_Re_addNode.2.1 87 = .ok (.getfield 40, 3) := by decide +kernel
theorem d_Re_addNode_90 : decode mi_Re_addNode.2.1 90 = .ok (.iconst 1, 1) := by decide +kernel
theorem d_Re_addNode_91 : decode mi_Re_addNode.2.1 91 = .ok (.iadd, 1) := by decide +kernel
theorem d_Re_addNode_92 : decode mi_Re_addNode.2.1 92 = .ok (.putfield 40, 3) := by decide +kernel
theorem d_Re_addNode_95 : decode mi_Re_addNode.2.1 95 = .ok (.return_, 1) := by decide +kernel
theorem d_Re_readOperand_0 : decode mi_Re_readOperand.2.1 0 = .ok (.iload_n 1, 1) := by decide +kernel
theorem d_Re_readOperand_1 : decode mi_Re_readOperand.2.1 1 = .ok (.bipush 33, 2) := by decide +kernel
theorem d_Re_readOperand_3 : decode mi_Re_readOperand.2.1 3 = .ok (.if_icmp .eq 9, 3) := by decide +kernel
theorem d_Re_readOperand_6 : decode mi_Re_readOperand.2.1 6 = .ok (.iload_n 1, 1) := by decide +kernel
theorem d_Re_readOperand_7 : decode mi_Re_readOperand.2.1 7 = .ok (.bipush 40, 2) := by decide +kernel
theorem d_Re_readOperand_9 : decode mi_Re_readOperand.2.1 9 = .ok (.if_icmp .ne 39, 3) := by decide +kernel
theorem d_Re_readOperand_12 : decode mi_Re_readOperand.2.1 12 = .ok (.aload_n 0, 1) := by decide +kernel
theorem d_Re_readOperand_13 : decode mi_Re_readOperand.2.1 13 = .ok (.dup, 1) := by decide +kernel
theorem d_Re_readOperand_14 : decode mi_Re_readOperand.2.1 14 = .ok (.getfield 55, 3) := by decide +kernel
theorem d_Re_readOperand_17 : decode mi_Re_readOperand.2.1 17 = .ok (.iload_n 1, 1) := by decide +kernel
theorem d_Re_readOperand_18 : decode mi_Re_readOperand.2.1 18 = .ok (.bipush 40, 2) := by decide +kernel
theorem d_Re_readOperand_20 : decode mi_Re_readOperand.2.1 20 = .ok (.if_icmp .ne 7, 3) := by decide +kernel
theorem d_Re_readOperand_23 : decode mi_Re_readOperand.2.1 23 = .ok (.iconst 1, 1) := by decide +kernel
theorem d_Re_readOperand_24 : decode mi_Re_readOperand.2.1 24 = .ok (.goto 4, 3) := by decide +kernel
theorem d_Re_readOperand_27 : decode mi_Re_readOperand.2.1 27 = .ok (.iconst 0, 1) := by decide +kernel
theorem d_Re_readOperand_28 : decode mi_Re_readOperand.2.1 28 = .ok (.iadd, 1) := by decide +kernel
theorem d_Re_readOperand_29 : decode mi_Re_readOperand.2.1 29 = .ok (.putfield 55, 3) := by decide +kernel
theorem d_Re_readOperand_32 : decode mi_Re_readOperand.2.1 32 = .ok (.aload_n 0, 1) := by decide +kernel
theorem d_Re_readOperand_33 : decode mi_Re_readOperand.2.1 33 = .ok (.dup, 1) := by decide +kernel
theorem d_Re_readOperand_34 : decode mi_Re_readOperand.2.1 34 = .ok (.getfield 19, 3) := by decide +kernel
theorem d_Re_readOperand_37 : decode mi_Re_readOperand.2.1 37 = .ok (.iconst 1, 1) := by decide +kernel
theorem d_Re_readOperand_38 : decode mi_Re_readOperand.2.1 38 = .ok (.iadd, 1) := by decide +kernel
theorem d_Re_readOperand_39 : decode mi_Re_readOperand.2.1 39 = .ok (.putfield 19, 3) := by decide +kernel
theorem d_Re_readOperand_42 : decode mi_Re_readOperand.2.1 42 = .ok (.aload_n 0, 1) := by decide +kernel
theorem d_Re_readOperand_43 : decode mi_Re_readOperand.2.1 43 = .ok (.iload_n 1, 1) := by decide +kernel
theorem d_Re_readOperand_44 : decode mi_Re_readOperand.2.1 44 = .ok (.invokevirtual 94, 3) := by decide +kernel
theorem d_Re_readOperand_47 : decode mi_Re_readOperand.2.1 47 = .ok (.ireturn, 1) := by decide +kernel
theorem d_Re_readOperand_48 : decode mi_Re_readOperand.2.1 48 = .ok (.iload_n 1, 1) := by decide +kernel
theorem d_Re_readOperand_49 : decode mi_Re_readOperand.2.1 49 = .ok (.bipush 42, 2) := by decide +kernel
theorem d_Re_readOperand_51 : decode mi_Re_readOperand.2.1 51 = .ok (.if_icmp .ne 22, 3) := by decide +kernel
theorem d_Re_readOperand_54 : decode mi_Re_readOperand.2.1 54 = .ok (.aload_n 0, 1) := by decide +kernel
theorem d_Re_readOperand_55 : decode mi_Re_readOperand.2.1 55 = .ok (.dup, 1) := by decide +kernel
theorem d_Re_readOperand_56 : decode mi_Re_readOperand.2.1 56 = .ok (.getfield 19, 3) := by decide +kernel
theorem d_Re_readOperand_59 : decode mi_Re_readOperand.2.1 59 = .ok (.iconst 1, 1) := by decide +kernel
theorem d_Re_readOperand_60 : decode mi_Re_readOperand.2.1 60 = .ok (.iadd, 1) := by decide +kernel
theorem d_Re_readOperand_61 : decode mi_Re_readOperand.2.1 61 = .ok (.putfield 19, 3) := by decide +kernel
theorem d_Re_readOperand_64 : decode mi_Re_readOperand.2.1 64 = .ok (.aload_n 0, 1) := by decide +kernel
theorem d_Re_readOperand_65 : decode mi_Re_readOperand.2.1 65 = .ok (.iconst 4, 1) := by decide +kernel
theorem d_Re_readOperand_66 : decode mi_Re_readOperand.2.1 66 = .ok (.iconst 0, 1) := by decide +kernel
theorem d_Re_readOperand_67 : decode mi_Re_readOperand.2.1 67 = .ok (.iconst 0, 1) := by decide +kernel
theorem d_Re_readOperand_68 : decode mi_Re_readOperand.2.1 68 = .ok (.iconst 0, 1) := by decide +kernel
theorem d_Re_readOperand_69 : decode mi_Re_readOperand.2.1 69 = .ok (.invokevirtual 97, 3) := by decide +kernel
theorem d_Re_readOperand_72 : decode mi_Re_readOperand.2.1 72 = .ok (.ireturn, 1) := by decide +kernel
theorem d_Re_readOperand_73 : decode mi_Re_readOperand.2.1 73 = .ok (.iload_n 1, 1) := by decide +kernel
theorem d_Re_readOperand_74 : decode mi_Re_readOperand.2.1 74 = .ok (.bipush 97, 2) := by decide +kernel
theorem d_Re_readOperand_76 : decode mi_Re_readOperand.2.1 76 = .ok (.if_icmp .lt 18, 3) := by decide +kernel
theorem d_Re_readOperand_79 : decode mi_Re_readOperand.2.1 79 = .ok (.iload_n 1, 1) := by decide +kernel
theorem d_Re_readOperand_80 : decode mi_Re_readOperand.2.1 80 = .ok (.bipush 100, 2) := by decide +kernel
theorem d_Re_readOperand_82 : decode mi_Re_readOperand.2.1 82 = .ok (.if_icmp .gt 12, 3) := by decide +kernel
theorem d_Re_readOperand_85 : decode mi_Re_readOperand.2.1 85 = .ok (.aload_n 0, 1) := by decide +kernel
theorem d_Re_readOperand_86 : decode mi_Re_readOperand.2.1 86 = .ok (.iload_n 1, 1) := by decide +kernel
theorem d_Re_readOperand_87 : decode mi_Re_readOperand.2.1 87 = .ok (.bipush 97, 2) := by decide +kernel
theorem d_Re_readOperand_89 : decode mi_Re_readOperand.2.1 89 = .ok (.isub, 1) := by decide +kernel
theorem d_Re_readOperand_90 : decode mi_Re_readOperand.2.1 90 = .ok (.invokevirtual 101, 3) := by decide +kernel
theorem d_Re_readOperand_93 : decode mi_Re_readOperand.2.1 93 = .ok (.ireturn, 1) := by decide +kernel
theorem d_Re_readOperand_94 : decode mi_Re_readOperand.2.1 94 = .ok (.iload_n 1, 1) := by decide +kernel
theorem d_Re_readOperand_95 : decode mi_Re_readOperand.2.1 95 = .ok (.bipush 35, 2) := by decide +kernel
theorem d_Re_readOperand_97 : decode mi_Re_readOperand.2.1 97 = .ok (.if_icmp .ne 14, 3) := by decide +kernel
theorem d_Re_readOperand_100 : decode mi_Re_readOperand.2.1 100 = .ok (.aload_n 0, 1) := by decide +kernel
theorem d_Re_readOperand_101 : decode mi_Re_readOperand.2.1 101 = .ok (.invokevirtual 104, 3) := by decide +kernel
theorem d_Re_readOperand_104 : decode mi_Re_readOperand.2.1 104 = .ok (.ifCond .eq 7, 3) := by decide +kernel
theorem d_Re_readOperand_107 : decode mi_Re_readOperand.2.1 107 = .ok (.iconst 1, 1) := by decide +kernel
theorem d_Re_readOperand_108 : decode mi_Re_readOperand.2.1 108 = .ok (.goto 4, 3) := by decide +kernel
theorem d_Re_readOperand_111 : decode mi_Re_readOperand.2.1 111 = .ok (.iconst 0, 1) := by decide +kernel
theorem d_Re_readOperand_112 : decode mi_Re_readOperand.2.1 112 = .ok (.ireturn, 1) := by decide +kernel
theorem d_Re_addWaiting_0 : decode mi_Re_addWaiting.2.1 0 = .ok (.aload_n 0, 1) := by decide +kernel
theorem d_Re_addWaiting_1 : decode mi_Re_addWaiting.2.1 1 = .ok (.getfield 52, 3) := by decide +kernel
theorem d_Re_addWaiting_4 : decode mi_Re_addWaiting.2.1 4 = .ok (.sipush 250, 3) := by decide +kernel
theorem d_Re_addWaiting_7 : decode mi_Re_addWaiting.2.1 7 = .ok (.if_icmp .lt 5, 3) := by decide +kernel
theorem d_Re_addWaiting_10 : decode mi_Re_addWaiting.2.1 10 = .ok (.iconst 0, 1) := by decide +kernel
theorem d_Re_addWaiting_11 : decode mi_Re_addWaiting.2.1 11 = .ok (.ireturn, 1) := by decide +kernel
theorem d_Re_addWaiting_12 : decode mi_Re_addWaiting.2.1 12 = .ok (.aload_n 0, 1) := by decide +kernel
theorem d_Re_addWaiting_13 : decode mi_Re_addWaiting.2.1 13 = .ok (.getfield 49, 3) := by decide +kernel
theorem d_Re_addWaiting_16 : decode mi_Re_addWaiting.2.1 16 = .ok (.aload_n 0, 1) := by decide +kernel
theorem d_Re_addWaiting_17 : decode mi_Re_addWaiting.2.1 17 = .ok (.getfield 52, 3) := by decide +kernel
theorem d_Re_addWaiting_20 : decode mi_Re_addWaiting.2.1 20 = .ok (.iload_n 1, 1) := by decide +kernel
theorem d_Re_addWaiting_21 : decode mi_Re_addWaiting.2.1 21 = .ok (.iastore, 1) := by decide +kernel
theorem d_Re_addWaiting_22 : decode mi_Re_addWaiting.2.1 22 = .ok (.aload_n 0, 1) := by decide +kernel
theorem d_Re_addWaiting_23 : decode mi_Re_addWaiting.2.1 23 = .ok (.dup, 1) := by decide +kernel
theorem d_Re_addWaiting_24 : decode mi_Re_addWaiting.2.1 24 = .ok (.getfield 52, 3) := by decide +kernel
theorem d_Re_addWaiting_27 : decode mi_Re_addWaiting.2.1 27 = .ok (.iconst 1, 1) := by decide +kernel
theorem d_Re_addWaiting_28 : decode mi_Re_addWaiting.2.1 28 = .ok (.iadd, 1) := by decide +kernel
theorem d_Re_addWaiting_29 : decode mi_Re_addWaiting.2.1 29 = .ok (.putfield 52, 3) := by decide +kernel
theorem d_Re_addWaiting_32 : decode mi_Re_addWaiting.2.1 32 = .ok (.iconst 1, 1) := by decide +kernel
theorem d_Re_addWaiting_33 : decode mi_Re_addWaiting.2.1 33 = .ok (.ireturn, 1) := by decide +kernel
theorem d_Re_addOperand_0 : decode mi_Re_addOperand.2.1 0 = .ok (.aload_n 0, 1) := by decide +kernel
theorem d_Re_addOperand_1 : decode mi_Re_addOperand.2.1 1 = .ok (.iload_n 1, 1) := by decide +kernel
theorem d_Re_addOperand_2 : decode mi_Re_addOperand.2.1 2 = .ok (.iload_n 2, 1) := by decide +kernel
theorem d_Re_addOperand_3 : decode mi_Re_addOperand.2.1 3 = .ok (.iload_n 3, 1) := by decide +kernel
theorem d_Re_addOperand_4 : decode mi_Re_addOperand.2.1 4 = .ok (.iload 4, 2) := by decide +kernel
theorem d_Re_addOperand_6 : decode mi_Re_addOperand.2.1 6 = .ok (.invokevirtual 134, 3) := by decide +kernel
theorem d_Re_addOperand_9 : decode mi_Re_addOperand.2.1 9 = .ok (.aload_n 0, 1) := by decide +kernel
theorem d_Re_addOperand_10 : decode mi_Re_addOperand.2.1 10 = .ok (.iconst 0, 1) := by decide +kernel
theorem d_Re_addOperand_11 : decode mi_Re_addOperand.2.1 11 = .ok (.putfield 58, 3) := by decide +kernel
theorem d_Re_addOperand_14 : decode mi_Re_addOperand.2.1 14 = .ok (.iconst 1, 1) := by decide +kernel
theorem d_Re_addOperand_15 : decode mi_Re_addOperand.2.1 15 = .ok (.ireturn, 1) := by decide +kernel
theorem d_Re_readTest_0 : decode mi_Re_readTest.2.1 0 = .ok (.aload_n 0, 1) := by decide +kernel
theorem d_Re_readTest_1 : decode mi_Re_readTest.2.1 1 = .ok (.dup, 1) := by decide +kernel
theorem d_Re_readTest_2 : decode mi_Re_readTest.2.1 2 = .ok (.getfield 19, 3) := by decide +kernel
theorem d_Re_readTest_5 : decode mi_Re_readTest.2.1 5 = .ok (.iconst 1, 1) := by decide +kernel
theorem d_Re_readTest_6 : decode mi_Re_readTest.2.1 6 = .ok (.iadd, 1) := by decide +kernel
theorem d_Re_readTest_7 : decode mi_Re_readTest.2.1 7 = .ok (.putfield 19, 3) := by decide +kernel
theorem d_Re_readTest_10 : decode mi_Re_readTest.2.1 10 = .ok (.aload_n 0, 1) := by decide +kernel
theorem d_Re_readTest_11 : decode mi_Re_readTest.2.1 11 = .ok (.invokevirtual 107, 3) := by decide +kernel
theorem d_Re_readTest_14 : decode mi_Re_readTest.2.1 14 = .ok (.istore_n 2, 1) := by decide +kernel
theorem d_Re_readTest_15 : decode mi_Re_readTest.2.1 15 = .ok (.iload_n 2, 1) := by decide +kernel
theorem d_Re_readTest_16 : decode mi_Re_readTest.2.1 16 = .ok (.bipush 60, 2) := by decide +kernel
theorem d_Re_readTest_18 : decode mi_Re_readTest.2.1 18 = .ok (.if_icmp .eq 17, 3) := by decide +kernel
theorem d_Re_readTest_21 : decode mi_Re_readTest.2.1 21 = .ok (.iload_n 2, 1) := by decide +kernel
theorem d_Re_readTest_22 : decode mi_Re_readTest.2.1 22 = .ok (.bipush 61, 2) := by decide +kernel
theorem d_Re_readTest_24 : decode mi_Re_readTest.2.1 24 = .ok (.if_icmp .eq 11, 3) := by decide +kernel
theorem d_Re_readTest_27 : decode mi_Re_readTest.2.1 27 = .ok (.iload_n 2, 1) := by decide +kernel
theorem d_Re_readTest_28 : decode mi_Re_readTest.2.1 28 = .ok (.bipush 62, 2) := by decide +kernel
theorem d_Re_readTest_30 : decode mi_Re_readTest.2.1 30 = .ok (.if_icmp .eq 5, 3) := by decide +kernel
theorem d_Re_readTest_33 : decode mi_Re_readTest.2.1 33 = .ok (.iconst 0, 1) := by decide +kernel
theorem d_Re_readTest_34 : decode mi_Re_readTest.2.1 34 = .ok (.ireturn, 1) := by decide +kernel
theorem d_Re_readTest_35 : decode mi_Re_readTest.2.1 35 = .ok (.aload_n 0, 1) := by decide +kernel
theorem d_Re_readTest_36 : decode mi_Re_readTest.2.1 36 = .ok (.dup, 1) := by decide +kernel
theorem d_Re_readTest_37 : decode mi_Re_readTest.2.1 37 = .ok (.getfield 19, 3) := by decide +kernel
theorem d_Re_readTest_40 : decode mi_Re_readTest.2.1 40 = .ok (.iconst 1, 1) := by decide +kernel
theorem d_Re_readTest_41 : decode mi_Re_readTest.2.1 41 = .ok (.iadd, 1) := by decide +kernel
theorem d_Re_readTest_42 : decode mi_Re_readTest.2.1 42 = .ok (.putfield 19, 3) := by decide +kernel
theorem d_Re_readTest_45 : decode mi_Re_readTest.2.1 45 = .ok (.aload_n 0, 1) := by decide +kernel
theorem d_Re_readTest_46 : decode mi_Re_readTest.2.1 46 = .ok (.invokevirtual 111, 3) := by decide +kernel
theorem d_Re_readTest_49 : decode mi_Re_readTest.2.1 49 = .ok (.ifCond .ne 5, 3) := by decide +kernel
theorem d_Re_readTest_52 : decode mi_Re_readTest.2.1 52 = .ok (.iconst 0, 1) := by decide +kernel
theorem d_Re_readTest_53 : decode mi_Re_readTest.2.1 53 = .ok (.ireturn, 1) := by decide +kernel
theorem d_Re_readTest_54 : decode mi_Re_readTest.2.1 54 = .ok (.aload_n 0, 1) := by decide +kernel
theorem d_Re_readTest_55 : decode mi_Re_readTest.2.1 55 = .ok (.invokevirtual 107, 3) := by decide +kernel
theorem d_Re_readTest_58 : decode mi_Re_readTest.2.1 58 = .ok (.bipush 48, 2) := by decide +kernel
theorem d_Re_readTest_60 : decode mi_Re_readTest.2.1 60 = .ok (.isub, 1) := by decide +kernel
theorem d_Re_readTest_61 : decode mi_Re_readTest.2.1 61 = .ok (.istore_n 3, 1) := by decide +kernel
theorem d_Re_readTest_62 : decode mi_Re_readTest.2.1 62 = .ok (.aload_n 0, 1) := by decide +kernel
theorem d_Re_readTest_63 : decode mi_Re_readTest.2.1 63 = .ok (.dup, 1) := by decide +kernel
theorem d_Re_readTest_64 : decode mi_Re_readTest.2.1 64 = .ok (.getfield 19, 3) := by decide +kernel
theorem d_Re_readTest_67 : decode mi_Re_readTest.2.1 67 = .ok (.iconst 1, 1) := by decide +kernel
theorem d_Re_readTest_68 : decode mi_Re_readTest.2.1 68 = .ok (.iadd, 1) := by decide +kernel
theorem d_Re_readTest_69 : decode mi_Re_readTest.2.1 69 = .ok (.putfield 19, 3) := by decide +kernel
theorem d_Re_readTest_72 : decode mi_Re_readTest.2.1 72 = .ok (.aload_n 0, 1) := by decide +kernel
theorem d_Re_readTest_73 : decode mi_Re_readTest.2.1 73 = .ok (.iconst 5, 1) := by decide +kernel
theorem d_Re_readTest_74 : decode mi_Re_readTest.2.1 74 = .ok (.iload_n 1, 1) := by decide +kernel
theorem d_Re_readTest_75 : decode mi_Re_readTest.2.1 75 = .ok (.iload_n 3, 1) := by decide +kernel
theorem d_Re_readTest_76 : decode mi_Re_readTest.2.1 76 = .ok (.iload_n 2, 1) := by decide +kernel
theorem d_Re_readTest_77 : decode mi_Re_readTest.2.1 77 = .ok (.invokevirtual 97, 3) := by decide +kernel
theorem d_Re_readTest_80 : decode mi_Re_readTest.2.1 80 = .ok (.ireturn, 1) := by decide +kernel
theorem d_Re_letterHere_0 : decode mi_Re_letterHere.2.1 0 = .ok (.aload_n 0, 1) := by decide +kernel
theorem d_Re_letterHere_1 : decode mi_Re_letterHere.2.1 1 = .ok (.getfield 19, 3) := by decide +kernel
theorem d_Re_letterHere_4 : decode mi_Re_letterHere.2.1 4 = .ok (.ifCond .lt 26, 3) := by decide +kernel
theorem d_Re_letterHere_7 : decode mi_Re_letterHere.2.1 7 = .ok (.aload_n 0, 1) := by decide +kernel
theorem d_Re_letterHere_8 : decode mi_Re_letterHere.2.1 8 = .ok (.getfield 19, 3) := by decide +kernel
theorem d_Re_letterHere_11 : decode mi_Re_letterHere.2.1 11 = .ok (.aload_n 0, 1) := by decide +kernel
theorem d_Re_letterHere_12 : decode mi_Re_letterHere.2.1 12 = .ok (.getfield 15, 3) := by decide +kernel
theorem d_Re_letterHere_15 : decode mi_Re_letterHere.2.1 15 = .ok (.if_icmp .ge 15, 3) := by decide +kernel
theorem d_Re_letterHere_18 : decode mi_Re_letterHere.2.1 18 = .ok (.aload_n 0, 1) := by decide +kernel
theorem d_Re_letterHere_19 : decode mi_Re_letterHere.2.1 19 = .ok (.getfield 9, 3) := by decide +kernel
theorem d_Re_letterHere_22 : decode mi_Re_letterHere.2.1 22 = .ok (.aload_n 0, 1) := by decide +kernel
theorem d_Re_letterHere_23 : decode mi_Re_letterHere.2.1 23 = .ok (.getfield 19, 3) := by decide +kernel
theorem d_Re_letterHere_26 : decode mi_Re_letterHere.2.1 26 = .ok (.iaload, 1) := by decide +kernel
theorem d_Re_letterHere_27 : decode mi_Re_letterHere.2.1 27 = .ok (.goto 4, 3) := by decide +kernel
theorem d_Re_letterHere_30 : decode mi_Re_letterHere.2.1 30 = .ok (.iconst (-1), 1) := by decide +kernel
theorem d_Re_letterHere_31 : decode mi_Re_letterHere.2.1 31 = .ok (.ireturn, 1) := by decide +kernel
theorem d_Re_isDigitHere_0 : decode mi_Re_isDigitHere.2.1 0 = .ok (.aload_n 0, 1) := by decide +kernel
theorem d_Re_isDigitHere_1 : decode mi_Re_isDigitHere.2.1 1 = .ok (.getfield 19, 3) := by decide +kernel
theorem d_Re_isDigitHere_4 : decode mi_Re_isDigitHere.2.1 4 = .ok (.ifCond .lt 46, 3) := by decide +kernel
theorem d_Re_isDigitHere_7 : decode mi_Re_isDigitHere.2.1 7 = .ok (.aload_n 0, 1) := by decide +kernel
theorem d_Re_isDigitHere_8 : decode mi_Re_isDigitHere.2.1 8 = .ok (.getfield 19, 3) := by decide +kernel
theorem d_Re_isDigitHere_11 : decode mi_Re_isDigitHere.2.1 11 = .ok (.aload_n 0, 1) := by decide +kernel
theorem d_Re_isDigitHere_12 : decode mi_Re_isDigitHere.2.1 12 = .ok (.getfield 15, 3) := by decide +kernel
theorem d_Re_isDigitHere_15 : decode mi_Re_isDigitHere.2.1 15 = .ok (.if_icmp .ge 35, 3) := by decide +kernel
theorem d_Re_isDigitHere_18 : decode mi_Re_isDigitHere.2.1 18 = .ok (.aload_n 0, 1) := by decide +kernel
theorem d_Re_isDigitHere_19 : decode mi_Re_isDigitHere.2.1 19 = .ok (.getfield 9, 3) := by decide +kernel
theorem d_Re_isDigitHere_22 : decode mi_Re_isDigitHere.2.1 22 = .ok (.aload_n 0, 1) := by decide +kernel
theorem d_Re_isDigitHere_23 : decode mi_Re_isDigitHere.2.1 23 = .ok (.getfield 19, 3) := by decide +kernel
theorem d_Re_isDigitHere_26 : decode mi_Re_isDigitHere.2.1 26 = .ok (.iaload, 1) := by decide +kernel
theorem d_Re_isDigitHere_27 : decode mi_Re_isDigitHere.2.1 27 = .ok (.bipush 48, 2) := by decide +kernel
theorem d_Re_isDigitHere_29 : decode mi_Re_isDigitHere.2.1 29 = .ok (.if_icmp .lt 21, 3) := by decide +kernel
theorem d_Re_isDigitHere_32 : decode mi_Re_isDigitHere.2.1 32 = .ok (.aload_n 0, 1) := by decide +kernel
theorem d_Re_isDigitHere_33 : decode mi_Re_isDigitHere.2.1 33 = .ok (.getfield 9, 3) := by decide +kernel
theorem d_Re_isDigitHere_36 : decode mi_Re_isDigitHere.2.1 36 = .ok (.aload_n 0, 1) := by decide +kernel
theorem d_Re_isDigitHere_37 : decode mi_Re_isDigitHere.2.1 37 = .ok (.getfield 19, 3) := by decide +kernel
theorem d_Re_isDigitHere_40 : decode mi_Re_isDigitHere.2.1 40 = .ok (.iaload, 1) := by decide +kernel
theorem d_Re_isDigitHere_41 : decode mi_Re_isDigitHere.2.1 41 = .ok (.bipush 57, 2) := by decide +kernel
theorem d_Re_isDigitHere_43 : decode mi_Re_isDigitHere.2.1 43 = .ok (.if_icmp .gt 7, 3) := by decide +kernel
theorem d_Re_isDigitHere_46 : decode mi_Re_isDigitHere.2.1 46 = .ok (.iconst 1, 1) := by decide +kernel
theorem d_Re_isDigitHere_47 : decode mi_Re_isDigitHere.2.1 47 = .ok (.goto 4, 3) := by decide +kernel
theorem d_Re_isDigitHere_50 : decode mi_Re_isDigitHere.2.1 50 = .ok (.iconst 0, 1) := by decide +kernel
theorem d_Re_isDigitHere_51 : decode mi_Re_isDigitHere.2.1 51 = .ok (.ireturn, 1) := by decide +kernel
theorem d_Re_readKeys_0 : decode mi_Re_readKeys.2.1 0 = .ok (.aload_n 0, 1) := by decide +kernel
theorem d_Re_readKeys_1 : decode mi_Re_readKeys.2.1 1 = .ok (.dup, 1) := by decide +kernel
theorem d_Re_readKeys_2 : decode mi_Re_readKeys.2.1 2 = .ok (.getfield 19, 3) := by decide +kernel
theorem d_Re_readKeys_5 : decode mi_Re_readKeys.2.1 5 = .ok (.iconst 1, 1) := by decide +kernel
theorem d_Re_readKeys_6 : decode mi_Re_readKeys.2.1 6 = .ok (.iadd, 1) := by decide +kernel
theorem d_Re_readKeys_7 : decode mi_Re_readKeys.2.1 7 = .ok (.putfield 19, 3) := by decide +kernel
theorem d_Re_readKeys_10 : decode mi_Re_readKeys.2.1 10 = .ok (.aload_n 0, 1) := by decide +kernel
theorem d_Re_readKeys_11 : decode mi_Re_readKeys.2.1 11 = .ok (.bipush 6, 2) := by decide +kernel
theorem d_Re_readKeys_13 : decode mi_Re_readKeys.2.1 13 = .ok (.iconst 0, 1) := by decide +kernel
theorem d_Re_readKeys_14 : decode mi_Re_readKeys.2.1 14 = .ok (.ldc 114, 2) := by decide +kernel
theorem d_Re_readKeys_16 : decode mi_Re_readKeys.2.1 16 = .ok (.invokevirtual 115, 3) := by decide +kernel
theorem d_Re_readKeys_19 : decode mi_Re_readKeys.2.1 19 = .ok (.istore_n 1, 1) := by decide +kernel
theorem d_Re_readKeys_20 : decode mi_Re_readKeys.2.1 20 = .ok (.iload_n 1, 1) := by decide +kernel
theorem d_Re_readKeys_21 : decode mi_Re_readKeys.2.1 21 = .ok (.iconst (-1), 1) := by decide +kernel
theorem d_Re_readKeys_22 : decode mi_Re_readKeys.2.1 22 = .ok (.if_icmp .eq 12, 3) := by decide +kernel
theorem d_Re_readKeys_25 : decode mi_Re_readKeys.2.1 25 = .ok (.aload_n 0, 1) := by decide +kernel
theorem d_Re_readKeys_26 : decode mi_Re_readKeys.2.1 26 = .ok (.invokevirtual 107, 3) := by decide +kernel
theorem d_Re_readKeys_29 : decode mi_Re_readKeys.2.1 29 = .ok (.bipush 45, 2) := by decide +kernel
theorem d_Re_readKeys_31 : decode mi_Re_readKeys.2.1 31 = .ok (.if_icmp .eq 5, 3) := by decide +kernel
theorem d_Re_readKeys_34 : decode mi_Re_readKeys.2.1 34 = .ok (.iconst 0, 1) := by decide +kernel
theorem d_Re_readKeys_35 : decode mi_Re_readKeys.2.1 35 = .ok (.ireturn, 1) := by decide +kernel
theorem d_Re_readKeys_36 : decode mi_Re_readKeys.2.1 36 = .ok (.aload_n 0, 1) := by decide +kernel
theorem d_Re_readKeys_37 : decode mi_Re_readKeys.2.1 37 = .ok (.dup, 1) := by decide +kernel
theorem d_Re_readKeys_38 : decode mi_Re_readKeys.2.1 38 = .ok (.getfield 19, 3) := by decide +kernel
theorem d_Re_readKeys_41 : decode mi_Re_readKeys.2.1 41 = .ok (.iconst 1, 1) := by decide +kernel
theorem d_Re_readKeys_42 : decode mi_Re_readKeys.2.1 42 = .ok (.iadd, 1) := by decide +kernel
theorem d_Re_readKeys_43 : decode mi_Re_readKeys.2.1 43 = .ok (.putfield 19, 3) := by decide +kernel
theorem d_Re_readKeys_46 : decode mi_Re_readKeys.2.1 46 = .ok (.aload_n 0, 1) := by decide +kernel
theorem d_Re_readKeys_47 : decode mi_Re_readKeys.2.1 47 = .ok (.bipush 6, 2) := by decide +kernel
theorem d_Re_readKeys_49 : decode mi_Re_readKeys.2.1 49 = .ok (.iload_n 1, 1) := by decide +kernel
theorem d_Re_readKeys_50 : decode mi_Re_readKeys.2.1 50 = .ok (.ldc 114, 2) := by decide +kernel
theorem d_Re_readKeys_52 : decode mi_Re_readKeys.2.1 52 = .ok (.invokevirtual 115, 3) := by decide +kernel
theorem d_Re_readKeys_55 : decode mi_Re_readKeys.2.1 55 = .ok (.istore_n 2, 1) := by decide +kernel
theorem d_Re_readKeys_56 : decode mi_Re_readKeys.2.1 56 = .ok (.iload_n 2, 1) := by decide +kernel
theorem d_Re_readKeys_57 : decode mi_Re_readKeys.2.1 57 = .ok (.iconst (-1), 1) := by decide +kernel
theorem d_Re_readKeys_58 : decode mi_Re_readKeys.2.1 58 = .ok (.if_icmp .eq 19, 3) := by decide +kernel
theorem d_Re_readKeys_61 : decode mi_Re_readKeys.2.1 61 = .ok (.aload_n 0, 1) := by decide +kernel
theorem d_Re_readKeys_62 : decode mi_Re_readKeys.2.1 62 = .ok (.bipush 6, 2) := by decide +kernel
theorem d_Re_readKeys_64 : decode mi_Re_readKeys.2.1 64 = .ok (.iload_n 1, 1) := by decide +kernel
theorem d_Re_readKeys_65 : decode mi_Re_readKeys.2.1 65 = .ok (.iload_n 2, 1) := by decide +kernel
theorem d_Re_readKeys_66 : decode mi_Re_readKeys.2.1 66 = .ok (.iconst 0, 1) := by decide +kernel
theorem d_Re_readKeys_67 : decode mi_Re_readKeys.2.1 67 = .ok (.invokevirtual 97, 3) := by decide +kernel
theorem d_Re_readKeys_70 : decode mi_Re_readKeys.2.1 70 = .ok (.ifCond .eq 7, 3) := by decide +kernel
theorem d_Re_readKeys_73 : decode mi_Re_readKeys.2.1 73 = .ok (.iconst 1, 1) := by decide +kernel
theorem d_Re_readKeys_74 : decode mi_Re_readKeys.2.1 74 = .ok (.goto 4, 3) := by decide +kernel
theorem d_Re_readKeys_77 : decode mi_Re_readKeys.2.1 77 = .ok (.iconst 0, 1) := by decide +kernel
theorem d_Re_readKeys_78 : decode mi_Re_readKeys.2.1 78 = .ok (.ireturn, 1) := by decide +kernel
theorem d_Re_readNumber_0 : decode mi_Re_readNumber.2.1 0 = .ok (.aload_n 0, 1) := by decide +kernel
theorem d_Re_readNumber_1 : decode mi_Re_readNumber.2.1 1 = .ok (.getfield 19, 3) := by decide +kernel
theorem d_Re_readNumber_4 : decode mi_Re_readNumber.2.1 4 = .ok (.istore 4, 2) := by decide +kernel
theorem d_Re_readNumber_6 : decode mi_Re_readNumber.2.1 6 = .ok (.iconst 0, 1) := by decide +kernel
theorem d_Re_readNumber_7 : decode mi_Re_readNumber.2.1 7 = .ok (.istore 5, 2) := by decide +kernel
theorem d_Re_readNumber_9 : decode mi_Re_readNumber.2.1 9 = .ok (.iconst 0, 1) := by decide +kernel
theorem d_Re_readNumber_10 : decode mi_Re_readNumber.2.1 10 = .ok (.istore 6, 2) := by decide +kernel
theorem d_Re_readNumber_12 : decode mi_Re_readNumber.2.1 12 = .ok (.iload 6, 2) := by decide +kernel
theorem d_Re_readNumber_14 : decode mi_Re_readNumber.2.1 14 = .ok (.iload_n 1, 1) := by decide +kernel
theorem d_Re_readNumber_15 : decode mi_Re_readNumber.2.1 15 = .ok (.if_icmp .ge 41, 3) := by decide +kernel
theorem d_Re_readNumber_18 : decode mi_Re_readNumber.2.1 18 = .ok (.aload_n 0, 1) := by decide +kernel
theorem d_Re_readNumber_19 : decode mi_Re_readNumber.2.1 19 = .ok (.invokevirtual 111, 3) := by decide +kernel
theorem d_Re_readNumber_22 : decode mi_Re_readNumber.2.1 22 = .ok (.ifCond .eq 34, 3) := by decide +kernel
theorem d_Re_readNumber_25 : decode mi_Re_readNumber.2.1 25 = .ok (.bipush 10, 2) := by decide +kernel
theorem d_Re_readNumber_27 : decode mi_Re_readNumber.2.1 27 = .ok (.iload 5, 2) := by decide +kernel
theorem d_Re_readNumber_29 : decode mi_Re_readNumber.2.1 29 = .ok (.imul, 1) := by decide +kernel
theorem d_Re_readNumber_30 : decode mi_Re_readNumber.2.1 30 = .ok (.aload_n 0, 1) := by decide +kernel
theorem d_Re_readNumber_31 : decode mi_Re_readNumber.2.1 31 = .ok (.invokevirtual 107, 3) := by decide +kernel
theorem d_Re_readNumber_34 : decode mi_Re_readNumber.2.1 34 = .ok (.iadd, 1) := by decide +kernel
theorem d_Re_readNumber_35 : decode mi_Re_readNumber.2.1 35 = .ok (.bipush 48, 2) := by decide +kernel
theorem d_Re_readNumber_37 : decode mi_Re_readNumber.2.1 37 = .ok (.isub, 1) := by decide +kernel
theorem d_Re_readNumber_38 : decode mi_Re_readNumber.2.1 38 = .ok (.istore 5, 2) := by decide +kernel
theorem d_Re_readNumber_40 : decode mi_Re_readNumber.2.1 40 = .ok (.aload_n 0, 1) := by decide +kernel
theorem d_Re_readNumber_41 : decode mi_Re_readNumber.2.1 41 = .ok (.dup, 1) := by decide +kernel
theorem d_Re_readNumber_42 : decode mi_Re_readNumber.2.1 42 = .ok (.getfield 19, 3) := by decide +kernel
theorem d_Re_readNumber_45 : decode mi_Re_readNumber.2.1 45 = .ok (.iconst 1, 1) := by decide +kernel
theorem d_Re_readNumber_46 : decode mi_Re_readNumber.2.1 46 = .ok (.iadd, 1) := by decide +kernel
theorem d_Re_readNumber_47 : decode mi_Re_readNumber.2.1 47 = .ok (.putfield 19, 3) := by decide +kernel
theorem d_Re_readNumber_50 : decode mi_Re_readNumber.2.1 50 = .ok (.iinc 6 1, 3) := by decide +kernel
theorem d_Re_readNumber_53 : decode mi_Re_readNumber.2.1 53 = .ok (.goto (-41), 3) := by decide +kernel
theorem d_Re_readNumber_56 : decode mi_Re_readNumber.2.1 56 = .ok (.aload_n 0, 1) := by decide +kernel
theorem d_Re_readNumber_57 : decode mi_Re_readNumber.2.1 57 = .ok (.getfield 19, 3) := by decide +kernel
theorem d_Re_readNumber_60 : decode mi_Re_readNumber.2.1 60 = .ok (.iload 4, 2) := by decide +kernel
theorem d_Re_readNumber_62 : decode mi_Re_readNumber.2.1 62 = .ok (.if_icmp .eq 15, 3) := by decide +kernel
theorem d_Re_readNumber_65 : decode mi_Re_readNumber.2.1 65 = .ok (.iload 5, 2) := by decide +kernel
theorem d_Re_readNumber_67 : decode mi_Re_readNumber.2.1 67 = .ok (.iload_n 2, 1) := by decide +kernel
theorem d_Re_readNumber_68 : decode mi_Re_readNumber.2.1 68 = .ok (.if_icmp .lt 9, 3) := by decide +kernel
theorem d_Re_readNumber_71 : decode mi_Re_readNumber.2.1 71 = .ok (.iload 5, 2) := by decide +kernel
theorem d_Re_readNumber_73 : decode mi_Re_readNumber.2.1 73 = .ok (.iload_n 3, 1) := by decide +kernel
theorem d_Re_readNumber_74 : decode mi_Re_readNumber.2.1 74 = .ok (.if_icmp .le 11, 3) := by decide +kernel
theorem d_Re_readNumber_77 : decode mi_Re_readNumber.2.1 77 = .ok (.aload_n 0, 1) := by decide +kernel
theorem d_Re_readNumber_78 : decode mi_Re_readNumber.2.1 78 = .ok (.iload 4, 2) := by decide +kernel
theorem d_Re_readNumber_80 : decode mi_Re_readNumber.2.1 80 = .ok (.putfield 19, 3) := by decide +kernel
theorem d_Re_readNumber_83 : decode mi_Re_readNumber.2.1 83 = .ok (.iconst (-1), 1) := by decide +kernel
theorem d_Re_readNumber_84 : decode mi_Re_readNumber.2.1 84 = .ok (.ireturn, 1) := by decide +kernel
theorem d_Re_readNumber_85 : decode mi_Re_readNumber.2.1 85 = .ok (.iload 5, 2) := by decide +kernel
theorem d_Re_readNumber_87 : decode mi_Re_readNumber.2.1 87 = .ok (.ireturn, 1) := by decide +kernel
theorem d_Re_readOperator_0 : decode mi_Re_readOperator.2.1 0 = .ok (.iload_n 1, 1) := by decide +kernel
theorem d_Re_readOperator_1 : decode mi_Re_readOperator.2.1 1 = .ok (.bipush 38, 2) := by decide +kernel
theorem d_Re_readOperator_3 : decode mi_Re_readOperator.2.1 3 = .ok (.if_icmp .eq 9, 3) := by decide +kernel
theorem d_Re_readOperator_6 : decode mi_Re_readOperator.2.1 6 = .ok (.iload_n 1, 1) := by decide +kernel
theorem d_Re_readOperator_7 : decode mi_Re_readOperator.2.1 7 = .ok (.bipush 124, 2) := by decide +kernel
theorem d_Re_readOperator_9 : decode mi_Re_readOperator.2.1 9 = .ok (.if_icmp .ne 39, 3) := by decide +kernel
theorem d_Re_readOperator_12 : decode mi_Re_readOperator.2.1 12 = .ok (.aload_n 0, 1) := by decide +kernel
theorem d_Re_readOperator_13 : decode mi_Re_readOperator.2.1 13 = .ok (.iload_n 1, 1) := by decide +kernel
theorem d_Re_readOperator_14 : decode mi_Re_readOperator.2.1 14 = .ok (.bipush 124, 2) := by decide +kernel
theorem d_Re_readOperator_16 : decode mi_Re_readOperator.2.1 16 = .ok (.if_icmp .ne 7, 3) := by decide +kernel
theorem d_Re_readOperator_19 : decode mi_Re_readOperator.2.1 19 = .ok (.iconst 1, 1) := by decide +kernel
theorem d_Re_readOperator_20 : decode mi_Re_readOperator.2.1 20 = .ok (.goto 4, 3) := by decide +kernel
theorem d_Re_readOperator_23 : decode mi_Re_readOperator.2.1 23 = .ok (.iconst 0, 1) := by decide +kernel
theorem d_Re_readOperator_24 : decode mi_Re_readOperator.2.1 24 = .ok (.invokevirtual 81, 3) := by decide +kernel
theorem d_Re_readOperator_27 : decode mi_Re_readOperator.2.1 27 = .ok (.aload_n 0, 1) := by decide +kernel
theorem d_Re_readOperator_28 : decode mi_Re_readOperator.2.1 28 = .ok (.iconst 1, 1) := by decide +kernel
theorem d_Re_readOperator_29 : decode mi_Re_readOperator.2.1 29 = .ok (.putfield 58, 3) := by decide +kernel
theorem d_Re_readOperator_32 : decode mi_Re_readOperator.2.1 32 = .ok (.aload_n 0, 1) := by decide +kernel
theorem d_Re_readOperator_33 : decode mi_Re_readOperator.2.1 33 = .ok (.dup, 1) := by decide +kernel
theorem d_Re_readOperator_34 : decode mi_Re_readOperator.2.1 34 = .ok (.getfield 19, 3) := by decide +kernel
theorem d_Re_readOperator_37 : decode mi_Re_readOperator.2.1 37 = .ok (.iconst 1, 1) := by decide +kernel
theorem d_Re_readOperator_38 : decode mi_Re_readOperator.2.1 38 = .ok (.iadd, 1) := by decide +kernel
theorem d_Re_readOperator_39 : decode mi_Re_readOperator.2.1 39 = .ok (.putfield 19, 3) := by decide +kernel
theorem d_Re_readOperator_42 : decode mi_Re_readOperator.2.1 42 = .ok (.aload_n 0, 1) := by decide +kernel
theorem d_Re_readOperator_43 : decode mi_Re_readOperator.2.1 43 = .ok (.iload_n 1, 1) := by decide +kernel
theorem d_Re_readOperator_44 : decode mi_Re_readOperator.2.1 44 = .ok (.invokevirtual 94, 3) := by decide +kernel
theorem d_Re_readOperator_47 : decode mi_Re_readOperator.2.1 47 = .ok (.ireturn, 1) := by decide +kernel
theorem d_Re_readOperator_48 : decode mi_Re_readOperator.2.1 48 = .ok (.iload_n 1, 1) := by decide +kernel
theorem d_Re_readOperator_49 : decode mi_Re_readOperator.2.1 49 = .ok (.bipush 41, 2) := by decide +kernel
theorem d_Re_readOperator_51 : decode mi_Re_readOperator.2.1 51 = .ok (.if_icmp .ne 10, 3) := by decide +kernel
theorem d_Re_readOperator_54 : decode mi_Re_readOperator.2.1 54 = .ok (.aload_n 0, 1) := by decide +kernel
theorem d_Re_readOperator_55 : decode mi_Re_readOperator.2.1 55 = .ok (.getfield 55, 3) := by decide +kernel
theorem d_Re_readOperator_58 : decode mi_Re_readOperator.2.1 58 = .ok (.ifCond .ne 5, 3) := by decide +kernel
theorem d_Re_readOperator_61 : decode mi_Re_readOperator.2.1 61 = .ok (.iconst 0, 1) := by decide +kernel
theorem d_Re_readOperator_62 : decode mi_Re_readOperator.2.1 62 = .ok (.ireturn, 1) := by decide +kernel
theorem d_Re_readOperator_63 : decode mi_Re_readOperator.2.1 63 = .ok (.aload_n 0, 1) := by decide +kernel
theorem d_Re_readOperator_64 : decode mi_Re_readOperator.2.1 64 = .ok (.iconst 1, 1) := by decide +kernel
theorem d_Re_readOperator_65 : decode mi_Re_readOperator.2.1 65 = .ok (.invokevirtual 81, 3) := by decide +kernel
theorem d_Re_readOperator_68 : decode mi_Re_readOperator.2.1 68 = .ok (.aload_n 0, 1) := by decide +kernel
theorem d_Re_readOperator_69 : decode mi_Re_readOperator.2.1 69 = .ok (.iconst 0, 1) := by decide +kernel
theorem d_Re_readOperator_70 : decode mi_Re_readOperator.2.1 70 = .ok (.aload_n 0, 1) := by decide +kernel
theorem d_Re_readOperator_71 : decode mi_Re_readOperator.2.1 71 = .ok (.getfield 52, 3) := by decide +kernel
theorem d_Re_readOperator_74 : decode mi_Re_readOperator.2.1 74 = .ok (.iconst 1, 1) := by decide +kernel
theorem d_Re_readOperator_75 : decode mi_Re_readOperator.2.1 75 = .ok (.isub, 1) := by decide +kernel
theorem d_Re_readOperator_76 : decode mi_Re_readOperator.2.1 76 = .ok (.invokestatic 119, 3) := by decide +kernel
theorem d_Re_readOperator_79 : decode mi_Re_readOperator.2.1 79 = .ok (.putfield 52, 3) := by decide +kernel
theorem d_Re_readOperator_82 : decode mi_Re_readOperator.2.1 82 = .ok (.aload_n 0, 1) := by decide +kernel
theorem d_Re_readOperator_83 : decode mi_Re_readOperator.2.1 83 = .ok (.dup, 1) := by decide +kernel
theorem d_Re_readOperator_84 : decode mi_Re_readOperator.2.1 84 = .ok (.getfield 55, 3) := by decide +kernel
theorem d_Re_readOperator_87 : decode mi_Re_readOperator.2.1 87 = .ok (.iconst 1, 1) := by decide +kernel
theorem d_Re_readOperator_88 : decode mi_Re_readOperator.2.1 88 = .ok (.isub, 1) := by decide +kernel
theorem d_Re_readOperator_89 : decode mi_Re_readOperator.2.1 89 = .ok (.putfield 55, 3) := by decide +kernel
theorem d_Re_readOperator_92 : decode mi_Re_readOperator.2.1 92 = .ok (.aload_n 0, 1) := by decide +kernel
theorem d_Re_readOperator_93 : decode mi_Re_readOperator.2.1 93 = .ok (.dup, 1) := by decide +kernel
theorem d_Re_readOperator_94 : decode mi_Re_readOperator.2.1 94 = .ok (.getfield 19, 3) := by decide +kernel
theorem d_Re_readOperator_97 : decode mi_Re_readOperator.2.1 97 = .ok (.iconst 1, 1) := by decide +kernel
theorem d_Re_readOperator_98 : decode mi_Re_readOperator.2.1 98 = .ok (.iadd, 1) := by decide +kernel
theorem d_Re_readOperator_99 : decode mi_Re_readOperator.2.1 99 = .ok (.putfield 19, 3) := by decide +kernel
theorem d_Re_readOperator_102 : decode mi_Re_readOperator.2.1 102 = .ok (.iconst 1, 1) := by decide +kernel
theorem d_Re_readOperator_103 : decode mi_Re_readOperator.2.1 103 = .ok (.ireturn, 1) := by decide +kernel
theorem d_Re_negate_0 : decode mi_Re_negate.2.1 0 = .ok (.aload_n 0, 1) := by decide +kernel
theorem d_Re_negate_1 : decode mi_Re_negate.2.1 1 = .ok (.getfield 52, 3) := by decide +kernel
theorem d_Re_negate_4 : decode mi_Re_negate.2.1 4 = .ok (.ifCond .le 43, 3) := by decide +kernel
theorem d_Re_negate_7 : decode mi_Re_negate.2.1 7 = .ok (.aload_n 0, 1) := by decide +kernel
theorem d_Re_negate_8 : decode mi_Re_negate.2.1 8 = .ok (.getfield 49, 3) := by decide +kernel
theorem d_Re_negate_11 : decode mi_Re_negate.2.1 11 = .ok (.aload_n 0, 1) := by decide +kernel
theorem d_Re_negate_12 : decode mi_Re_negate.2.1 12 = .ok (.getfield 52, 3) := by decide +kernel
theorem d_Re_negate_15 : decode mi_Re_negate.2.1 15 = .ok (.iconst 1, 1) := by decide +kernel
theorem d_Re_negate_16 : decode mi_Re_negate.2.1 16 = .ok (.isub, 1) := by decide +kernel
theorem d_Re_negate_17 : decode mi_Re_negate.2.1 17 = .ok (.iaload, 1) := by decide +kernel
theorem d_Re_negate_18 : decode mi_Re_negate.2.1 18 = .ok (.bipush 33, 2) := by decide +kernel
theorem d_Re_negate_20 : decode mi_Re_negate.2.1 20 = .ok (.if_icmp .ne 27, 3) := by decide +kernel
theorem d_Re_negate_23 : decode mi_Re_negate.2.1 23 = .ok (.aload_n 0, 1) := by decide +kernel
theorem d_Re_negate_24 : decode mi_Re_negate.2.1 24 = .ok (.iconst 3, 1) := by decide +kernel
theorem d_Re_negate_25 : decode mi_Re_negate.2.1 25 = .ok (.aload_n 0, 1) := by decide +kernel
theorem d_Re_negate_26 : decode mi_Re_negate.2.1 26 = .ok (.invokevirtual 138, 3) := by decide +kernel
theorem d_Re_negate_29 : decode mi_Re_negate.2.1 29 = .ok (.iconst (-1), 1) := by decide +kernel
theorem d_Re_negate_30 : decode mi_Re_negate.2.1 30 = .ok (.iconst 0, 1) := by decide +kernel
theorem d_Re_negate_31 : decode mi_Re_negate.2.1 31 = .ok (.invokevirtual 134, 3) := by decide +kernel
theorem d_Re_negate_34 : decode mi_Re_negate.2.1 34 = .ok (.aload_n 0, 1) := by decide +kernel
theorem d_Re_negate_35 : decode mi_Re_negate.2.1 35 = .ok (.dup, 1) := by decide +kernel
theorem d_Re_negate_36 : decode mi_Re_negate.2.1 36 = .ok (.getfield 52, 3) := by decide +kernel
theorem d_Re_negate_39 : decode mi_Re_negate.2.1 39 = .ok (.iconst 1, 1) := by decide +kernel
theorem d_Re_negate_40 : decode mi_Re_negate.2.1 40 = .ok (.isub, 1) := by decide +kernel
theorem d_Re_negate_41 : decode mi_Re_negate.2.1 41 = .ok (.putfield 52, 3) := by decide +kernel
theorem d_Re_negate_44 : decode mi_Re_negate.2.1 44 = .ok (.goto (-44), 3) := by decide +kernel
theorem d_Re_negate_47 : decode mi_Re_negate.2.1 47 = .ok (.return_, 1) := by decide +kernel
theorem d_Re_readAnswer_0 : decode mi_Re_readAnswer.2.1 0 = .ok (.aload_n 0, 1) := by decide +kernel
theorem d_Re_readAnswer_1 : decode mi_Re_readAnswer.2.1 1 = .ok (.invokevirtual 107, 3) := by decide +kernel
theorem d_Re_readAnswer_4 : decode mi_Re_readAnswer.2.1 4 = .ok (.bipush 58, 2) := by decide +kernel
theorem d_Re_readAnswer_6 : decode mi_Re_readAnswer.2.1 6 = .ok (.if_icmp .ne 7, 3) := by decide +kernel
theorem d_Re_readAnswer_9 : decode mi_Re_readAnswer.2.1 9 = .ok (.iconst 1, 1) := by decide +kernel
theorem d_Re_readAnswer_10 : decode mi_Re_readAnswer.2.1 10 = .ok (.goto 4, 3) := by decide +kernel
theorem d_Re_readAnswer_13 : decode mi_Re_readAnswer.2.1 13 = .ok (.iconst 0, 1) := by decide +kernel
theorem d_Re_readAnswer_14 : decode mi_Re_readAnswer.2.1 14 = .ok (.istore_n 2, 1) := by decide +kernel
theorem d_Re_readAnswer_15 : decode mi_Re_readAnswer.2.1 15 = .ok (.aload_n 0, 1) := by decide +kernel
theorem d_Re_readAnswer_16 : decode mi_Re_readAnswer.2.1 16 = .ok (.dup, 1) := by decide +kernel
theorem d_Re_readAnswer_17 : decode mi_Re_readAnswer.2.1 17 = .ok (.getfield 19, 3) := by decide +kernel
theorem d_Re_readAnswer_20 : decode mi_Re_readAnswer.2.1 20 = .ok (.iconst 1, 1) := by decide +kernel
theorem d_Re_readAnswer_21 : decode mi_Re_readAnswer.2.1 21 = .ok (.iadd, 1) := by decide +kernel
theorem d_Re_readAnswer_22 : decode mi_Re_readAnswer.2.1 22 = .ok (.putfield 19, 3) := by decide +kernel
theorem d_Re_readAnswer_25 : decode mi_Re_readAnswer.2.1 25 = .ok (.iload_n 2, 1) := by decide +kernel
theorem d_Re_readAnswer_26 : decode mi_Re_readAnswer.2.1 26 = .ok (.ifCond .eq 11, 3) := by decide +kernel
theorem d_Re_readAnswer_29 : decode mi_Re_readAnswer.2.1 29 = .ok (.aload_n 0, 1) := by decide +kernel
theorem d_Re_readAnswer_30 : decode mi_Re_readAnswer.2.1 30 = .ok (.iload_n 1, 1) := by decide +kernel
theorem d_Re_readAnswer_31 : decode mi_Re_readAnswer.2.1 31 = .ok (.invokevirtual 122, 3) := by decide +kernel
theorem d_Re_readAnswer_34 : decode mi_Re_readAnswer.2.1 34 = .ok (.goto 8, 3) := by decide +kernel
theorem d_Re_readAnswer_37 : decode mi_Re_readAnswer.2.1 37 = .ok (.aload_n 0, 1) := by decide +kernel
theorem d_Re_readAnswer_38 : decode mi_Re_readAnswer.2.1 38 = .ok (.iload_n 1, 1) := by decide +kernel
theorem d_Re_readAnswer_39 : decode mi_Re_readAnswer.2.1 39 = .ok (.invokevirtual 125, 3) := by decide +kernel
theorem d_Re_readAnswer_42 : decode mi_Re_readAnswer.2.1 42 = .ok (.ireturn, 1) := by decide +kernel
theorem d_Re_readFixed_0 : decode mi_Re_readFixed.2.1 0 = .ok (.aload_n 0, 1) := by decide +kernel
theorem d_Re_readFixed_1 : decode mi_Re_readFixed.2.1 1 = .ok (.getfield 25, 3) := by decide +kernel
theorem d_Re_readFixed_4 : decode mi_Re_readFixed.2.1 4 = .ok (.iconst 0, 1) := by decide +kernel
theorem d_Re_readFixed_5 : decode mi_Re_readFixed.2.1 5 = .ok (.invokestatic 128, 3) := by decide +kernel
theorem d_Re_readFixed_8 : decode mi_Re_readFixed.2.1 8 = .ok (.aload_n 0, 1) := by decide +kernel
theorem d_Re_readFixed_9 : decode mi_Re_readFixed.2.1 9 = .ok (.invokevirtual 111, 3) := by decide +kernel
theorem d_Re_readFixed_12 : decode mi_Re_readFixed.2.1 12 = .ok (.ifCond .eq 14, 3) := by decide +kernel
theorem d_Re_readFixed_15 : decode mi_Re_readFixed.2.1 15 = .ok (.aload_n 0, 1) := by decide +kernel
theorem d_Re_readFixed_16 : decode mi_Re_readFixed.2.1 16 = .ok (.invokevirtual 107, 3) := by decide +kernel
theorem d_Re_readFixed_19 : decode mi_Re_readFixed.2.1 19 = .ok (.bipush 48, 2) := by decide +kernel
theorem d_Re_readFixed_21 : decode mi_Re_readFixed.2.1 21 = .ok (.isub, 1) := by decide +kernel
theorem d_Re_readFixed_22 : decode mi_Re_readFixed.2.1 22 = .ok (.iload_n 1, 1) := by decide +kernel
theorem d_Re_readFixed_23 : decode mi_Re_readFixed.2.1 23 = .ok (.if_icmp .le 5, 3) := by decide +kernel
theorem d_Re_readFixed_26 : decode mi_Re_readFixed.2.1 26 = .ok (.iconst 0, 1) := by decide +kernel
theorem d_Re_readFixed_27 : decode mi_Re_readFixed.2.1 27 = .ok (.ireturn, 1) := by decide +kernel
theorem d_Re_readFixed_28 : decode mi_Re_readFixed.2.1 28 = .ok (.aload_n 0, 1) := by decide +kernel
theorem d_Re_readFixed_29 : decode mi_Re_readFixed.2.1 29 = .ok (.aload_n 0, 1) := by decide +kernel
theorem d_Re_readFixed_30 : decode mi_Re_readFixed.2.1 30 = .ok (.invokevirtual 107, 3) := by decide +kernel
theorem d_Re_readFixed_33 : decode mi_Re_readFixed.2.1 33 = .ok (.bipush 48, 2) := by decide +kernel
theorem d_Re_readFixed_35 : decode mi_Re_readFixed.2.1 35 = .ok (.isub, 1) := by decide +kernel
theorem d_Re_readFixed_36 : decode mi_Re_readFixed.2.1 36 = .ok (.putfield 22, 3) := by decide +kernel
theorem d_Re_readFixed_39 : decode mi_Re_readFixed.2.1 39 = .ok (.aload_n 0, 1) := by decide +kernel
theorem d_Re_readFixed_40 : decode mi_Re_readFixed.2.1 40 = .ok (.dup, 1) := by decide +kernel
theorem d_Re_readFixed_41 : decode mi_Re_readFixed.2.1 41 = .ok (.getfield 19, 3) := by decide +kernel
theorem d_Re_readFixed_44 : decode mi_Re_readFixed.2.1 44 = .ok (.iconst 1, 1) := by decide +kernel
theorem d_Re_readFixed_45 : decode mi_Re_readFixed.2.1 45 = .ok (.iadd, 1) := by decide +kernel
theorem d_Re_readFixed_46 : decode mi_Re_readFixed.2.1 46 = .ok (.putfield 19, 3) := by decide +kernel
theorem d_Re_readFixed_49 : decode mi_Re_readFixed.2.1 49 = .ok (.iconst 1, 1) := by decide +kernel
theorem d_Re_readFixed_50 : decode mi_Re_readFixed.2.1 50 = .ok (.ireturn, 1) := by decide +kernel
theorem d_Re_readParts_0 : decode mi_Re_readParts.2.1 0 = .ok (.aload_n 0, 1) := by decide +kernel
theorem d_Re_readParts_1 : decode mi_Re_readParts.2.1 1 = .ok (.iconst (-1), 1) := by decide +kernel
theorem d_Re_readParts_2 : decode mi_Re_readParts.2.1 2 = .ok (.putfield 22, 3) := by decide +kernel
theorem d_Re_readParts_5 : decode mi_Re_readParts.2.1 5 = .ok (.iconst 0, 1) := by decide +kernel
theorem d_Re_readParts_6 : decode mi_Re_readParts.2.1 6 = .ok (.istore_n 2, 1) := by decide +kernel
theorem d_Re_readParts_7 : decode mi_Re_readParts.2.1 7 = .ok (.iload_n 2, 1) := by decide +kernel
theorem d_Re_readParts_8 : decode mi_Re_readParts.2.1 8 = .ok (.iconst 3, 1) := by decide +kernel
theorem d_Re_readParts_9 : decode mi_Re_readParts.2.1 9 = .ok (.if_icmp .ge 67, 3) := by decide +kernel
theorem d_Re_readParts_12 : decode mi_Re_readParts.2.1 12 = .ok (.iload_n 2, 1) := by decide +kernel
theorem d_Re_readParts_13 : decode mi_Re_readParts.2.1 13 = .ok (.ifCond .le 24, 3) := by decide +kernel
theorem d_Re_readParts_16 : decode mi_Re_readParts.2.1 16 = .ok (.aload_n 0, 1) := by decide +kernel
theorem d_Re_readParts_17 : decode mi_Re_readParts.2.1 17 = .ok (.invokevirtual 107, 3) := by decide +kernel
theorem d_Re_readParts_20 : decode mi_Re_readParts.2.1 20 = .ok (.bipush 44, 2) := by decide +kernel
theorem d_Re_readParts_22 : decode mi_Re_readParts.2.1 22 = .ok (.if_icmp .eq 5, 3) := by decide +kernel
theorem d_Re_readParts_25 : decode mi_Re_readParts.2.1 25 = .ok (.iconst 0, 1) := by decide +kernel
theorem d_Re_readParts_26 : decode mi_Re_readParts.2.1 26 = .ok (.ireturn, 1) := by decide +kernel
theorem d_Re_readParts_27 : decode mi_Re_readParts.2.1 27 = .ok (.aload_n 0, 1) := by decide +kernel
theorem d_Re_readParts_28 : decode mi_Re_readParts.2.1 28 = .ok (.dup, 1) := by decide +kernel
theorem d_Re_readParts_29 : decode mi_Re_readParts.2.1 29 = .ok (.getfield 19, 3) := by decide +kernel
theorem d_Re_readParts_32 : decode mi_Re_readParts.2.1 32 = .ok (.iconst 1, 1) := by decide +kernel
theorem d_Re_readParts_33 : decode mi_Re_readParts.2.1 33 = .ok (.iadd, 1) := by decide +kernel
theorem d_Re_readParts_34 : decode mi_Re_readParts.2.1 34 = .ok (.putfield 19, 3) := by decide +kernel
theorem d_Re_readParts_37 : decode mi_Re_readParts.2.1 37 = .ok (.aload_n 0, 1) := by decide +kernel
theorem d_Re_readParts_38 : decode mi_Re_readParts.2.1 38 = .ok (.iconst 3, 1) := by decide +kernel
theorem d_Re_readParts_39 : decode mi_Re_readParts.2.1 39 = .ok (.iconst 0, 1) := by decide +kernel
theorem d_Re_readParts_40 : decode mi_Re_readParts.2.1 40 = .ok (.iload_n 2, 1) := by decide +kernel
theorem d_Re_readParts_41 : decode mi_Re_readParts.2.1 41 = .ok (.iload_n 1, 1) := by decide +kernel
theorem d_Re_readParts_42 : decode mi_Re_readParts.2.1 42 = .ok (.if_icmp .ge 9, 3) := by decide +kernel
theorem d_Re_readParts_45 : decode mi_Re_readParts.2.1 45 = .ok (.sipush 333, 3) := by decide +kernel
theorem d_Re_readParts_48 : decode mi_Re_readParts.2.1 48 = .ok (.goto 4, 3) := by decide +kernel
theorem d_Re_readParts_51 : decode mi_Re_readParts.2.1 51 = .ok (.iconst 0, 1) := by decide +kernel
theorem d_Re_readParts_52 : decode mi_Re_readParts.2.1 52 = .ok (.invokevirtual 115, 3) := by decide +kernel
theorem d_Re_readParts_55 : decode mi_Re_readParts.2.1 55 = .ok (.istore_n 3, 1) := by decide +kernel
theorem d_Re_readParts_56 : decode mi_Re_readParts.2.1 56 = .ok (.iload_n 3, 1) := by decide +kernel
theorem d_Re_readParts_57 : decode mi_Re_readParts.2.1 57 = .ok (.iconst (-1), 1) := by decide +kernel
theorem d_Re_readParts_58 : decode mi_Re_readParts.2.1 58 = .ok (.if_icmp .ne 5, 3) := by decide +kernel
theorem d_Re_readParts_61 : decode mi_Re_readParts.2.1 61 = .ok (.iconst 0, 1) := by decide +kernel
theorem d_Re_readParts_62 : decode mi_Re_readParts.2.1 62 = .ok (.ireturn, 1) := by decide +kernel
theorem d_Re_readParts_63 : decode mi_Re_readParts.2.1 63 = .ok (.aload_n 0, 1) := by decide +kernel
theorem d_Re_readParts_64 : decode mi_Re_readParts.2.1 64 = .ok (.getfield 25, 3) := by decide +kernel
theorem d_Re_readParts_67 : decode mi_Re_readParts.2.1 67 = .ok (.iload_n 2, 1) := by decide +kernel
theorem d_Re_readParts_68 : decode mi_Re_readParts.2.1 68 = .ok (.iload_n 3, 1) := by decide +kernel
theorem d_Re_readParts_69 : decode mi_Re_readParts.2.1 69 = .ok (.iastore, 1) := by decide +kernel
theorem d_Re_readParts_70 : decode mi_Re_readParts.2.1 70 = .ok (.iinc 2 1, 3) := by decide +kernel
theorem d_Re_readParts_73 : decode mi_Re_readParts.2.1 73 = .ok (.goto (-66), 3) := by decide +kernel
theorem d_Re_readParts_76 : decode mi_Re_readParts.2.1 76 = .ok (.iconst 1, 1) := by decide +kernel
theorem d_Re_readParts_77 : decode mi_Re_readParts.2.1 77 = .ok (.ireturn, 1) := by decide +kernel
theorem d_Re_makeCondition_0 : decode mi_Re_makeCondition.2.1 0 = .ok (.new 76, 3) := by decide +kernel
theorem d_Re_makeCondition_3 : decode mi_Re_makeCondition.2.1 3 = .ok (.dup, 1) := by decide +kernel
theorem d_Re_makeCondition_4 : decode mi_Re_makeCondition.2.1 4 = .ok (.aload_n 0, 1) := by decide +kernel
theorem d_Re_makeCondition_5 : decode mi_Re_makeCondition.2.1 5 = .ok (.getfield 28, 3) := by decide +kernel
theorem d_Re_makeCondition_8 : decode mi_Re_makeCondition.2.1 8 = .ok (.aload_n 0, 1) := by decide +kernel
theorem d_Re_makeCondition_9 : decode mi_Re_makeCondition.2.1 9 = .ok (.getfield 31, 3) := by decide +kernel
theorem d_Re_makeCondition_12 : decode mi_Re_makeCondition.2.1 12 = .ok (.aload_n 0, 1) := by decide +kernel
theorem d_Re_makeCondition_13 : decode mi_Re_makeCondition.2.1 13 = .ok (.getfield 34, 3) := by decide +kernel
theorem d_Re_makeCondition_16 : decode mi_Re_makeCondition.2.1 16 = .ok (.aload_n 0, 1) := by decide +kernel
theorem d_Re_makeCondition_17 : decode mi_Re_makeCondition.2.1 17 = .ok (.getfield 37, 3) := by decide +kernel
theorem d_Re_makeCondition_20 : decode mi_Re_makeCondition.2.1 20 = .ok (.aload_n 0, 1) := by decide +kernel
theorem d_Re_makeCondition_21 : decode mi_Re_makeCondition.2.1 21 = .ok (.getfield 40, 3) := by decide +kernel
theorem d_Re_makeCondition_24 : decode mi_Re_makeCondition.2.1 24 = .ok (.invokespecial 78, 3) := by decide +kernel
theorem d_Re_makeCondition_27 : decode mi_Re_makeCondition.2.1 27 = .ok (.areturn, 1) := by decide +kernel
theorem d_Co_init_0 : decode mi_Co_init.2.1 0 = .ok (.aload_n 0, 1) := by decide +kernel
theorem d_Co_init_1 : decode mi_Co_init.2.1 1 = .ok (.invokespecial 3, 3) := by decide +kernel
theorem d_Co_init_4 : decode mi_Co_init.2.1 4 = .ok (.aload_n 0, 1) := by decide +kernel
theorem d_Co_init_5 : decode mi_Co_init.2.1 5 = .ok (.aload_n 1, 1) := by decide +kernel
theorem d_Co_init_6 : decode mi_Co_init.2.1 6 = .ok (.iload 5, 2) := by decide +kernel
theorem d_Co_init_8 : decode mi_Co_init.2.1 8 = .ok (.invokestatic 9, 3) := by decide +kernel
theorem d_Co_init_11 : decode mi_Co_init.2.1 11 = .ok (.putfield 15, 3) := by decide +kernel
theorem d_Co_init_14 : decode mi_Co_init.2.1 14 = .ok (.aload_n 0, 1) := by decide +kernel
theorem d_Co_init_15 : decode mi_Co_init.2.1 15 = .ok (.aload_n 2, 1) := by decide +kernel
theorem d_Co_init_16 : decode mi_Co_init.2.1 16 = .ok (.iload 5, 2) := by decide +kernel
theorem d_Co_init_18 : decode mi_Co_init.2.1 18 = .ok (.invokestatic 9, 3) := by decide +kernel
theorem d_Co_init_21 : decode mi_Co_init.2.1 21 = .ok (.putfield 21, 3) := by decide +kernel
theorem d_Co_init_24 : decode mi_Co_init.2.1 24 = .ok (.aload_n 0, 1) := by decide +kernel
theorem d_Co_init_25 : decode mi_Co_init.2.1 25 = .ok (.aload_n 3, 1) := by decide +kernel
theorem d_Co_init_26 : decode mi_Co_init.2.1 26 = .ok (.iload 5, 2) := by decide +kernel
theorem d_Co_init_28 : decode mi_Co_init.2.1 28 = .ok (.invokestatic 9, 3) := by decide +kernel
theorem d_Co_init_31 : decode mi_Co_init.2.1 31 = .ok (.putfield 24, 3) := by decide +kernel
theorem d_Co_init_34 : decode mi_Co_init.2.1 34 = .ok (.aload_n 0, 1) := by decide +kernel
theorem d_Co_init_35 : decode mi_Co_init.2.1 35 = .ok (.aload 4, 2) := by decide +kernel
theorem d_Co_init_37 : decode mi_Co_init.2.1 37 = .ok (.iload 5, 2) := by decide +kernel
theorem d_Co_init_39 : decode mi_Co_init.2.1 39 = .ok (.invokestatic 9, 3) := by decide +kernel
theorem d_Co_init_42 : decode mi_Co_init.2.1 42 = .ok (.putfield 27, 3) := by decide +kernel
theorem d_Co_init_45 : decode mi_Co_init.2.1 45 = .ok (.aload_n 0, 1) := by decide +kernel
theorem d_Co_init_46 : decode mi_Co_init.2.1 46 = .ok (.iload 5, 2) := by decide +kernel
theorem d_Co_init_48 : decode mi_Co_init.2.1 48 = .ok (.newarray .boolean, 2) := by decide +kernel
theorem d_Co_init_50 : decode mi_Co_init.2.1 50 = .ok (.putfield 30, 3) := by decide +kernel
theorem d_Co_init_53 : decode mi_Co_init.2.1 53 = .ok (.return_, 1) := by decide +kernel
theorem d_JA_copyOf_0 : decode mi_JA_copyOf.2.1 0 = .ok (.iload_n 1, 1) := by decide +kernel
theorem d_JA_copyOf_1 : decode mi_JA_copyOf.2.1 1 = .ok (.aload_n 0, 1) := by decide +kernel
theorem d_JA_copyOf_2 : decode mi_JA_copyOf.2.1 2 = .ok (.arraylength, 1) := by decide +kernel
theorem d_JA_copyOf_3 : decode mi_JA_copyOf.2.1 3 = .ok (.if_icmp .ne 11, 3) := by decide +kernel
theorem d_JA_copyOf_6 : decode mi_JA_copyOf.2.1 6 = .ok (.aload_n 0, 1) := by decide +kernel
theorem d_JA_copyOf_7 : decode mi_JA_copyOf.2.1 7 = .ok (.invokevirtual 316, 3) := by decide +kernel
theorem d_JA_copyOf_10 : decode mi_JA_copyOf.2.1 10 = .ok (.checkcast 317, 3) := by decide +kernel
theorem d_JA_copyOf_13 : decode mi_JA_copyOf.2.1 13 = .ok (.areturn, 1) := by decide +kernel
theorem d_JA_copyOf_14 : decode mi_JA_copyOf.2.1 14 = .ok (.iload_n 1, 1) := by decide +kernel
theorem d_JA_copyOf_15 : decode mi_JA_copyOf.2.1 15 = .ok (.newarray .int, 2) := by decide +kernel
theorem d_JA_copyOf_17 : decode mi_JA_copyOf.2.1 17 = .ok (.astore_n 2, 1) := by decide +kernel
theorem d_JA_copyOf_18 : decode mi_JA_copyOf.2.1 18 = .ok (.aload_n 0, 1) := by decide +kernel
theorem d_JA_copyOf_19 : decode mi_JA_copyOf.2.1 19 = .ok (.iconst 0, 1) := by decide +kernel
theorem d_JA_copyOf_20 : decode mi_JA_copyOf.2.1 20 = .ok (.aload_n 2, 1) := by decide +kernel
theorem d_JA_copyOf_21 : decode mi_JA_copyOf.2.1 21 = .ok (.iconst 0, 1) := by decide +kernel
theorem d_JA_copyOf_22 : decode mi_JA_copyOf.2.1 22 = .ok (.aload_n 0, 1) := by decide +kernel
theorem d_JA_copyOf_23 : decode mi_JA_copyOf.2.1 23 = .ok (.arraylength, 1) := by decide +kernel
theorem d_JA_copyOf_24 : decode mi_JA_copyOf.2.1 24 = .ok (.iload_n 1, 1) := by decide +kernel
theorem d_JA_copyOf_25 : decode mi_JA_copyOf.2.1 25 = .ok (.invokestatic 304, 3) := by decide +kernel
theorem d_JA_copyOf_28 : decode mi_JA_copyOf.2.1 28 = .ok (.invokestatic 150, 3) := by decide +kernel
theorem d_JA_copyOf_31 : decode mi_JA_copyOf.2.1 31 = .ok (.aload_n 2, 1) := by decide +kernel
theorem d_JA_copyOf_32 : decode mi_JA_copyOf.2.1 32 = .ok (.areturn, 1) := by decide +kernel
theorem d_Ru_take_0 : decode mi_Ru_take.2.1 0 = .ok (.aload_n 0, 1) := by decide +kernel
theorem d_Ru_take_1 : decode mi_Ru_take.2.1 1 = .ok (.aload_n 1, 1) := by decide +kernel
theorem d_Ru_take_2 : decode mi_Ru_take.2.1 2 = .ok (.putfield 9, 3) := by decide +kernel
theorem d_Ru_take_5 : decode mi_Ru_take.2.1 5 = .ok (.aload_n 0, 1) := by decide +kernel
theorem d_Ru_take_6 : decode mi_Ru_take.2.1 6 = .ok (.iload_n 2, 1) := by decide +kernel
theorem d_Ru_take_7 : decode mi_Ru_take.2.1 7 = .ok (.putfield 15, 3) := by decide +kernel
theorem d_Ru_take_10 : decode mi_Ru_take.2.1 10 = .ok (.aload_n 3, 1) := by decide +kernel
theorem d_Ru_take_11 : decode mi_Ru_take.2.1 11 = .ok (.iconst 0, 1) := by decide +kernel
theorem d_Ru_take_12 : decode mi_Ru_take.2.1 12 = .ok (.aload_n 0, 1) := by decide +kernel
theorem d_Ru_take_13 : decode mi_Ru_take.2.1 13 = .ok (.getfield 19, 3) := by decide +kernel
theorem d_Ru_take_16 : decode mi_Ru_take.2.1 16 = .ok (.iconst 0, 1) := by decide +kernel
theorem d_Ru_take_17 : decode mi_Ru_take.2.1 17 = .ok (.aload_n 3, 1) := by decide +kernel
theorem d_Ru_take_18 : decode mi_Ru_take.2.1 18 = .ok (.arraylength, 1) := by decide +kernel
theorem d_Ru_take_19 : decode mi_Ru_take.2.1 19 = .ok (.iconst 3, 1) := by decide +kernel
theorem d_Ru_take_20 : decode mi_Ru_take.2.1 20 = .ok (.invokestatic 23, 3) := by decide +kernel
theorem d_Ru_take_23 : decode mi_Ru_take.2.1 23 = .ok (.invokestatic 29, 3) := by decide +kernel
theorem d_Ru_take_26 : decode mi_Ru_take.2.1 26 = .ok (.return_, 1) := by decide +kernel
theorem d_Fe_removeRule_0 : decode mi_Fe_removeRule.2.1 0 = .ok (.iload_n 1, 1) := by decide +kernel
theorem d_Fe_removeRule_1 : decode mi_Fe_removeRule.2.1 1 = .ok (.istore_n 2, 1) := by decide +kernel
theorem d_Fe_removeRule_2 : decode mi_Fe_removeRule.2.1 2 = .ok (.iload_n 2, 1) := by decide +kernel
theorem d_Fe_removeRule_3 : decode mi_Fe_removeRule.2.1 3 = .ok (.iconst 1, 1) := by decide +kernel
theorem d_Fe_removeRule_4 : decode mi_Fe_removeRule.2.1 4 = .ok (.iadd, 1) := by decide +kernel
theorem d_Fe_removeRule_5 : decode mi_Fe_removeRule.2.1 5 = .ok (.aload_n 0, 1) := by decide +kernel
theorem d_Fe_removeRule_6 : decode mi_Fe_removeRule.2.1 6 = .ok (.getfield 30, 3) := by decide +kernel
theorem d_Fe_removeRule_9 : decode mi_Fe_removeRule.2.1 9 = .ok (.if_icmp .ge 51, 3) := by decide +kernel
theorem d_Fe_removeRule_12 : decode mi_Fe_removeRule.2.1 12 = .ok (.aload_n 0, 1) := by decide +kernel
theorem d_Fe_removeRule_13 : decode mi_Fe_removeRule.2.1 13 = .ok (.getfield 26, 3) := by decide +kernel
theorem d_Fe_removeRule_16 : decode mi_Fe_removeRule.2.1 16 = .ok (.iload_n 2, 1) := by decide +kernel
theorem d_Fe_removeRule_17 : decode mi_Fe_removeRule.2.1 17 = .ok (.aaload, 1) := by decide +kernel
theorem d_Fe_removeRule_18 : decode mi_Fe_removeRule.2.1 18 = .ok (.aload_n 0, 1) := by decide +kernel
theorem d_Fe_removeRule_19 : decode mi_Fe_removeRule.2.1 19 = .ok (.getfield 26, 3) := by decide +kernel
theorem d_Fe_removeRule_22 : decode mi_Fe_removeRule.2.1 22 = .ok (.iload_n 2, 1) := by decide +kernel
theorem d_Fe_removeRule_23 : decode mi_Fe_removeRule.2.1 23 = .ok (.iconst 1, 1) := by decide +kernel
theorem d_Fe_removeRule_24 : decode mi_Fe_removeRule.2.1 24 = .ok (.iadd, 1) := by decide +kernel
theorem d_Fe_removeRule_25 : decode mi_Fe_removeRule.2.1 25 = .ok (.aaload, 1) := by decide +kernel
theorem d_Fe_removeRule_26 : decode mi_Fe_removeRule.2.1 26 = .ok (.getfield 68, 3) := by decide +kernel
theorem d_Fe_removeRule_29 : decode mi_Fe_removeRule.2.1 29 = .ok (.aload_n 0, 1) := by decide +kernel
theorem d_Fe_removeRule_30 : decode mi_Fe_removeRule.2.1 30 = .ok (.getfield 26, 3) := by decide +kernel
theorem d_Fe_removeRule_33 : decode mi_Fe_removeRule.2.1 33 = .ok (.iload_n 2, 1) := by decide +kernel
theorem d_Fe_removeRule_34 : decode mi_Fe_removeRule.2.1 34 = .ok (.iconst 1, 1) := by decide +kernel
theorem d_Fe_removeRule_35 : decode mi_Fe_removeRule.2.1 35 = .ok (.iadd, 1) := by decide +kernel
theorem d_Fe_removeRule_36 : decode mi_Fe_removeRule.2.1 36 = .ok (.aaload, 1) := by decide +kernel
theorem d_Fe_removeRule_37 : decode mi_Fe_removeRule.2.1 37 = .ok (.getfield 72, 3) := by decide +kernel
theorem d_Fe_removeRule_40 : decode mi_Fe_removeRule.2.1 40 = .ok (.aload_n 0, 1) := by decide +kernel
theorem d_Fe_removeRule_41 : decode mi_Fe_removeRule.2.1 41 = .ok (.getfield 26, 3) := by decide +kernel
theorem d_Fe_removeRule_44 : decode mi_Fe_removeRule.2.1 44 = .ok (.iload_n 2, 1) := by decide +kernel
theorem d_Fe_removeRule_45 : decode mi_Fe_removeRule.2.1 45 = .ok (.iconst 1, 1) := by decide +kernel
theorem d_Fe_removeRule_46 : decode mi_Fe_removeRule.2.1 46 = .ok (.iadd, 1) := by decide +kernel
theorem d_Fe_removeRule_47 : decode mi_Fe_removeRule.2.1 47 = .ok (.aaload, 1) := by decide +kernel
theorem d_Fe_removeRule_48 : decode mi_Fe_removeRule.2.1 48 = .ok (.getfield 75, 3) := by decide +kernel
theorem d_Fe_removeRule_51 : decode mi_Fe_removeRule.2.1 51 = .ok (.invokevirtual 78, 3) := by decide +kernel
theorem d_Fe_removeRule_54 : decode mi_Fe_removeRule.2.1 54 = .ok (.iinc 2 1, 3) := by decide +kernel
theorem d_Fe_removeRule_57 : decode mi_Fe_removeRule.2.1 57 = .ok (.goto (-55), 3) := by decide +kernel
theorem d_Fe_removeRule_60 : decode mi_Fe_removeRule.2.1 60 = .ok (.aload_n 0, 1) := by decide +kernel
theorem d_Fe_removeRule_61 : decode mi_Fe_removeRule.2.1 61 = .ok (.dup, 1) := by decide +kernel
theorem d_Fe_removeRule_62 : decode mi_Fe_removeRule.2.1 62 = .ok (.getfield 30, 3) := by decide +kernel
theorem d_Fe_removeRule_65 : decode mi_Fe_removeRule.2.1 65 = .ok (.iconst 1, 1) := by decide +kernel
theorem d_Fe_removeRule_66 : decode mi_Fe_removeRule.2.1 66 = .ok (.isub, 1) := by decide +kernel
theorem d_Fe_removeRule_67 : decode mi_Fe_removeRule.2.1 67 = .ok (.putfield 30, 3) := by decide +kernel
theorem d_Fe_removeRule_70 : decode mi_Fe_removeRule.2.1 70 = .ok (.return_, 1) := by decide +kernel
theorem d_Ru_isFixed_0 : decode mi_Ru_isFixed.2.1 0 = .ok (.aload_n 0, 1) := by decide +kernel
theorem d_Ru_isFixed_1 : decode mi_Ru_isFixed.2.1 1 = .ok (.getfield 15, 3) := by decide +kernel
theorem d_Ru_isFixed_4 : decode mi_Ru_isFixed.2.1 4 = .ok (.iconst (-1), 1) := by decide +kernel
theorem d_Ru_isFixed_5 : decode mi_Ru_isFixed.2.1 5 = .ok (.if_icmp .eq 7, 3) := by decide +kernel
theorem d_Ru_isFixed_8 : decode mi_Ru_isFixed.2.1 8 = .ok (.iconst 1, 1) := by decide +kernel
theorem d_Ru_isFixed_9 : decode mi_Ru_isFixed.2.1 9 = .ok (.goto 4, 3) := by decide +kernel
theorem d_Ru_isFixed_12 : decode mi_Ru_isFixed.2.1 12 = .ok (.iconst 0, 1) := by decide +kernel
theorem d_Ru_isFixed_13 : decode mi_Ru_isFixed.2.1 13 = .ok (.ireturn, 1) := by decide +kernel
theorem d_De_neededBy_0 : decode mi_De_neededBy.2.1 0 = .ok (.aload_n 0, 1) := by decide +kernel
theorem d_De_neededBy_1 : decode mi_De_neededBy.2.1 1 = .ok (.iload_n 1, 1) := by decide +kernel
theorem d_De_neededBy_2 : decode mi_De_neededBy.2.1 2 = .ok (.invokevirtual 62, 3) := by decide +kernel
theorem d_De_neededBy_5 : decode mi_De_neededBy.2.1 5 = .ok (.istore_n 2, 1) := by decide +kernel
theorem d_De_neededBy_6 : decode mi_De_neededBy.2.1 6 = .ok (.iconst 0, 1) := by decide +kernel
theorem d_De_neededBy_7 : decode mi_De_neededBy.2.1 7 = .ok (.istore_n 3, 1) := by decide +kernel
theorem d_De_neededBy_8 : decode mi_De_neededBy.2.1 8 = .ok (.iload_n 3, 1) := by decide +kernel
theorem d_De_neededBy_9 : decode mi_De_neededBy.2.1 9 = .ok (.bipush 12, 2) := by decide +kernel
theorem d_De_neededBy_11 : decode mi_De_neededBy.2.1 11 = .ok (.if_icmp .ge 66, 3) := by decide +kernel
theorem d_De_neededBy_14 : decode mi_De_neededBy.2.1 14 = .ok (.iload_n 2, 1) := by decide +kernel
theorem d_De_neededBy_15 : decode mi_De_neededBy.2.1 15 = .ok (.istore 4, 2) := by decide +kernel
theorem d_De_neededBy_17 : decode mi_De_neededBy.2.1 17 = .ok (.iconst 0, 1) := by decide +kernel
theorem d_De_neededBy_18 : decode mi_De_neededBy.2.1 18 = .ok (.istore 5, 2) := by decide +kernel
theorem d_De_neededBy_20 : decode mi_De_neededBy.2.1 20 = .ok (.iload 5, 2) := by decide +kernel
theorem d_De_neededBy_22 : decode mi_De_neededBy.2.1 22 = .ok (.aload_n 0, 1) := by decide +kernel
theorem d_De_neededBy_23 : decode mi_De_neededBy.2.1 23 = .ok (.getfield 24, 3) := by decide +kernel
theorem d_De_neededBy_26 : decode mi_De_neededBy.2.1 26 = .ok (.if_icmp .ge 33, 3) := by decide +kernel
theorem d_De_neededBy_29 : decode mi_De_neededBy.2.1 29 = .ok (.iload 4, 2) := by decide +kernel
theorem d_De_neededBy_31 : decode mi_De_neededBy.2.1 31 = .ok (.iload_n 2, 1) := by decide +kernel
theorem d_De_neededBy_32 : decode mi_De_neededBy.2.1 32 = .ok (.iload 5, 2) := by decide +kernel
theorem d_De_neededBy_34 : decode mi_De_neededBy.2.1 34 = .ok (.invokestatic 66, 3) := by decide +kernel
theorem d_De_neededBy_37 : decode mi_De_neededBy.2.1 37 = .ok (.ifCond .eq 12, 3) := by decide +kernel
theorem d_De_neededBy_40 : decode mi_De_neededBy.2.1 40 = .ok (.aload_n 0, 1) := by decide +kernel
theorem d_De_neededBy_41 : decode mi_De_neededBy.2.1 41 = .ok (.iload 5, 2) := by decide +kernel
theorem d_De_neededBy_43 : decode mi_De_neededBy.2.1 43 = .ok (.invokevirtual 62, 3) := by decide +kernel
theorem d_De_neededBy_46 : decode mi_De_neededBy.2.1 46 = .ok (.goto 4, 3) := by decide +kernel
theorem d_De_neededBy_49 : decode mi_De_neededBy.2.1 49 = .ok (.iconst 0, 1) := by decide +kernel
theorem d_De_neededBy_50 : decode mi_De_neededBy.2.1 50 = .ok (.ior, 1) := by decide +kernel
theorem d_De_neededBy_51 : decode mi_De_neededBy.2.1 51 = .ok (.istore 4, 2) := by decide +kernel
theorem d_De_neededBy_53 : decode mi_De_neededBy.2.1 53 = .ok (.iinc 5 1, 3) := by decide +kernel
theorem d_De_neededBy_56 : decode mi_De_neededBy.2.1 56 = .ok (.goto (-36), 3) := by decide +kernel
theorem d_De_neededBy_59 : decode mi_De_neededBy.2.1 59 = .ok (.iload 4, 2) := by decide +kernel
theorem d_De_neededBy_61 : decode mi_De_neededBy.2.1 61 = .ok (.iload_n 2, 1) := by decide +kernel
theorem d_De_neededBy_62 : decode mi_De_neededBy.2.1 62 = .ok (.if_icmp .ne 6, 3) := by decide +kernel
theorem d_De_neededBy_65 : decode mi_De_neededBy.2.1 65 = .ok (.goto 12, 3) := by decide +kernel
theorem d_De_neededBy_68 : decode mi_De_neededBy.2.1 68 = .ok (.iload 4, 2) := by decide +kernel
theorem d_De_neededBy_70 : decode mi_De_neededBy.2.1 70 = .ok (.istore_n 2, 1) := by decide +kernel
theorem d_De_neededBy_71 : decode mi_De_neededBy.2.1 71 = .ok (.iinc 3 1, 3) := by decide +kernel
theorem d_De_neededBy_74 : decode mi_De_neededBy.2.1 74 = .ok (.goto (-66), 3) := by decide +kernel
theorem d_De_neededBy_77 : decode mi_De_neededBy.2.1 77 = .ok (.iload_n 2, 1) := by decide +kernel
theorem d_De_neededBy_78 : decode mi_De_neededBy.2.1 78 = .ok (.ireturn, 1) := by decide +kernel
theorem d_De_directNeeds_0 : decode mi_De_directNeeds.2.1 0 = .ok (.aload_n 0, 1) := by decide +kernel
theorem d_De_directNeeds_1 : decode mi_De_directNeeds.2.1 1 = .ok (.getfield 20, 3) := by decide +kernel
theorem d_De_directNeeds_4 : decode mi_De_directNeeds.2.1 4 = .ok (.iload_n 1, 1) := by decide +kernel
theorem d_De_directNeeds_5 : decode mi_De_directNeeds.2.1 5 = .ok (.aaload, 1) := by decide +kernel
theorem d_De_directNeeds_6 : decode mi_De_directNeeds.2.1 6 = .ok (.astore_n 2, 1) := by decide +kernel
theorem d_De_directNeeds_7 : decode mi_De_directNeeds.2.1 7 = .ok (.iconst 0, 1) := by decide +kernel
theorem d_De_directNeeds_8 : decode mi_De_directNeeds.2.1 8 = .ok (.istore_n 3, 1) := by decide +kernel
theorem d_De_directNeeds_9 : decode mi_De_directNeeds.2.1 9 = .ok (.iconst 0, 1) := by decide +kernel
theorem d_De_directNeeds_10 : decode mi_De_directNeeds.2.1 10 = .ok (.istore 4, 2) := by decide +kernel
theorem d_De_directNeeds_12 : decode mi_De_directNeeds.2.1 12 = .ok (.iload 4, 2) := by decide +kernel
theorem d_De_directNeeds_14 : decode mi_De_directNeeds.2.1 14 = .ok (.aload_n 2, 1) := by decide +kernel
theorem d_De_directNeeds_15 : decode mi_De_directNeeds.2.1 15 = .ok (.getfield 70, 3) := by decide +kernel
theorem d_De_directNeeds_18 : decode mi_De_directNeeds.2.1 18 = .ok (.if_icmp .ge 21, 3) := by decide +kernel
theorem d_De_directNeeds_21 : decode mi_De_directNeeds.2.1 21 = .ok (.iload_n 3, 1) := by decide +kernel
theorem d_De_directNeeds_22 : decode mi_De_directNeeds.2.1 22 = .ok (.iconst 1, 1) := by decide +kernel
theorem d_De_directNeeds_23 : decode mi_De_directNeeds.2.1 23 = .ok (.aload_n 2, 1) := by decide +kernel
theorem d_De_directNeeds_24 : decode mi_De_directNeeds.2.1 24 = .ok (.getfield 73, 3) := by decide +kernel
theorem d_De_directNeeds_27 : decode mi_De_directNeeds.2.1 27 = .ok (.iload 4, 2) := by decide +kernel
theorem d_De_directNeeds_29 : decode mi_De_directNeeds.2.1 29 = .ok (.iaload, 1) := by decide +kernel
theorem d_De_directNeeds_30 : decode mi_De_directNeeds.2.1 30 = .ok (.ishl, 1) := by decide +kernel
theorem d_De_directNeeds_31 : decode mi_De_directNeeds.2.1 31 = .ok (.ior, 1) := by decide +kernel
theorem d_De_directNeeds_32 : decode mi_De_directNeeds.2.1 32 = .ok (.istore_n 3, 1) := by decide +kernel
theorem d_De_directNeeds_33 : decode mi_De_directNeeds.2.1 33 = .ok (.iinc 4 1, 3) := by decide +kernel
theorem d_De_directNeeds_36 : decode mi_De_directNeeds.2.1 36 = .ok (.goto (-24), 3) := by decide +kernel
theorem d_De_directNeeds_39 : decode mi_De_directNeeds.2.1 39 = .ok (.iload_n 3, 1) := by decide +kernel
theorem d_De_directNeeds_40 : decode mi_De_directNeeds.2.1 40 = .ok (.ireturn, 1) := by decide +kernel
theorem d_Fe_addNeed_0 : decode mi_Fe_addNeed.2.1 0 = .ok (.aload_n 0, 1) := by decide +kernel
theorem d_Fe_addNeed_1 : decode mi_Fe_addNeed.2.1 1 = .ok (.getfield 40, 3) := by decide +kernel
theorem d_Fe_addNeed_4 : decode mi_Fe_addNeed.2.1 4 = .ok (.iconst 3, 1) := by decide +kernel
theorem d_Fe_addNeed_5 : decode mi_Fe_addNeed.2.1 5 = .ok (.if_icmp .lt 4, 3) := by decide +kernel
theorem d_Fe_addNeed_8 : decode mi_Fe_addNeed.2.1 8 = .ok (.return_, 1) := by decide +kernel
theorem d_Fe_addNeed_9 : decode mi_Fe_addNeed.2.1 9 = .ok (.aload_n 0, 1) := by decide +kernel
theorem d_Fe_addNeed_10 : decode mi_Fe_addNeed.2.1 10 = .ok (.getfield 33, 3) := by decide +kernel
theorem d_Fe_addNeed_13 : decode mi_Fe_addNeed.2.1 13 = .ok (.aload_n 0, 1) := by decide +kernel
theorem d_Fe_addNeed_14 : decode mi_Fe_addNeed.2.1 14 = .ok (.getfield 40, 3) := by decide +kernel
theorem d_Fe_addNeed_17 : decode mi_Fe_addNeed.2.1 17 = .ok (.iload_n 1, 1) := by decide +kernel
theorem d_Fe_addNeed_18 : decode mi_Fe_addNeed.2.1 18 = .ok (.iastore, 1) := by decide +kernel
theorem d_Fe_addNeed_19 : decode mi_Fe_addNeed.2.1 19 = .ok (.aload_n 0, 1) := by decide +kernel
theorem d_Fe_addNeed_20 : decode mi_Fe_addNeed.2.1 20 = .ok (.getfield 37, 3) := by decide +kernel
theorem d_Fe_addNeed_23 : decode mi_Fe_addNeed.2.1 23 = .ok (.aload_n 0, 1) := by decide +kernel
theorem d_Fe_addNeed_24 : decode mi_Fe_addNeed.2.1 24 = .ok (.getfield 40, 3) := by decide +kernel
theorem d_Fe_addNeed_27 : decode mi_Fe_addNeed.2.1 27 = .ok (.iload_n 2, 1) := by decide +kernel
theorem d_Fe_addNeed_28 : decode mi_Fe_addNeed.2.1 28 = .ok (.iastore, 1) := by decide +kernel
theorem d_Fe_addNeed_29 : decode mi_Fe_addNeed.2.1 29 = .ok (.aload_n 0, 1) := by decide +kernel
theorem d_Fe_addNeed_30 : decode mi_Fe_addNeed.2.1 30 = .ok (.dup, 1) := by decide +kernel
theorem d_Fe_addNeed_31 : decode mi_Fe_addNeed.2.1 31 = .ok (.getfield 40, 3) := by decide +kernel
theorem d_Fe_addNeed_34 : decode mi_Fe_addNeed.2.1 34 = .ok (.iconst 1, 1) := by decide +kernel
theorem d_Fe_addNeed_35 : decode mi_Fe_addNeed.2.1 35 = .ok (.iadd, 1) := by decide +kernel
theorem d_Fe_addNeed_36 : decode mi_Fe_addNeed.2.1 36 = .ok (.putfield 40, 3) := by decide +kernel
theorem d_Fe_addNeed_39 : decode mi_Fe_addNeed.2.1 39 = .ok (.return_, 1) := by decide +kernel
theorem d_Fe_takeLayer_0 : decode mi_Fe_takeLayer.2.1 0 = .ok (.aload_n 0, 1) := by decide +kernel
theorem d_Fe_takeLayer_1 : decode mi_Fe_takeLayer.2.1 1 = .ok (.iload_n 1, 1) := by decide +kernel
theorem d_Fe_takeLayer_2 : decode mi_Fe_takeLayer.2.1 2 = .ok (.putfield 52, 3) := by decide +kernel
theorem d_Fe_takeLayer_5 : decode mi_Fe_takeLayer.2.1 5 = .ok (.aload_n 0, 1) := by decide +kernel
theorem d_Fe_takeLayer_6 : decode mi_Fe_takeLayer.2.1 6 = .ok (.iload_n 2, 1) := by decide +kernel
theorem d_Fe_takeLayer_7 : decode mi_Fe_takeLayer.2.1 7 = .ok (.putfield 55, 3) := by decide +kernel
theorem d_Fe_takeLayer_10 : decode mi_Fe_takeLayer.2.1 10 = .ok (.aload_n 0, 1) := by decide +kernel
theorem d_Fe_takeLayer_11 : decode mi_Fe_takeLayer.2.1 11 = .ok (.iload_n 3, 1) := by decide +kernel
theorem d_Fe_takeLayer_12 : decode mi_Fe_takeLayer.2.1 12 = .ok (.putfield 58, 3) := by decide +kernel
theorem d_Fe_takeLayer_15 : decode mi_Fe_takeLayer.2.1 15 = .ok (.return_, 1) := by decide +kernel
theorem d_De_isTaken_0 : decode mi_De_isTaken.2.1 0 = .ok (.iconst 0, 1) := by decide +kernel
theorem d_De_isTaken_1 : decode mi_De_isTaken.2.1 1 = .ok (.istore 5, 2) := by decide +kernel
theorem d_De_isTaken_3 : decode mi_De_isTaken.2.1 3 = .ok (.iload 5, 2) := by decide +kernel
theorem d_De_isTaken_5 : decode mi_De_isTaken.2.1 5 = .ok (.aload_n 0, 1) := by decide +kernel
theorem d_De_isTaken_6 : decode mi_De_isTaken.2.1 6 = .ok (.getfield 24, 3) := by decide +kernel
theorem d_De_isTaken_9 : decode mi_De_isTaken.2.1 9 = .ok (.if_icmp .ge 54, 3) := by decide +kernel
theorem d_De_isTaken_12 : decode mi_De_isTaken.2.1 12 = .ok (.aload_n 0, 1) := by decide +kernel
theorem d_De_isTaken_13 : decode mi_De_isTaken.2.1 13 = .ok (.getfield 20, 3) := by decide +kernel
theorem d_De_isTaken_16 : decode mi_De_isTaken.2.1 16 = .ok (.iload 5, 2) := by decide +kernel
theorem d_De_isTaken_18 : decode mi_De_isTaken.2.1 18 = .ok (.aaload, 1) := by decide +kernel
theorem d_De_isTaken_19 : decode mi_De_isTaken.2.1 19 = .ok (.astore 6, 2) := by decide +kernel
theorem d_De_isTaken_21 : decode mi_De_isTaken.2.1 21 = .ok (.iload 5, 2) := by decide +kernel
theorem d_De_isTaken_23 : decode mi_De_isTaken.2.1 23 = .ok (.iload_n 1, 1) := by decide +kernel
theorem d_De_isTaken_24 : decode mi_De_isTaken.2.1 24 = .ok (.if_icmp .eq 33, 3) := by decide +kernel
theorem d_De_isTaken_27 : decode mi_De_isTaken.2.1 27 = .ok (.aload 6, 2) := by decide +kernel
theorem d_De_isTaken_29 : decode mi_De_isTaken.2.1 29 = .ok (.getfield 77, 3) := by decide +kernel
theorem d_De_isTaken_32 : decode mi_De_isTaken.2.1 32 = .ok (.iload_n 2, 1) := by decide +kernel
theorem d_De_isTaken_33 : decode mi_De_isTaken.2.1 33 = .ok (.if_icmp .ne 24, 3) := by decide +kernel
theorem d_De_isTaken_36 : decode mi_De_isTaken.2.1 36 = .ok (.aload 6, 2) := by decide +kernel
theorem d_De_isTaken_38 : decode mi_De_isTaken.2.1 38 = .ok (.getfield 80, 3) := by decide +kernel
theorem d_De_isTaken_41 : decode mi_De_isTaken.2.1 41 = .ok (.iload 4, 2) := by decide +kernel
theorem d_De_isTaken_43 : decode mi_De_isTaken.2.1 43 = .ok (.if_icmp .gt 14, 3) := by decide +kernel
theorem d_De_isTaken_46 : decode mi_De_isTaken.2.1 46 = .ok (.iload_n 3, 1) := by decide +kernel
theorem d_De_isTaken_47 : decode mi_De_isTaken.2.1 47 = .ok (.aload 6, 2) := by decide +kernel
theorem d_De_isTaken_49 : decode mi_De_isTaken.2.1 49 = .ok (.getfield 83, 3) := by decide +kernel
theorem d_De_isTaken_52 : decode mi_De_isTaken.2.1 52 = .ok (.if_icmp .gt 5, 3) := by decide +kernel
theorem d_De_isTaken_55 : decode mi_De_isTaken.2.1 55 = .ok (.iconst 1, 1) := by decide +kernel
theorem d_De_isTaken_56 : decode mi_De_isTaken.2.1 56 = .ok (.ireturn, 1) := by decide +kernel
theorem d_De_isTaken_57 : decode mi_De_isTaken.2.1 57 = .ok (.iinc 5 1, 3) := by decide +kernel
theorem d_De_isTaken_60 : decode mi_De_isTaken.2.1 60 = .ok (.goto (-57), 3) := by decide +kernel
theorem d_De_isTaken_63 : decode mi_De_isTaken.2.1 63 = .ok (.iconst 0, 1) := by decide +kernel
theorem d_De_isTaken_64 : decode mi_De_isTaken.2.1 64 = .ok (.ireturn, 1) := by decide +kernel
theorem d_St_add_0 : decode mi_St_add.2.1 0 = .ok (.aload_n 0, 1) := by decide +kernel
theorem d_St_add_1 : decode mi_St_add.2.1 1 = .ok (.getfield 27, 3) := by decide +kernel
theorem d_St_add_4 : decode mi_St_add.2.1 4 = .ok (.bipush 24, 2) := by decide +kernel
theorem d_St_add_6 : decode mi_St_add.2.1 6 = .ok (.if_icmp .lt 4, 3) := by decide +kernel
theorem d_St_add_9 : decode mi_St_add.2.1 9 = .ok (.return_, 1) := by decide +kernel
theorem d_St_add_10 : decode mi_St_add.2.1 10 = .ok (.aload_n 0, 1) := by decide +kernel
theorem d_St_add_11 : decode mi_St_add.2.1 11 = .ok (.getfield 9, 3) := by decide +kernel
theorem d_St_add_14 : decode mi_St_add.2.1 14 = .ok (.aload_n 0, 1) := by decide +kernel
theorem d_St_add_15 : decode mi_St_add.2.1 15 = .ok (.getfield 27, 3) := by decide +kernel
theorem d_St_add_18 : decode mi_St_add.2.1 18 = .ok (.iload_n 1, 1) := by decide +kernel
theorem d_St_add_19 : decode mi_St_add.2.1 19 = .ok (.iastore, 1) := by decide +kernel
theorem d_St_add_20 : decode mi_St_add.2.1 20 = .ok (.aload_n 0, 1) := by decide +kernel
theorem d_St_add_21 : decode mi_St_add.2.1 21 = .ok (.getfield 15, 3) := by decide +kernel
theorem d_St_add_24 : decode mi_St_add.2.1 24 = .ok (.aload_n 0, 1) := by decide +kernel
theorem d_St_add_25 : decode mi_St_add.2.1 25 = .ok (.getfield 27, 3) := by decide +kernel
theorem d_St_add_28 : decode mi_St_add.2.1 28 = .ok (.iload_n 2, 1) := by decide +kernel
theorem d_St_add_29 : decode mi_St_add.2.1 29 = .ok (.iastore, 1) := by decide +kernel
theorem d_St_add_30 : decode mi_St_add.2.1 30 = .ok (.aload_n 0, 1) := by decide +kernel
theorem d_St_add_31 : decode mi_St_add.2.1 31 = .ok (.getfield 18, 3) := by decide +kernel
theorem d_St_add_34 : decode mi_St_add.2.1 34 = .ok (.aload_n 0, 1) := by decide +kernel
theorem d_St_add_35 : decode mi_St_add.2.1 35 = .ok (.getfield 27, 3) := by decide +kernel
theorem d_St_add_38 : decode mi_St_add.2.1 38 = .ok (.iload_n 3, 1) := by decide +kernel
theorem d_St_add_39 : decode mi_St_add.2.1 39 = .ok (.iastore, 1) := by decide +kernel
theorem d_St_add_40 : decode mi_St_add.2.1 40 = .ok (.aload_n 0, 1) := by decide +kernel
theorem d_St_add_41 : decode mi_St_add.2.1 41 = .ok (.getfield 21, 3) := by decide +kernel
theorem d_St_add_44 : decode mi_St_add.2.1 44 = .ok (.aload_n 0, 1) := by decide +kernel
theorem d_St_add_45 : decode mi_St_add.2.1 45 = .ok (.getfield 27, 3) := by decide +kernel
theorem d_St_add_48 : decode mi_St_add.2.1 48 = .ok (.iload 4, 2) := by decide +kernel
theorem d_St_add_50 : decode mi_St_add.2.1 50 = .ok (.iastore, 1) := by decide +kernel
theorem d_St_add_51 : decode mi_St_add.2.1 51 = .ok (.aload_n 0, 1) := by decide +kernel
theorem d_St_add_52 : decode mi_St_add.2.1 52 = .ok (.getfield 24, 3) := by decide +kernel
theorem d_St_add_55 : decode mi_St_add.2.1 55 = .ok (.aload_n 0, 1) := by decide +kernel
theorem d_St_add_56 : decode mi_St_add.2.1 56 = .ok (.getfield 27, 3) := by decide +kernel
theorem d_St_add_59 : decode mi_St_add.2.1 59 = .ok (.iload 5, 2) := by decide +kernel
theorem d_St_add_61 : decode mi_St_add.2.1 61 = .ok (.iastore, 1) := by decide +kernel
theorem d_St_add_62 : decode mi_St_add.2.1 62 = .ok (.aload_n 0, 1) := by decide +kernel
theorem d_St_add_63 : decode mi_St_add.2.1 63 = .ok (.dup, 1) := by decide +kernel
theorem d_St_add_64 : decode mi_St_add.2.1 64 = .ok (.getfield 27, 3) := by decide +kernel
theorem d_St_add_67 : decode mi_St_add.2.1 67 = .ok (.iconst 1, 1) := by decide +kernel
theorem d_St_add_68 : decode mi_St_add.2.1 68 = .ok (.iadd, 1) := by decide +kernel
theorem d_St_add_69 : decode mi_St_add.2.1 69 = .ok (.putfield 27, 3) := by decide +kernel
theorem d_St_add_72 : decode mi_St_add.2.1 72 = .ok (.return_, 1) := by decide +kernel
theorem d_De_goOn_0 : decode mi_De_goOn.2.1 0 = .ok (.aload_n 0, 1) := by decide +kernel
theorem d_De_goOn_1 : decode mi_De_goOn.2.1 1 = .ok (.dup, 1) := by decide +kernel
theorem d_De_goOn_2 : decode mi_De_goOn.2.1 2 = .ok (.getfield 35, 3) := by decide +kernel
theorem d_De_goOn_5 : decode mi_De_goOn.2.1 5 = .ok (.iload_n 1, 1) := by decide +kernel
theorem d_De_goOn_6 : decode mi_De_goOn.2.1 6 = .ok (.iadd, 1) := by decide +kernel
theorem d_De_goOn_7 : decode mi_De_goOn.2.1 7 = .ok (.putfield 35, 3) := by decide +kernel
theorem d_De_goOn_10 : decode mi_De_goOn.2.1 10 = .ok (.aload_n 0, 1) := by decide +kernel
theorem d_De_goOn_11 : decode mi_De_goOn.2.1 11 = .ok (.aload_n 0, 1) := by decide +kernel
theorem d_De_goOn_12 : decode mi_De_goOn.2.1 12 = .ok (.getfield 35, 3) := by decide +kernel
theorem d_De_goOn_15 : decode mi_De_goOn.2.1 15 = .ok (.invokevirtual 86, 3) := by decide +kernel
theorem d_De_goOn_18 : decode mi_De_goOn.2.1 18 = .ok (.ireturn, 1) := by decide +kernel
theorem d_De_doSteps_0 : decode mi_De_doSteps.2.1 0 = .ok (.iconst 0, 1) := by decide +kernel
theorem d_De_doSteps_1 : decode mi_De_doSteps.2.1 1 = .ok (.istore_n 2, 1) := by decide +kernel
theorem d_De_doSteps_2 : decode mi_De_doSteps.2.1 2 = .ok (.iconst 0, 1) := by decide +kernel
theorem d_De_doSteps_3 : decode mi_De_doSteps.2.1 3 = .ok (.istore_n 3, 1) := by decide +kernel
theorem d_De_doSteps_4 : decode mi_De_doSteps.2.1 4 = .ok (.iload_n 3, 1) := by decide +kernel
theorem d_De_doSteps_5 : decode mi_De_doSteps.2.1 5 = .ok (.bipush 24, 2) := by decide +kernel
theorem d_De_doSteps_7 : decode mi_De_doSteps.2.1 7 = .ok (.if_icmp .ge 84, 3) := by decide +kernel
theorem d_De_doSteps_10 : decode mi_De_doSteps.2.1 10 = .ok (.aload_n 0, 1) := by decide +kernel
theorem d_De_doSteps_11 : decode mi_De_doSteps.2.1 11 = .ok (.getfield 31, 3) := by decide +kernel
theorem d_De_doSteps_14 : decode mi_De_doSteps.2.1 14 = .ok (.iload_n 1, 1) := by decide +kernel
theorem d_De_doSteps_15 : decode mi_De_doSteps.2.1 15 = .ok (.invokevirtual 89, 3) := by decide +kernel
theorem d_De_doSteps_18 : decode mi_De_doSteps.2.1 18 = .ok (.istore 4, 2) := by decide +kernel
theorem d_De_doSteps_20 : decode mi_De_doSteps.2.1 20 = .ok (.iload 4, 2) := by decide +kernel
theorem d_De_doSteps_22 : decode mi_De_doSteps.2.1 22 = .ok (.iconst (-1), 1) := by decide +kernel
theorem d_De_doSteps_23 : decode mi_De_doSteps.2.1 23 = .ok (.if_icmp .ne 6, 3) := by decide +kernel
theorem d_De_doSteps_26 : decode mi_De_doSteps.2.1 26 = .ok (.goto 65, 3) := by decide +kernel
theorem d_De_doSteps_29 : decode mi_De_doSteps.2.1 29 = .ok (.aload_n 0, 1) := by decide +kernel
theorem d_De_doSteps_30 : decode mi_De_doSteps.2.1 30 = .ok (.aload_n 0, 1) := by decide +kernel
theorem d_De_doSteps_31 : decode mi_De_doSteps.2.1 31 = .ok (.getfield 31, 3) := by decide +kernel
theorem d_De_doSteps_34 : decode mi_De_doSteps.2.1 34 = .ok (.getfield 92, 3) := by decide +kernel
theorem d_De_doSteps_37 : decode mi_De_doSteps.2.1 37 = .ok (.iload 4, 2) := by decide +kernel
theorem d_De_doSteps_39 : decode mi_De_doSteps.2.1 39 = .ok (.iaload, 1) := by decide +kernel
theorem d_De_doSteps_40 : decode mi_De_doSteps.2.1 40 = .ok (.aload_n 0, 1) := by decide +kernel
theorem d_De_doSteps_41 : decode mi_De_doSteps.2.1 41 = .ok (.getfield 31, 3) := by decide +kernel
theorem d_De_doSteps_44 : decode mi_De_doSteps.2.1 44 = .ok (.getfield 94, 3) := by decide +kernel
theorem d_De_doSteps_47 : decode mi_De_doSteps.2.1 47 = .ok (.iload 4, 2) := by decide +kernel
theorem d_De_doSteps_49 : decode mi_De_doSteps.2.1 49 = .ok (.iaload, 1) := by decide +kernel
theorem d_De_doSteps_50 : decode mi_De_doSteps.2.1 50 = .ok (.aload_n 0, 1) := by decide +kernel
theorem d_De_doSteps_51 : decode mi_De_doSteps.2.1 51 = .ok (.getfield 31, 3) := by decide +kernel
theorem d_De_doSteps_54 : decode mi_De_doSteps.2.1 54 = .ok (.getfield 97, 3) := by decide +kernel
theorem d_De_doSteps_57 : decode mi_De_doSteps.2.1 57 = .ok (.iload 4, 2) := by decide +kernel
theorem d_De_doSteps_59 : decode mi_De_doSteps.2.1 59 = .ok (.iaload, 1) := by decide +kernel
theorem d_De_doSteps_60 : decode mi_De_doSteps.2.1 60 = .ok (.aload_n 0, 1) := by decide +kernel
theorem d_De_doSteps_61 : decode mi_De_doSteps.2.1 61 = .ok (.getfield 31, 3) := by decide +kernel
theorem d_De_doSteps_64 : decode mi_De_doSteps.2.1 64 = .ok (.getfield 100, 3) := by decide +kernel
theorem d_De_doSteps_67 : decode mi_De_doSteps.2.1 67 = .ok (.iload 4, 2) := by decide +kernel
theorem d_De_doSteps_69 : decode mi_De_doSteps.2.1 69 = .ok (.iaload, 1) := by decide +kernel
theorem d_De_doSteps_70 : decode mi_De_doSteps.2.1 70 = .ok (.invokevirtual 103, 3) := by decide +kernel
theorem d_De_doSteps_73 : decode mi_De_doSteps.2.1 73 = .ok (.aload_n 0, 1) := by decide +kernel
theorem d_De_doSteps_74 : decode mi_De_doSteps.2.1 74 = .ok (.getfield 31, 3) := by decide +kernel
theorem d_De_doSteps_77 : decode mi_De_doSteps.2.1 77 = .ok (.iload 4, 2) := by decide +kernel
theorem d_De_doSteps_79 : decode mi_De_doSteps.2.1 79 = .ok (.invokevirtual 107, 3) := by decide +kernel
theorem d_De_doSteps_82 : decode mi_De_doSteps.2.1 82 = .ok (.iinc 2 1, 3) := by decide +kernel
theorem d_De_doSteps_85 : decode mi_De_doSteps.2.1 85 = .ok (.iinc 3 1, 3) := by decide +kernel
theorem d_De_doSteps_88 : decode mi_De_doSteps.2.1 88 = .ok (.goto (-84), 3) := by decide +kernel
theorem d_De_doSteps_91 : decode mi_De_doSteps.2.1 91 = .ok (.iload_n 2, 1) := by decide +kernel
theorem d_De_doSteps_92 : decode mi_De_doSteps.2.1 92 = .ok (.ireturn, 1) := by decide +kernel
theorem d_St_firstTill_0 : decode mi_St_firstTill.2.1 0 = .ok (.iconst (-1), 1) := by decide +kernel
theorem d_St_firstTill_1 : decode mi_St_firstTill.2.1 1 = .ok (.istore_n 2, 1) := by decide +kernel
theorem d_St_firstTill_2 : decode mi_St_firstTill.2.1 2 = .ok (.iconst 0, 1) := by decide +kernel
theorem d_St_firstTill_3 : decode mi_St_firstTill.2.1 3 = .ok (.istore_n 3, 1) := by decide +kernel
theorem d_St_firstTill_4 : decode mi_St_firstTill.2.1 4 = .ok (.iload_n 3, 1) := by decide +kernel
theorem d_St_firstTill_5 : decode mi_St_firstTill.2.1 5 = .ok (.aload_n 0, 1) := by decide +kernel
theorem d_St_firstTill_6 : decode mi_St_firstTill.2.1 6 = .ok (.getfield 27, 3) := by decide +kernel
theorem d_St_firstTill_9 : decode mi_St_firstTill.2.1 9 = .ok (.if_icmp .ge 41, 3) := by decide +kernel
theorem d_St_firstTill_12 : decode mi_St_firstTill.2.1 12 = .ok (.aload_n 0, 1) := by decide +kernel
theorem d_St_firstTill_13 : decode mi_St_firstTill.2.1 13 = .ok (.getfield 9, 3) := by decide +kernel
theorem d_St_firstTill_16 : decode mi_St_firstTill.2.1 16 = .ok (.iload_n 3, 1) := by decide +kernel
theorem d_St_firstTill_17 : decode mi_St_firstTill.2.1 17 = .ok (.iaload, 1) := by decide +kernel
theorem d_St_firstTill_18 : decode mi_St_firstTill.2.1 18 = .ok (.iload_n 1, 1) := by decide +kernel
theorem d_St_firstTill_19 : decode mi_St_firstTill.2.1 19 = .ok (.if_icmp .gt 25, 3) := by decide +kernel
theorem d_St_firstTill_22 : decode mi_St_firstTill.2.1 22 = .ok (.iload_n 2, 1) := by decide +kernel
theorem d_St_firstTill_23 : decode mi_St_firstTill.2.1 23 = .ok (.iconst (-1), 1) := by decide +kernel
theorem d_St_firstTill_24 : decode mi_St_firstTill.2.1 24 = .ok (.if_icmp .eq 18, 3) := by decide +kernel
theorem d_St_firstTill_27 : decode mi_St_firstTill.2.1 27 = .ok (.aload_n 0, 1) := by decide +kernel
theorem d_St_firstTill_28 : decode mi_St_firstTill.2.1 28 = .ok (.getfield 9, 3) := by decide +kernel
theorem d_St_firstTill_31 : decode mi_St_firstTill.2.1 31 = .ok (.iload_n 3, 1) := by decide +kernel
theorem d_St_firstTill_32 : decode mi_St_firstTill.2.1 32 = .ok (.iaload, 1) := by decide +kernel
theorem d_St_firstTill_33 : decode mi_St_firstTill.2.1 33 = .ok (.aload_n 0, 1) := by decide +kernel
theorem d_St_firstTill_34 : decode mi_St_firstTill.2.1 34 = .ok (.getfield 9, 3) := by decide +kernel
theorem d_St_firstTill_37 : decode mi_St_firstTill.2.1 37 = .ok (.iload_n 2, 1) := by decide +kernel
theorem d_St_firstTill_38 : decode mi_St_firstTill.2.1 38 = .ok (.iaload, 1) := by decide +kernel
theorem d_St_firstTill_39 : decode mi_St_firstTill.2.1 39 = .ok (.if_icmp .ge 5, 3) := by decide +kernel
theorem d_St_firstTill_42 : decode mi_St_firstTill.2.1 42 = .ok (.iload_n 3, 1) := by decide +kernel
theorem d_St_firstTill_43 : decode mi_St_firstTill.2.1 43 = .ok (.istore_n 2, 1) := by decide +kernel
theorem d_St_firstTill_44 : decode mi_St_firstTill.2.1 44 = .ok (.iinc 3 1, 3) := by decide +kernel
theorem d_St_firstTill_47 : decode mi_St_firstTill.2.1 47 = .ok (.goto (-43), 3) := by decide +kernel
theorem d_St_firstTill_50 : decode mi_St_firstTill.2.1 50 = .ok (.iload_n 2, 1) := by decide +kernel
theorem d_St_firstTill_51 : decode mi_St_firstTill.2.1 51 = .ok (.ireturn, 1) := by decide +kernel
theorem d_De_setPart_0 : decode mi_De_setPart.2.1 0 = .ok (.iload_n 1, 1) := by decide +kernel
theorem d_De_setPart_1 : decode mi_De_setPart.2.1 1 = .ok (.ifCond .lt 21, 3) := by decide +kernel
theorem d_De_setPart_4 : decode mi_De_setPart.2.1 4 = .ok (.iload_n 1, 1) := by decide +kernel
theorem d_De_setPart_5 : decode mi_De_setPart.2.1 5 = .ok (.aload_n 0, 1) := by decide +kernel
theorem d_De_setPart_6 : decode mi_De_setPart.2.1 6 = .ok (.getfield 24, 3) := by decide +kernel
theorem d_De_setPart_9 : decode mi_De_setPart.2.1 9 = .ok (.if_icmp .ge 13, 3) := by decide +kernel
theorem d_De_setPart_12 : decode mi_De_setPart.2.1 12 = .ok (.iload_n 3, 1) := by decide +kernel
theorem d_De_setPart_13 : decode mi_De_setPart.2.1 13 = .ok (.iconst 1, 1) := by decide +kernel
theorem d_De_setPart_14 : decode mi_De_setPart.2.1 14 = .ok (.if_icmp .lt 8, 3) := by decide +kernel
theorem d_De_setPart_17 : decode mi_De_setPart.2.1 17 = .ok (.iload_n 3, 1) := by decide +kernel
theorem d_De_setPart_18 : decode mi_De_setPart.2.1 18 = .ok (.iconst 3, 1) := by decide +kernel
theorem d_De_setPart_19 : decode mi_De_setPart.2.1 19 = .ok (.if_icmp .le 4, 3) := by decide +kernel
theorem d_De_setPart_22 : decode mi_De_setPart.2.1 22 = .ok (.return_, 1) := by decide +kernel
theorem d_De_setPart_23 : decode mi_De_setPart.2.1 23 = .ok (.aload_n 0, 1) := by decide +kernel
theorem d_De_setPart_24 : decode mi_De_setPart.2.1 24 = .ok (.getfield 20, 3) := by decide +kernel
theorem d_De_setPart_27 : decode mi_De_setPart.2.1 27 = .ok (.iload_n 1, 1) := by decide +kernel
theorem d_De_setPart_28 : decode mi_De_setPart.2.1 28 = .ok (.aaload, 1) := by decide +kernel
theorem d_De_setPart_29 : decode mi_De_setPart.2.1 29 = .ok (.iload_n 2, 1) := by decide +kernel
theorem d_De_setPart_30 : decode mi_De_setPart.2.1 30 = .ok (.invokevirtual 108, 3) := by decide +kernel
theorem d_De_setPart_33 : decode mi_De_setPart.2.1 33 = .ok (.ifCond .eq 23, 3) := by decide +kernel
theorem d_De_setPart_36 : decode mi_De_setPart.2.1 36 = .ok (.aload_n 0, 1) := by decide +kernel
theorem d_De_setPart_37 : decode mi_De_setPart.2.1 37 = .ok (.getfield 20, 3) := by decide +kernel
theorem d_De_setPart_40 : decode mi_De_setPart.2.1 40 = .ok (.iload_n 1, 1) := by decide +kernel
theorem d_De_setPart_41 : decode mi_De_setPart.2.1 41 = .ok (.aaload, 1) := by decide +kernel
theorem d_De_setPart_42 : decode mi_De_setPart.2.1 42 = .ok (.getfield 112, 3) := by decide +kernel
theorem d_De_setPart_45 : decode mi_De_setPart.2.1 45 = .ok (.iload_n 2, 1) := by decide +kernel
theorem d_De_setPart_46 : decode mi_De_setPart.2.1 46 = .ok (.aaload, 1) := by decide +kernel
theorem d_De_setPart_47 : decode mi_De_setPart.2.1 47 = .ok (.getfield 115, 3) := by decide +kernel
theorem d_De_setPart_50 : decode mi_De_setPart.2.1 50 = .ok (.iload_n 3, 1) := by decide +kernel
theorem d_De_setPart_51 : decode mi_De_setPart.2.1 51 = .ok (.iconst 1, 1) := by decide +kernel
theorem d_De_setPart_52 : decode mi_De_setPart.2.1 52 = .ok (.isub, 1) := by decide +kernel
theorem d_De_setPart_53 : decode mi_De_setPart.2.1 53 = .ok (.iload 4, 2) := by decide +kernel
theorem d_De_setPart_55 : decode mi_De_setPart.2.1 55 = .ok (.iastore, 1) := by decide +kernel
theorem d_De_setPart_56 : decode mi_De_setPart.2.1 56 = .ok (.return_, 1) := by decide +kernel
theorem d_Fe_isShared_0 : decode mi_Fe_isShared.2.1 0 = .ok (.iload_n 1, 1) := by decide +kernel
theorem d_Fe_isShared_1 : decode mi_Fe_isShared.2.1 1 = .ok (.ifCond .lt 27, 3) := by decide +kernel
theorem d_Fe_isShared_4 : decode mi_Fe_isShared.2.1 4 = .ok (.iload_n 1, 1) := by decide +kernel
theorem d_Fe_isShared_5 : decode mi_Fe_isShared.2.1 5 = .ok (.aload_n 0, 1) := by decide +kernel
theorem d_Fe_isShared_6 : decode mi_Fe_isShared.2.1 6 = .ok (.getfield 30, 3) := by decide +kernel
theorem d_Fe_isShared_9 : decode mi_Fe_isShared.2.1 9 = .ok (.if_icmp .ge 19, 3) := by decide +kernel
theorem d_Fe_isShared_12 : decode mi_Fe_isShared.2.1 12 = .ok (.aload_n 0, 1) := by decide +kernel
theorem d_Fe_isShared_13 : decode mi_Fe_isShared.2.1 13 = .ok (.getfield 26, 3) := by decide +kernel
theorem d_Fe_isShared_16 : decode mi_Fe_isShared.2.1 16 = .ok (.iload_n 1, 1) := by decide +kernel
theorem d_Fe_isShared_17 : decode mi_Fe_isShared.2.1 17 = .ok (.aaload, 1) := by decide +kernel
theorem d_Fe_isShared_18 : decode mi_Fe_isShared.2.1 18 = .ok (.invokevirtual 95, 3) := by decide +kernel
theorem d_Fe_isShared_21 : decode mi_Fe_isShared.2.1 21 = .ok (.ifCond .ne 7, 3) := by decide +kernel
theorem d_Fe_isShared_24 : decode mi_Fe_isShared.2.1 24 = .ok (.iconst 1, 1) := by decide +kernel
theorem d_Fe_isShared_25 : decode mi_Fe_isShared.2.1 25 = .ok (.goto 4, 3) := by decide +kernel
theorem d_Fe_isShared_28 : decode mi_Fe_isShared.2.1 28 = .ok (.iconst 0, 1) := by decide +kernel
theorem d_Fe_isShared_29 : decode mi_Fe_isShared.2.1 29 = .ok (.ireturn, 1) := by decide +kernel
theorem d_St_remove_0 : decode mi_St_remove.2.1 0 = .ok (.iload_n 1, 1) := by decide +kernel
theorem d_St_remove_1 : decode mi_St_remove.2.1 1 = .ok (.istore_n 2, 1) := by decide +kernel
theorem d_St_remove_2 : decode mi_St_remove.2.1 2 = .ok (.iload_n 2, 1) := by decide +kernel
theorem d_St_remove_3 : decode mi_St_remove.2.1 3 = .ok (.iconst 1, 1) := by decide +kernel
theorem d_St_remove_4 : decode mi_St_remove.2.1 4 = .ok (.iadd, 1) := by decide +kernel
theorem d_St_remove_5 : decode mi_St_remove.2.1 5 = .ok (.aload_n 0, 1) := by decide +kernel
theorem d_St_remove_6 : decode mi_St_remove.2.1 6 = .ok (.getfield 27, 3) := by decide +kernel
theorem d_St_remove_9 : decode mi_St_remove.2.1 9 = .ok (.if_icmp .ge 18, 3) := by decide +kernel
theorem d_St_remove_12 : decode mi_St_remove.2.1 12 = .ok (.aload_n 0, 1) := by decide +kernel
theorem d_St_remove_13 : decode mi_St_remove.2.1 13 = .ok (.aload_n 0, 1) := by decide +kernel
theorem d_St_remove_14 : decode mi_St_remove.2.1 14 = .ok (.iload_n 2, 1) := by decide +kernel
theorem d_St_remove_15 : decode mi_St_remove.2.1 15 = .ok (.iconst 1, 1) := by decide +kernel
theorem d_St_remove_16 : decode mi_St_remove.2.1 16 = .ok (.iadd, 1) := by decide +kernel
theorem d_St_remove_17 : decode mi_St_remove.2.1 17 = .ok (.iload_n 2, 1) := by decide +kernel
theorem d_St_remove_18 : decode mi_St_remove.2.1 18 = .ok (.invokevirtual 31, 3) := by decide +kernel
theorem d_St_remove_21 : decode mi_St_remove.2.1 21 = .ok (.iinc 2 1, 3) := by decide +kernel
theorem d_St_remove_24 : decode mi_St_remove.2.1 24 = .ok (.goto (-22), 3) := by decide +kernel
theorem d_St_remove_27 : decode mi_St_remove.2.1 27 = .ok (.aload_n 0, 1) := by decide +kernel
theorem d_St_remove_28 : decode mi_St_remove.2.1 28 = .ok (.dup, 1) := by decide +kernel
theorem d_St_remove_29 : decode mi_St_remove.2.1 29 = .ok (.getfield 27, 3) := by decide +kernel
theorem d_St_remove_32 : decode mi_St_remove.2.1 32 = .ok (.iconst 1, 1) := by decide +kernel
theorem d_St_remove_33 : decode mi_St_remove.2.1 33 = .ok (.isub, 1) := by decide +kernel
theorem d_St_remove_34 : decode mi_St_remove.2.1 34 = .ok (.putfield 27, 3) := by decide +kernel
theorem d_St_remove_37 : decode mi_St_remove.2.1 37 = .ok (.return_, 1) := by decide +kernel
theorem d_St_takeFrom_0 : decode mi_St_takeFrom.2.1 0 = .ok (.aload_n 0, 1) := by decide +kernel
theorem d_St_takeFrom_1 : decode mi_St_takeFrom.2.1 1 = .ok (.getfield 9, 3) := by decide +kernel
theorem d_St_takeFrom_4 : decode mi_St_takeFrom.2.1 4 = .ok (.iload_n 3, 1) := by decide +kernel
theorem d_St_takeFrom_5 : decode mi_St_takeFrom.2.1 5 = .ok (.aload_n 1, 1) := by decide +kernel
theorem d_St_takeFrom_6 : decode mi_St_takeFrom.2.1 6 = .ok (.getfield 9, 3) := by decide +kernel
theorem d_St_takeFrom_9 : decode mi_St_takeFrom.2.1 9 = .ok (.iload_n 2, 1) := by decide +kernel
theorem d_St_takeFrom_10 : decode mi_St_takeFrom.2.1 10 = .ok (.iaload, 1) := by decide +kernel
theorem d_St_takeFrom_11 : decode mi_St_takeFrom.2.1 11 = .ok (.iastore, 1) := by decide +kernel
theorem d_St_takeFrom_12 : decode mi_St_takeFrom.2.1 12 = .ok (.aload_n 0, 1) := by decide +kernel
theorem d_St_takeFrom_13 : decode mi_St_takeFrom.2.1 13 = .ok (.getfield 15, 3) := by decide +kernel
theorem d_St_takeFrom_16 : decode mi_St_takeFrom.2.1 16 = .ok (.iload_n 3, 1) := by decide +kernel
theorem d_St_takeFrom_17 : decode mi_St_takeFrom.2.1 17 = .ok (.aload_n 1, 1) := by decide +kernel
theorem d_St_takeFrom_18 : decode mi_St_takeFrom.2.1 18 = .ok (.getfield 15, 3) := by decide +kernel
theorem d_St_takeFrom_21 : decode mi_St_takeFrom.2.1 21 = .ok (.iload_n 2, 1) := by decide +kernel
theorem d_St_takeFrom_22 : decode mi_St_takeFrom.2.1 22 = .ok (.iaload, 1) := by decide +kernel
theorem d_St_takeFrom_23 : decode mi_St_takeFrom.2.1 23 = .ok (.iastore, 1) := by decide +kernel
theorem d_St_takeFrom_24 : decode mi_St_takeFrom.2.1 24 = .ok (.aload_n 0, 1) := by decide +kernel
theorem d_St_takeFrom_25 : decode mi_St_takeFrom.2.1 25 = .ok (.getfield 18, 3) := by decide +kernel
theorem d_St_takeFrom_28 : decode mi_St_takeFrom.2.1 28 = .ok (.iload_n 3, 1) := by decide +kernel
theorem d_St_takeFrom_29 : decode mi_St_takeFrom.2.1 29 = .ok (.aload_n 1, 1) := by decide +kernel
theorem d_St_takeFrom_30 : decode mi_St_takeFrom.2.1 30 = .ok (.getfield 18, 3) := by decide +kernel
theorem d_St_takeFrom_33 : decode mi_St_takeFrom.2.1 33 = .ok (.iload_n 2, 1) := by decide +kernel
theorem d_St_takeFrom_34 : decode mi_St_takeFrom.2.1 34 = .ok (.iaload, 1) := by decide +kernel
theorem d_St_takeFrom_35 : decode mi_St_takeFrom.2.1 35 = .ok (.iastore, 1) := by decide +kernel
theorem d_St_takeFrom_36 : decode mi_St_takeFrom.2.1 36 = .ok (.aload_n 0, 1) := by decide +kernel
theorem d_St_takeFrom_37 : decode mi_St_takeFrom.2.1 37 = .ok (.getfield 21, 3) := by decide +kernel
theorem d_St_takeFrom_40 : decode mi_St_takeFrom.2.1 40 = .ok (.iload_n 3, 1) := by decide +kernel
theorem d_St_takeFrom_41 : decode mi_St_takeFrom.2.1 41 = .ok (.aload_n 1, 1) := by decide +kernel
theorem d_St_takeFrom_42 : decode mi_St_takeFrom.2.1 42 = .ok (.getfield 21, 3) := by decide +kernel
theorem d_St_takeFrom_45 : decode mi_St_takeFrom.2.1 45 = .ok (.iload_n 2, 1) := by decide +kernel
theorem d_St_takeFrom_46 : decode mi_St_takeFrom.2.1 46 = .ok (.iaload, 1) := by decide +kernel
theorem d_St_takeFrom_47 : decode mi_St_takeFrom.2.1 47 = .ok (.iastore, 1) := by decide +kernel
theorem d_St_takeFrom_48 : decode mi_St_takeFrom.2.1 48 = .ok (.aload_n 0, 1) := by decide +kernel
theorem d_St_takeFrom_49 : decode mi_St_takeFrom.2.1 49 = .ok (.getfield 24, 3) := by decide +kernel
theorem d_St_takeFrom_52 : decode mi_St_takeFrom.2.1 52 = .ok (.iload_n 3, 1) := by decide +kernel
theorem d_St_takeFrom_53 : decode mi_St_takeFrom.2.1 53 = .ok (.aload_n 1, 1) := by decide +kernel
theorem d_St_takeFrom_54 : decode mi_St_takeFrom.2.1 54 = .ok (.getfield 24, 3) := by decide +kernel
theorem d_St_takeFrom_57 : decode mi_St_takeFrom.2.1 57 = .ok (.iload_n 2, 1) := by decide +kernel
theorem d_St_takeFrom_58 : decode mi_St_takeFrom.2.1 58 = .ok (.iaload, 1) := by decide +kernel
theorem d_St_takeFrom_59 : decode mi_St_takeFrom.2.1 59 = .ok (.iastore, 1) := by decide +kernel
theorem d_St_takeFrom_60 : decode mi_St_takeFrom.2.1 60 = .ok (.return_, 1) := by decide +kernel
theorem d_An_begin_0 : decode mi_An_begin.2.1 0 = .ok (.aload_n 0, 1) := by decide +kernel
theorem d_An_begin_1 : decode mi_An_begin.2.1 1 = .ok (.iconst 0, 1) := by decide +kernel
theorem d_An_begin_2 : decode mi_An_begin.2.1 2 = .ok (.putfield 24, 3) := by decide +kernel
theorem d_An_begin_5 : decode mi_An_begin.2.1 5 = .ok (.aload_n 0, 1) := by decide +kernel
theorem d_An_begin_6 : decode mi_An_begin.2.1 6 = .ok (.iconst 0, 1) := by decide +kernel
theorem d_An_begin_7 : decode mi_An_begin.2.1 7 = .ok (.putfield 28, 3) := by decide +kernel
theorem d_An_begin_10 : decode mi_An_begin.2.1 10 = .ok (.return_, 1) := by decide +kernel
theorem d_An_knows_0 : decode mi_An_knows.2.1 0 = .ok (.aload_n 0, 1) := by decide +kernel
theorem d_An_knows_1 : decode mi_An_knows.2.1 1 = .ok (.getfield 28, 3) := by decide +kernel
theorem d_An_knows_4 : decode mi_An_knows.2.1 4 = .ok (.iload_n 1, 1) := by decide +kernel
theorem d_An_knows_5 : decode mi_An_knows.2.1 5 = .ok (.invokestatic 31, 3) := by decide +kernel
theorem d_An_knows_8 : decode mi_An_knows.2.1 8 = .ok (.ireturn, 1) := by decide +kernel
theorem d_An_put_0 : decode mi_An_put.2.1 0 = .ok (.iload_n 1, 1) := by decide +kernel
theorem d_An_put_1 : decode mi_An_put.2.1 1 = .ok (.ifCond .lt 18, 3) := by decide +kernel
theorem d_An_put_4 : decode mi_An_put.2.1 4 = .ok (.iload_n 1, 1) := by decide +kernel
theorem d_An_put_5 : decode mi_An_put.2.1 5 = .ok (.bipush 12, 2) := by decide +kernel
theorem d_An_put_7 : decode mi_An_put.2.1 7 = .ok (.if_icmp .ge 12, 3) := by decide +kernel
theorem d_An_put_10 : decode mi_An_put.2.1 10 = .ok (.aload_n 0, 1) := by decide +kernel
theorem d_An_put_11 : decode mi_An_put.2.1 11 = .ok (.getfield 24, 3) := by decide +kernel
theorem d_An_put_14 : decode mi_An_put.2.1 14 = .ok (.bipush 12, 2) := by decide +kernel
theorem d_An_put_16 : decode mi_An_put.2.1 16 = .ok (.if_icmp .lt 4, 3) := by decide +kernel
theorem d_An_put_19 : decode mi_An_put.2.1 19 = .ok (.return_, 1) := by decide +kernel
theorem d_An_put_20 : decode mi_An_put.2.1 20 = .ok (.aload_n 0, 1) := by decide +kernel
theorem d_An_put_21 : decode mi_An_put.2.1 21 = .ok (.getfield 9, 3) := by decide +kernel
theorem d_An_put_24 : decode mi_An_put.2.1 24 = .ok (.iload_n 1, 1) := by decide +kernel
theorem d_An_put_25 : decode mi_An_put.2.1 25 = .ok (.iload_n 2, 1) := by decide +kernel
theorem d_An_put_26 : decode mi_An_put.2.1 26 = .ok (.iastore, 1) := by decide +kernel
theorem d_An_put_27 : decode mi_An_put.2.1 27 = .ok (.aload_n 0, 1) := by decide +kernel
theorem d_An_put_28 : decode mi_An_put.2.1 28 = .ok (.getfield 15, 3) := by decide +kernel
theorem d_An_put_31 : decode mi_An_put.2.1 31 = .ok (.iload_n 1, 1) := by decide +kernel
theorem d_An_put_32 : decode mi_An_put.2.1 32 = .ok (.iload_n 3, 1) := by decide +kernel
theorem d_An_put_33 : decode mi_An_put.2.1 33 = .ok (.iastore, 1) := by decide +kernel
theorem d_An_put_34 : decode mi_An_put.2.1 34 = .ok (.aload_n 0, 1) := by decide +kernel
theorem d_An_put_35 : decode mi_An_put.2.1 35 = .ok (.getfield 18, 3) := by decide +kernel
theorem d_An_put_38 : decode mi_An_put.2.1 38 = .ok (.iload_n 1, 1) := by decide +kernel
theorem d_An_put_39 : decode mi_An_put.2.1 39 = .ok (.iload 4, 2) := by decide +kernel
theorem d_An_put_41 : decode mi_An_put.2.1 41 = .ok (.iastore, 1) := by decide +kernel
theorem d_An_put_42 : decode mi_An_put.2.1 42 = .ok (.aload_n 0, 1) := by decide +kernel
theorem d_An_put_43 : decode mi_An_put.2.1 43 = .ok (.getfield 21, 3) := by decide +kernel
theorem d_An_put_46 : decode mi_An_put.2.1 46 = .ok (.aload_n 0, 1) := by decide +kernel
theorem d_An_put_47 : decode mi_An_put.2.1 47 = .ok (.getfield 24, 3) := by decide +kernel
theorem d_An_put_50 : decode mi_An_put.2.1 50 = .ok (.iload_n 1, 1) := by decide +kernel
theorem d_An_put_51 : decode mi_An_put.2.1 51 = .ok (.iastore, 1) := by decide +kernel
theorem d_An_put_52 : decode mi_An_put.2.1 52 = .ok (.aload_n 0, 1) := by decide +kernel
theorem d_An_put_53 : decode mi_An_put.2.1 53 = .ok (.dup, 1) := by decide +kernel
theorem d_An_put_54 : decode mi_An_put.2.1 54 = .ok (.getfield 24, 3) := by decide +kernel
theorem d_An_put_57 : decode mi_An_put.2.1 57 = .ok (.iconst 1, 1) := by decide +kernel
theorem d_An_put_58 : decode mi_An_put.2.1 58 = .ok (.iadd, 1) := by decide +kernel
theorem d_An_put_59 : decode mi_An_put.2.1 59 = .ok (.putfield 24, 3) := by decide +kernel
theorem d_An_put_62 : decode mi_An_put.2.1 62 = .ok (.aload_n 0, 1) := by decide +kernel
theorem d_An_put_63 : decode mi_An_put.2.1 63 = .ok (.dup, 1) := by decide +kernel
theorem d_An_put_64 : decode mi_An_put.2.1 64 = .ok (.getfield 28, 3) := by decide +kernel
theorem d_An_put_67 : decode mi_An_put.2.1 67 = .ok (.iconst 1, 1) := by decide +kernel
theorem d_An_put_68 : decode mi_An_put.2.1 68 = .ok (.iload_n 1, 1) := by decide +kernel
theorem d_An_put_69 : decode mi_An_put.2.1 69 = .ok (.ishl, 1) := by decide +kernel
theorem d_An_put_70 : decode mi_An_put.2.1 70 = .ok (.ior, 1) := by decide +kernel
theorem d_An_put_71 : decode mi_An_put.2.1 71 = .ok (.putfield 28, 3) := by decide +kernel
theorem d_An_put_74 : decode mi_An_put.2.1 74 = .ok (.return_, 1) := by decide +kernel
theorem d_An_variantOf_0 : decode mi_An_variantOf.2.1 0 = .ok (.iload_n 1, 1) := by decide +kernel
theorem d_An_variantOf_1 : decode mi_An_variantOf.2.1 1 = .ok (.ifCond .lt 18, 3) := by decide +kernel
theorem d_An_variantOf_4 : decode mi_An_variantOf.2.1 4 = .ok (.iload_n 1, 1) := by decide +kernel
theorem d_An_variantOf_5 : decode mi_An_variantOf.2.1 5 = .ok (.bipush 12, 2) := by decide +kernel
theorem d_An_variantOf_7 : decode mi_An_variantOf.2.1 7 = .ok (.if_icmp .ge 12, 3) := by decide +kernel
theorem d_An_variantOf_10 : decode mi_An_variantOf.2.1 10 = .ok (.aload_n 0, 1) := by decide +kernel
theorem d_An_variantOf_11 : decode mi_An_variantOf.2.1 11 = .ok (.getfield 9, 3) := by decide +kernel
theorem d_An_variantOf_14 : decode mi_An_variantOf.2.1 14 = .ok (.iload_n 1, 1) := by decide +kernel
theorem d_An_variantOf_15 : decode mi_An_variantOf.2.1 15 = .ok (.iaload, 1) := by decide +kernel
theorem d_An_variantOf_16 : decode mi_An_variantOf.2.1 16 = .ok (.goto 4, 3) := by decide +kernel
theorem d_An_variantOf_19 : decode mi_An_variantOf.2.1 19 = .ok (.iconst (-1), 1) := by decide +kernel
theorem d_An_variantOf_20 : decode mi_An_variantOf.2.1 20 = .ok (.ireturn, 1) := by decide +kernel
theorem d_Ru_variantOf_0 : decode mi_Ru_variantOf.2.1 0 = .ok (.aload_n 0, 1) := by decide +kernel
theorem d_Ru_variantOf_1 : decode mi_Ru_variantOf.2.1 1 = .ok (.invokevirtual 35, 3) := by decide +kernel
theorem d_Ru_variantOf_4 : decode mi_Ru_variantOf.2.1 4 = .ok (.ifCond .eq 8, 3) := by decide +kernel
theorem d_Ru_variantOf_7 : decode mi_Ru_variantOf.2.1 7 = .ok (.aload_n 0, 1) := by decide +kernel
theorem d_Ru_variantOf_8 : decode mi_Ru_variantOf.2.1 8 = .ok (.getfield 15, 3) := by decide +kernel
theorem d_Ru_variantOf_11 : decode mi_Ru_variantOf.2.1 11 = .ok (.ireturn, 1) := by decide +kernel
theorem d_Ru_variantOf_12 : decode mi_Ru_variantOf.2.1 12 = .ok (.iconst 1, 1) := by decide +kernel
theorem d_Ru_variantOf_13 : decode mi_Ru_variantOf.2.1 13 = .ok (.istore_n 2, 1) := by decide +kernel
theorem d_Ru_variantOf_14 : decode mi_Ru_variantOf.2.1 14 = .ok (.iload_n 2, 1) := by decide +kernel
theorem d_Ru_variantOf_15 : decode mi_Ru_variantOf.2.1 15 = .ok (.iconst 3, 1) := by decide +kernel
theorem d_Ru_variantOf_16 : decode mi_Ru_variantOf.2.1 16 = .ok (.if_icmp .gt 35, 3) := by decide +kernel
theorem d_Ru_variantOf_19 : decode mi_Ru_variantOf.2.1 19 = .ok (.iload_n 2, 1) := by decide +kernel
theorem d_Ru_variantOf_20 : decode mi_Ru_variantOf.2.1 20 = .ok (.invokestatic 39, 3) := by decide +kernel
theorem d_Ru_variantOf_23 : decode mi_Ru_variantOf.2.1 23 = .ok (.istore_n 3, 1) := by decide +kernel
theorem d_Ru_variantOf_24 : decode mi_Ru_variantOf.2.1 24 = .ok (.iload_n 1, 1) := by decide +kernel
theorem d_Ru_variantOf_25 : decode mi_Ru_variantOf.2.1 25 = .ok (.iload_n 3, 1) := by decide +kernel
theorem d_Ru_variantOf_26 : decode mi_Ru_variantOf.2.1 26 = .ok (.if_icmp .lt 19, 3) := by decide +kernel
theorem d_Ru_variantOf_29 : decode mi_Ru_variantOf.2.1 29 = .ok (.iload_n 1, 1) := by decide +kernel
theorem d_Ru_variantOf_30 : decode mi_Ru_variantOf.2.1 30 = .ok (.iload_n 3, 1) := by decide +kernel
theorem d_Ru_variantOf_31 : decode mi_Ru_variantOf.2.1 31 = .ok (.aload_n 0, 1) := by decide +kernel
theorem d_Ru_variantOf_32 : decode mi_Ru_variantOf.2.1 32 = .ok (.getfield 19, 3) := by decide +kernel
theorem d_Ru_variantOf_35 : decode mi_Ru_variantOf.2.1 35 = .ok (.iload_n 2, 1) := by decide +kernel
theorem d_Ru_variantOf_36 : decode mi_Ru_variantOf.2.1 36 = .ok (.iconst 1, 1) := by decide +kernel
theorem d_Ru_variantOf_37 : decode mi_Ru_variantOf.2.1 37 = .ok (.isub, 1) := by decide +kernel
theorem d_Ru_variantOf_38 : decode mi_Ru_variantOf.2.1 38 = .ok (.iaload, 1) := by decide +kernel
theorem d_Ru_variantOf_39 : decode mi_Ru_variantOf.2.1 39 = .ok (.iadd, 1) := by decide +kernel
theorem d_Ru_variantOf_40 : decode mi_Ru_variantOf.2.1 40 = .ok (.if_icmp .ge 5, 3) := by decide +kernel
theorem d_Ru_variantOf_43 : decode mi_Ru_variantOf.2.1 43 = .ok (.iload_n 2, 1) := by decide +kernel
theorem d_Ru_variantOf_44 : decode mi_Ru_variantOf.2.1 44 = .ok (.ireturn, 1) := by decide +kernel
theorem d_Ru_variantOf_45 : decode mi_Ru_variantOf.2.1 45 = .ok (.iinc 2 1, 3) := by decide +kernel
theorem d_Ru_variantOf_48 : decode mi_Ru_variantOf.2.1 48 = .ok (.goto (-34), 3) := by decide +kernel
theorem d_Ru_variantOf_51 : decode mi_Ru_variantOf.2.1 51 = .ok (.iconst 0, 1) := by decide +kernel
theorem d_Ru_variantOf_52 : decode mi_Ru_variantOf.2.1 52 = .ok (.ireturn, 1) := by decide +kernel
theorem d_Fe_count_0 : decode mi_Fe_count.2.1 0 = .ok (.iload_n 1, 1) := by decide +kernel
theorem d_Fe_count_1 : decode mi_Fe_count.2.1 1 = .ok (.ifCond .lt 18, 3) := by decide +kernel
theorem d_Fe_count_4 : decode mi_Fe_count.2.1 4 = .ok (.iload_n 1, 1) := by decide +kernel
theorem d_Fe_count_5 : decode mi_Fe_count.2.1 5 = .ok (.iconst 3, 1) := by decide +kernel
theorem d_Fe_count_6 : decode mi_Fe_count.2.1 6 = .ok (.if_icmp .gt 13, 3) := by decide +kernel
theorem d_Fe_count_9 : decode mi_Fe_count.2.1 9 = .ok (.aload_n 0, 1) := by decide +kernel
theorem d_Fe_count_10 : decode mi_Fe_count.2.1 10 = .ok (.getfield 49, 3) := by decide +kernel
theorem d_Fe_count_13 : decode mi_Fe_count.2.1 13 = .ok (.iload_n 1, 1) := by decide +kernel
theorem d_Fe_count_14 : decode mi_Fe_count.2.1 14 = .ok (.dup2, 1) := by decide +kernel
theorem d_Fe_count_15 : decode mi_Fe_count.2.1 15 = .ok (.iaload, 1) := by decide +kernel
theorem d_Fe_count_16 : decode mi_Fe_count.2.1 16 = .ok (.iconst 1, 1) := by decide +kernel
theorem d_Fe_count_17 : decode mi_Fe_count.2.1 17 = .ok (.iadd, 1) := by decide +kernel
theorem d_Fe_count_18 : decode mi_Fe_count.2.1 18 = .ok (.iastore, 1) := by decide +kernel
theorem d_Fe_count_19 : decode mi_Fe_count.2.1 19 = .ok (.return_, 1) := by decide +kernel
theorem d_De_become_0 : decode mi_De_become.2.1 0 = .ok (.aload_n 0, 1) := by decide +kernel
theorem d_De_become_1 : decode mi_De_become.2.1 1 = .ok (.getfield 12, 3) := by decide +kernel
theorem d_De_become_4 : decode mi_De_become.2.1 4 = .ok (.aload_n 1, 1) := by decide +kernel
theorem d_De_become_5 : decode mi_De_become.2.1 5 = .ok (.getfield 12, 3) := by decide +kernel
theorem d_De_become_8 : decode mi_De_become.2.1 8 = .ok (.invokevirtual 45, 3) := by decide +kernel
theorem d_De_become_11 : decode mi_De_become.2.1 11 = .ok (.iconst 0, 1) := by decide +kernel
theorem d_De_become_12 : decode mi_De_become.2.1 12 = .ok (.istore_n 2, 1) := by decide +kernel
theorem d_De_become_13 : decode mi_De_become.2.1 13 = .ok (.iload_n 2, 1) := by decide +kernel
theorem d_De_become_14 : decode mi_De_become.2.1 14 = .ok (.bipush 12, 2) := by decide +kernel
theorem d_De_become_16 : decode mi_De_become.2.1 16 = .ok (.if_icmp .ge 24, 3) := by decide +kernel
theorem d_De_become_19 : decode mi_De_become.2.1 19 = .ok (.aload_n 0, 1) := by decide +kernel
theorem d_De_become_20 : decode mi_De_become.2.1 20 = .ok (.getfield 20, 3) := by decide +kernel
theorem d_De_become_23 : decode mi_De_become.2.1 23 = .ok (.iload_n 2, 1) := by decide +kernel
theorem d_De_become_24 : decode mi_De_become.2.1 24 = .ok (.aaload, 1) := by decide +kernel
theorem d_De_become_25 : decode mi_De_become.2.1 25 = .ok (.aload_n 1, 1) := by decide +kernel
theorem d_De_become_26 : decode mi_De_become.2.1 26 = .ok (.getfield 20, 3) := by decide +kernel
theorem d_De_become_29 : decode mi_De_become.2.1 29 = .ok (.iload_n 2, 1) := by decide +kernel
theorem d_De_become_30 : decode mi_De_become.2.1 30 = .ok (.aaload, 1) := by decide +kernel
theorem d_De_become_31 : decode mi_De_become.2.1 31 = .ok (.invokevirtual 49, 3) := by decide +kernel
theorem d_De_become_34 : decode mi_De_become.2.1 34 = .ok (.iinc 2 1, 3) := by decide +kernel
theorem d_De_become_37 : decode mi_De_become.2.1 37 = .ok (.goto (-24), 3) := by decide +kernel
theorem d_De_become_40 : decode mi_De_become.2.1 40 = .ok (.aload_n 0, 1) := by decide +kernel
theorem d_De_become_41 : decode mi_De_become.2.1 41 = .ok (.aload_n 1, 1) := by decide +kernel
theorem d_De_become_42 : decode mi_De_become.2.1 42 = .ok (.getfield 24, 3) := by decide +kernel
theorem d_De_become_45 : decode mi_De_become.2.1 45 = .ok (.putfield 24, 3) := by decide +kernel
theorem d_De_become_48 : decode mi_De_become.2.1 48 = .ok (.aload_n 0, 1) := by decide +kernel
theorem d_De_become_49 : decode mi_De_become.2.1 49 = .ok (.getfield 31, 3) := by decide +kernel
theorem d_De_become_52 : decode mi_De_become.2.1 52 = .ok (.aload_n 1, 1) := by decide +kernel
theorem d_De_become_53 : decode mi_De_become.2.1 53 = .ok (.getfield 31, 3) := by decide +kernel
theorem d_De_become_56 : decode mi_De_become.2.1 56 = .ok (.invokevirtual 52, 3) := by decide +kernel
theorem d_De_become_59 : decode mi_De_become.2.1 59 = .ok (.aload_n 0, 1) := by decide +kernel
theorem d_De_become_60 : decode mi_De_become.2.1 60 = .ok (.aload_n 1, 1) := by decide +kernel
theorem d_De_become_61 : decode mi_De_become.2.1 61 = .ok (.getfield 35, 3) := by decide +kernel
theorem d_De_become_64 : decode mi_De_become.2.1 64 = .ok (.putfield 35, 3) := by decide +kernel
theorem d_De_become_67 : decode mi_De_become.2.1 67 = .ok (.aload_n 0, 1) := by decide +kernel
theorem d_De_become_68 : decode mi_De_become.2.1 68 = .ok (.aload_n 1, 1) := by decide +kernel
theorem d_De_become_69 : decode mi_De_become.2.1 69 = .ok (.getfield 38, 3) := by decide +kernel
theorem d_De_become_72 : decode mi_De_become.2.1 72 = .ok (.putfield 38, 3) := by decide +kernel
theorem d_De_become_75 : decode mi_De_become.2.1 75 = .ok (.aload_n 0, 1) := by decide +kernel
theorem d_De_become_76 : decode mi_De_become.2.1 76 = .ok (.aload_n 1, 1) := by decide +kernel
theorem d_De_become_77 : decode mi_De_become.2.1 77 = .ok (.getfield 41, 3) := by decide +kernel
theorem d_De_become_80 : decode mi_De_become.2.1 80 = .ok (.putfield 41, 3) := by decide +kernel
theorem d_De_become_83 : decode mi_De_become.2.1 83 = .ok (.return_, 1) := by decide +kernel
theorem d_Pe_become_0 : decode mi_Pe_become.2.1 0 = .ok (.aload_n 1, 1) := by decide +kernel
theorem d_Pe_become_1 : decode mi_Pe_become.2.1 1 = .ok (.getfield 9, 3) := by decide +kernel
theorem d_Pe_become_4 : decode mi_Pe_become.2.1 4 = .ok (.iconst 0, 1) := by decide +kernel
theorem d_Pe_become_5 : decode mi_Pe_become.2.1 5 = .ok (.aload_n 0, 1) := by decide +kernel
theorem d_Pe_become_6 : decode mi_Pe_become.2.1 6 = .ok (.getfield 9, 3) := by decide +kernel
theorem d_Pe_become_9 : decode mi_Pe_become.2.1 9 = .ok (.iconst 0, 1) := by decide +kernel
theorem d_Pe_become_10 : decode mi_Pe_become.2.1 10 = .ok (.bipush 24, 2) := by decide +kernel
theorem d_Pe_become_12 : decode mi_Pe_become.2.1 12 = .ok (.invokestatic 22, 3) := by decide +kernel
theorem d_Pe_become_15 : decode mi_Pe_become.2.1 15 = .ok (.aload_n 1, 1) := by decide +kernel
theorem d_Pe_become_16 : decode mi_Pe_become.2.1 16 = .ok (.getfield 15, 3) := by decide +kernel
theorem d_Pe_become_19 : decode mi_Pe_become.2.1 19 = .ok (.iconst 0, 1) := by decide +kernel
theorem d_Pe_become_20 : decode mi_Pe_become.2.1 20 = .ok (.aload_n 0, 1) := by decide +kernel
theorem d_Pe_become_21 : decode mi_Pe_become.2.1 21 = .ok (.getfield 15, 3) := by decide +kernel
theorem d_Pe_become_24 : decode mi_Pe_become.2.1 24 = .ok (.iconst 0, 1) := by decide +kernel
theorem d_Pe_become_25 : decode mi_Pe_become.2.1 25 = .ok (.bipush 24, 2) := by decide +kernel
theorem d_Pe_become_27 : decode mi_Pe_become.2.1 27 = .ok (.invokestatic 22, 3) := by decide +kernel
theorem d_Pe_become_30 : decode mi_Pe_become.2.1 30 = .ok (.aload_n 0, 1) := by decide +kernel
theorem d_Pe_become_31 : decode mi_Pe_become.2.1 31 = .ok (.aload_n 1, 1) := by decide +kernel
theorem d_Pe_become_32 : decode mi_Pe_become.2.1 32 = .ok (.getfield 18, 3) := by decide +kernel
theorem d_Pe_become_35 : decode mi_Pe_become.2.1 35 = .ok (.putfield 18, 3) := by decide +kernel
theorem d_Pe_become_38 : decode mi_Pe_become.2.1 38 = .ok (.return_, 1) := by decide +kernel
theorem d_Fe_become_0 : decode mi_Fe_become.2.1 0 = .ok (.aload_n 0, 1) := by decide +kernel
theorem d_Fe_become_1 : decode mi_Fe_become.2.1 1 = .ok (.aload_n 1, 1) := by decide +kernel
theorem d_Fe_become_2 : decode mi_Fe_become.2.1 2 = .ok (.getfield 9, 3) := by decide +kernel
theorem d_Fe_become_5 : decode mi_Fe_become.2.1 5 = .ok (.putfield 9, 3) := by decide +kernel
theorem d_Fe_become_8 : decode mi_Fe_become.2.1 8 = .ok (.aload_n 0, 1) := by decide +kernel
theorem d_Fe_become_9 : decode mi_Fe_become.2.1 9 = .ok (.aload_n 1, 1) := by decide +kernel
theorem d_Fe_become_10 : decode mi_Fe_become.2.1 10 = .ok (.getfield 15, 3) := by decide +kernel
theorem d_Fe_become_13 : decode mi_Fe_become.2.1 13 = .ok (.putfield 15, 3) := by decide +kernel
theorem d_Fe_become_16 : decode mi_Fe_become.2.1 16 = .ok (.aload_n 0, 1) := by decide +kernel
theorem d_Fe_become_17 : decode mi_Fe_become.2.1 17 = .ok (.aload_n 1, 1) := by decide +kernel
theorem d_Fe_become_18 : decode mi_Fe_become.2.1 18 = .ok (.getfield 18, 3) := by decide +kernel
theorem d_Fe_become_21 : decode mi_Fe_become.2.1 21 = .ok (.putfield 18, 3) := by decide +kernel
theorem d_Fe_become_24 : decode mi_Fe_become.2.1 24 = .ok (.aload_n 0, 1) := by decide +kernel
theorem d_Fe_become_25 : decode mi_Fe_become.2.1 25 = .ok (.aload_n 1, 1) := by decide +kernel
theorem d_Fe_become_26 : decode mi_Fe_become.2.1 26 = .ok (.getfield 21, 3) := by decide +kernel
theorem d_Fe_become_29 : decode mi_Fe_become.2.1 29 = .ok (.putfield 21, 3) := by decide +kernel
theorem d_Fe_become_32 : decode mi_Fe_become.2.1 32 = .ok (.iconst 0, 1) := by decide +kernel
theorem d_Fe_become_33 : decode mi_Fe_become.2.1 33 = .ok (.istore_n 2, 1) := by decide +kernel
theorem d_Fe_become_34 : decode mi_Fe_become.2.1 34 = .ok (.iload_n 2, 1) := by decide +kernel
theorem d_Fe_become_35 : decode mi_Fe_become.2.1 35 = .ok (.bipush 6, 2) := by decide +kernel
theorem d_Fe_become_37 : decode mi_Fe_become.2.1 37 = .ok (.if_icmp .ge 45, 3) := by decide +kernel
theorem d_Fe_become_40 : decode mi_Fe_become.2.1 40 = .ok (.aload_n 0, 1) := by decide +kernel
theorem d_Fe_become_41 : decode mi_Fe_become.2.1 41 = .ok (.getfield 26, 3) := by decide +kernel
theorem d_Fe_become_44 : decode mi_Fe_become.2.1 44 = .ok (.iload_n 2, 1) := by decide +kernel
theorem d_Fe_become_45 : decode mi_Fe_become.2.1 45 = .ok (.aaload, 1) := by decide +kernel
theorem d_Fe_become_46 : decode mi_Fe_become.2.1 46 = .ok (.aload_n 1, 1) := by decide +kernel
theorem d_Fe_become_47 : decode mi_Fe_become.2.1 47 = .ok (.getfield 26, 3) := by decide +kernel
theorem d_Fe_become_50 : decode mi_Fe_become.2.1 50 = .ok (.iload_n 2, 1) := by decide +kernel
theorem d_Fe_become_51 : decode mi_Fe_become.2.1 51 = .ok (.aaload, 1) := by decide +kernel
theorem d_Fe_become_52 : decode mi_Fe_become.2.1 52 = .ok (.getfield 68, 3) := by decide +kernel
theorem d_Fe_become_55 : decode mi_Fe_become.2.1 55 = .ok (.aload_n 1, 1) := by decide +kernel
theorem d_Fe_become_56 : decode mi_Fe_become.2.1 56 = .ok (.getfield 26, 3) := by decide +kernel
theorem d_Fe_become_59 : decode mi_Fe_become.2.1 59 = .ok (.iload_n 2, 1) := by decide +kernel
theorem d_Fe_become_60 : decode mi_Fe_become.2.1 60 = .ok (.aaload, 1) := by decide +kernel
theorem d_Fe_become_61 : decode mi_Fe_become.2.1 61 = .ok (.getfield 72, 3) := by decide +kernel
theorem d_Fe_become_64 : decode mi_Fe_become.2.1 64 = .ok (.aload_n 1, 1) := by decide +kernel
theorem d_Fe_become_65 : decode mi_Fe_become.2.1 65 = .ok (.getfield 26, 3) := by decide +kernel
theorem d_Fe_become_68 : decode mi_Fe_become.2.1 68 = .ok (.iload_n 2, 1) := by decide +kernel
theorem d_Fe_become_69 : decode mi_Fe_become.2.1 69 = .ok (.aaload, 1) := by decide +kernel
theorem d_Fe_become_70 : decode mi_Fe_become.2.1 70 = .ok (.getfield 75, 3) := by decide +kernel
theorem d_Fe_become_73 : decode mi_Fe_become.2.1 73 = .ok (.invokevirtual 78, 3) := by decide +kernel
theorem d_Fe_become_76 : decode mi_Fe_become.2.1 76 = .ok (.iinc 2 1, 3) := by decide +kernel
theorem d_Fe_become_79 : decode mi_Fe_become.2.1 79 = .ok (.goto (-45), 3) := by decide +kernel
theorem d_Fe_become_82 : decode mi_Fe_become.2.1 82 = .ok (.aload_n 0, 1) := by decide +kernel
theorem d_Fe_become_83 : decode mi_Fe_become.2.1 83 = .ok (.aload_n 1, 1) := by decide +kernel
theorem d_Fe_become_84 : decode mi_Fe_become.2.1 84 = .ok (.getfield 30, 3) := by decide +kernel
theorem d_Fe_become_87 : decode mi_Fe_become.2.1 87 = .ok (.putfield 30, 3) := by decide +kernel
theorem d_Fe_become_90 : decode mi_Fe_become.2.1 90 = .ok (.aload_n 1, 1) := by decide +kernel
theorem d_Fe_become_91 : decode mi_Fe_become.2.1 91 = .ok (.getfield 33, 3) := by decide +kernel
theorem d_Fe_become_94 : decode mi_Fe_become.2.1 94 = .ok (.iconst 0, 1) := by decide +kernel
theorem d_Fe_become_95 : decode mi_Fe_become.2.1 95 = .ok (.aload_n 0, 1) := by decide +kernel
theorem d_Fe_become_96 : decode mi_Fe_become.2.1 96 = .ok (.getfield 33, 3) := by decide +kernel
theorem d_Fe_become_99 : decode mi_Fe_become.2.1 99 = .ok (.iconst 0, 1) := by decide +kernel
theorem d_Fe_become_100 : decode mi_Fe_become.2.1 100 = .ok (.iconst 3, 1) := by decide +kernel
theorem d_Fe_become_101 : decode mi_Fe_become.2.1 101 = .ok (.invokestatic 82, 3) := by decide +kernel
theorem d_Fe_become_104 : decode mi_Fe_become.2.1 104 = .ok (.aload_n 1, 1) := by decide +kernel
theorem d_Fe_become_105 : decode mi_Fe_become.2.1 105 = .ok (.getfield 37, 3) := by decide +kernel
theorem d_Fe_become_108 : decode mi_Fe_become.2.1 108 = .ok (.iconst 0, 1) := by decide +kernel
theorem d_Fe_become_109 : decode mi_Fe_become.2.1 109 = .ok (.aload_n 0, 1) := by decide +kernel
theorem d_Fe_become_110 : decode mi_Fe_become.2.1 110 = .ok (.getfield 37, 3) := by decide +kernel
theorem d_Fe_become_113 : decode mi_Fe_become.2.1 113 = .ok (.iconst 0, 1) := by decide +kernel
theorem d_Fe_become_114 : decode mi_Fe_become.2.1 114 = .ok (.iconst 3, 1) := by decide +kernel
theorem d_Fe_become_115 : decode mi_Fe_become.2.1 115 = .ok (.invokestatic 82, 3) := by decide +kernel
theorem d_Fe_become_118 : decode mi_Fe_become.2.1 118 = .ok (.aload_n 0, 1) := by decide +kernel
theorem d_Fe_become_119 : decode mi_Fe_become.2.1 119 = .ok (.aload_n 1, 1) := by decide +kernel
theorem d_Fe_become_120 : decode mi_Fe_become.2.1 120 = .ok (.getfield 40, 3) := by decide +kernel
theorem d_Fe_become_123 : decode mi_Fe_become.2.1 123 = .ok (.putfield 40, 3) := by decide +kernel
theorem d_Fe_become_126 : decode mi_Fe_become.2.1 126 = .ok (.aload_n 1, 1) := by decide +kernel
theorem d_Fe_become_127 : decode mi_Fe_become.2.1 127 = .ok (.getfield 43, 3) := by decide +kernel
theorem d_Fe_become_130 : decode mi_Fe_become.2.1 130 = .ok (.iconst 0, 1) := by decide +kernel
theorem d_Fe_become_131 : decode mi_Fe_become.2.1 131 = .ok (.aload_n 0, 1) := by decide +kernel
theorem d_Fe_become_132 : decode mi_Fe_become.2.1 132 = .ok (.getfield 43, 3) := by decide +kernel
theorem d_Fe_become_135 : decode mi_Fe_become.2.1 135 = .ok (.iconst 0, 1) := by decide +kernel
theorem d_Fe_become_136 : decode mi_Fe_become.2.1 136 = .ok (.bipush 24, 2) := by decide +kernel
theorem d_Fe_become_138 : decode mi_Fe_become.2.1 138 = .ok (.invokestatic 82, 3) := by decide +kernel
theorem d_Fe_become_141 : decode mi_Fe_become.2.1 141 = .ok (.aload_n 1, 1) := by decide +kernel
theorem d_Fe_become_142 : decode mi_Fe_become.2.1 142 = .ok (.getfield 46, 3) := by decide +kernel
theorem d_Fe_become_145 : decode mi_Fe_become.2.1 145 = .ok (.iconst 0, 1) := by decide +kernel
theorem d_Fe_become_146 : decode mi_Fe_become.2.1 146 = .ok (.aload_n 0, 1) := by decide +kernel
theorem d_Fe_become_147 : decode mi_Fe_become.2.1 147 = .ok (.getfield 46, 3) := by decide +kernel
theorem d_Fe_become_150 : decode mi_Fe_become.2.1 150 = .ok (.iconst 0, 1) := by decide +kernel
theorem d_Fe_become_151 : decode mi_Fe_become.2.1 151 = .ok (.bipush 24, 2) := by decide +kernel
theorem d_Fe_become_153 : decode mi_Fe_become.2.1 153 = .ok (.invokestatic 82, 3) := by decide +kernel
theorem d_Fe_become_156 : decode mi_Fe_become.2.1 156 = .ok (.aload_n 1, 1) := by decide +kernel
theorem d_Fe_become_157 : decode mi_Fe_become.2.1 157 = .ok (.getfield 49, 3) := by decide +kernel
theorem d_Fe_become_160 : decode mi_Fe_become.2.1 160 = .ok (.iconst 0, 1) := by decide +kernel
theorem d_Fe_become_161 : decode mi_Fe_become.2.1 161 = .ok (.aload_n 0, 1) := by decide +kernel
theorem d_Fe_become_162 : decode mi_Fe_become.2.1 162 = .ok (.getfield 49, 3) := by decide +kernel
theorem d_Fe_become_165 : decode mi_Fe_become.2.1 165 = .ok (.iconst 0, 1) := by decide +kernel
theorem d_Fe_become_166 : decode mi_Fe_become.2.1 166 = .ok (.iconst 4, 1) := by decide +kernel
theorem d_Fe_become_167 : decode mi_Fe_become.2.1 167 = .ok (.invokestatic 82, 3) := by decide +kernel
theorem d_Fe_become_170 : decode mi_Fe_become.2.1 170 = .ok (.aload_n 0, 1) := by decide +kernel
theorem d_Fe_become_171 : decode mi_Fe_become.2.1 171 = .ok (.aload_n 1, 1) := by decide +kernel
theorem d_Fe_become_172 : decode mi_Fe_become.2.1 172 = .ok (.getfield 52, 3) := by decide +kernel
theorem d_Fe_become_175 : decode mi_Fe_become.2.1 175 = .ok (.aload_n 1, 1) := by decide +kernel
theorem d_Fe_become_176 : decode mi_Fe_become.2.1 176 = .ok (.getfield 55, 3) := by decide +kernel
theorem d_Fe_become_179 : decode mi_Fe_become.2.1 179 = .ok (.aload_n 1, 1) := by decide +kernel
theorem d_Fe_become_180 : decode mi_Fe_become.2.1 180 = .ok (.getfield 58, 3) := by decide +kernel
theorem d_Fe_become_183 : decode mi_Fe_become.2.1 183 = .ok (.invokevirtual 88, 3) := by decide +kernel
theorem d_Fe_become_186 : decode mi_Fe_become.2.1 186 = .ok (.return_, 1) := by decide +kernel
theorem d_St_become_0 : decode mi_St_become.2.1 0 = .ok (.iconst 0, 1) := by decide +kernel
theorem d_St_become_1 : decode mi_St_become.2.1 1 = .ok (.istore_n 2, 1) := by decide +kernel
theorem d_St_become_2 : decode mi_St_become.2.1 2 = .ok (.iload_n 2, 1) := by decide +kernel
theorem d_St_become_3 : decode mi_St_become.2.1 3 = .ok (.aload_n 1, 1) := by decide +kernel
theorem d_St_become_4 : decode mi_St_become.2.1 4 = .ok (.getfield 27, 3) := by decide +kernel
theorem d_St_become_7 : decode mi_St_become.2.1 7 = .ok (.if_icmp .ge 16, 3) := by decide +kernel
theorem d_St_become_10 : decode mi_St_become.2.1 10 = .ok (.aload_n 0, 1) := by decide +kernel
theorem d_St_become_11 : decode mi_St_become.2.1 11 = .ok (.aload_n 1, 1) := by decide +kernel
theorem d_St_become_12 : decode mi_St_become.2.1 12 = .ok (.iload_n 2, 1) := by decide +kernel
theorem d_St_become_13 : decode mi_St_become.2.1 13 = .ok (.iload_n 2, 1) := by decide +kernel
theorem d_St_become_14 : decode mi_St_become.2.1 14 = .ok (.invokevirtual 31, 3) := by decide +kernel
theorem d_St_become_17 : decode mi_St_become.2.1 17 = .ok (.iinc 2 1, 3) := by decide +kernel
theorem d_St_become_20 : decode mi_St_become.2.1 20 = .ok (.goto (-18), 3) := by decide +kernel
theorem d_St_become_23 : decode mi_St_become.2.1 23 = .ok (.aload_n 0, 1) := by decide +kernel
theorem d_St_become_24 : decode mi_St_become.2.1 24 = .ok (.aload_n 1, 1) := by decide +kernel
theorem d_St_become_25 : decode mi_St_become.2.1 25 = .ok (.getfield 27, 3) := by decide +kernel
theorem d_St_become_28 : decode mi_St_become.2.1 28 = .ok (.putfield 27, 3) := by decide +kernel
theorem d_St_become_31 : decode mi_St_become.2.1 31 = .ok (.return_, 1) := by decide +kernel
theorem d_Sp_spell_0 : decode mi_Sp_spell.2.1 0 = .ok (.aload_n 0, 1) := by decide +kernel
theorem d_Sp_spell_1 : decode mi_Sp_spell.2.1 1 = .ok (.iconst 0, 1) := by decide +kernel
theorem d_Sp_spell_2 : decode mi_Sp_spell.2.1 2 = .ok (.putfield 21, 3) := by decide +kernel
theorem d_Sp_spell_5 : decode mi_Sp_spell.2.1 5 = .ok (.aload_n 1, 1) := by decide +kernel
theorem d_Sp_spell_6 : decode mi_Sp_spell.2.1 6 = .ok (.getfield 25, 3) := by decide +kernel
theorem d_Sp_spell_9 : decode mi_Sp_spell.2.1 9 = .ok (.astore_n 2, 1) := by decide +kernel
theorem d_Sp_spell_10 : decode mi_Sp_spell.2.1 10 = .ok (.aload_n 2, 1) := by decide +kernel
theorem d_Sp_spell_11 : decode mi_Sp_spell.2.1 11 = .ok (.ifnull 20, 3) := by decide +kernel
theorem d_Sp_spell_14 : decode mi_Sp_spell.2.1 14 = .ok (.aload_n 2, 1) := by decide +kernel
theorem d_Sp_spell_15 : decode mi_Sp_spell.2.1 15 = .ok (.invokevirtual 31, 3) := by decide +kernel
theorem d_Sp_spell_18 : decode mi_Sp_spell.2.1 18 = .ok (.ifCond .lt 13, 3) := by decide +kernel
theorem d_Sp_spell_21 : decode mi_Sp_spell.2.1 21 = .ok (.aload_n 2, 1) := by decide +kernel
theorem d_Sp_spell_22 : decode mi_Sp_spell.2.1 22 = .ok (.invokevirtual 31, 3) := by decide +kernel
theorem d_Sp_spell_25 : decode mi_Sp_spell.2.1 25 = .ok (.sipush 250, 3) := by decide +kernel
theorem d_Sp_spell_28 : decode mi_Sp_spell.2.1 28 = .ok (.if_icmp .lt 4, 3) := by decide +kernel
theorem d_Sp_spell_31 : decode mi_Sp_spell.2.1 31 = .ok (.return_, 1) := by decide +kernel
theorem d_Sp_spell_32 : decode mi_Sp_spell.2.1 32 = .ok (.aload_n 0, 1) := by decide +kernel
theorem d_Sp_spell_33 : decode mi_Sp_spell.2.1 33 = .ok (.aload_n 2, 1) := by decide +kernel
theorem d_Sp_spell_34 : decode mi_Sp_spell.2.1 34 = .ok (.invokevirtual 37, 3) := by decide +kernel
theorem d_Sp_spell_37 : decode mi_Sp_spell.2.1 37 = .ok (.aload_n 0, 1) := by decide +kernel
theorem d_Sp_spell_38 : decode mi_Sp_spell.2.1 38 = .ok (.getfield 15, 3) := by decide +kernel
theorem d_Sp_spell_41 : decode mi_Sp_spell.2.1 41 = .ok (.aload_n 2, 1) := by decide +kernel
theorem d_Sp_spell_42 : decode mi_Sp_spell.2.1 42 = .ok (.invokevirtual 31, 3) := by decide +kernel
theorem d_Sp_spell_45 : decode mi_Sp_spell.2.1 45 = .ok (.iconst 0, 1) := by decide +kernel
theorem d_Sp_spell_46 : decode mi_Sp_spell.2.1 46 = .ok (.iastore, 1) := by decide +kernel
theorem d_Sp_spell_47 : decode mi_Sp_spell.2.1 47 = .ok (.aload_n 2, 1) := by decide +kernel
theorem d_Sp_spell_48 : decode mi_Sp_spell.2.1 48 = .ok (.invokevirtual 31, 3) := by decide +kernel
theorem d_Sp_spell_51 : decode mi_Sp_spell.2.1 51 = .ok (.istore_n 3, 1) := by decide +kernel
theorem d_Sp_spell_52 : decode mi_Sp_spell.2.1 52 = .ok (.iload_n 3, 1) := by decide +kernel
theorem d_Sp_spell_53 : decode mi_Sp_spell.2.1 53 = .ok (.ifCond .lt 15, 3) := by decide +kernel
theorem d_Sp_spell_56 : decode mi_Sp_spell.2.1 56 = .ok (.aload_n 0, 1) := by decide +kernel
theorem d_Sp_spell_57 : decode mi_Sp_spell.2.1 57 = .ok (.aload_n 2, 1) := by decide +kernel
theorem d_Sp_spell_58 : decode mi_Sp_spell.2.1 58 = .ok (.iload_n 3, 1) := by decide +kernel
theorem d_Sp_spell_59 : decode mi_Sp_spell.2.1 59 = .ok (.invokevirtual 41, 3) := by decide +kernel
theorem d_Sp_spell_62 : decode mi_Sp_spell.2.1 62 = .ok (.iinc 3 (-1), 3) := by decide +kernel
theorem d_Sp_spell_65 : decode mi_Sp_spell.2.1 65 = .ok (.goto (-13), 3) := by decide +kernel
theorem d_Sp_spell_68 : decode mi_Sp_spell.2.1 68 = .ok (.aload_n 0, 1) := by decide +kernel
theorem d_Sp_spell_69 : decode mi_Sp_spell.2.1 69 = .ok (.aload_n 0, 1) := by decide +kernel
theorem d_Sp_spell_70 : decode mi_Sp_spell.2.1 70 = .ok (.getfield 9, 3) := by decide +kernel
theorem d_Sp_spell_73 : decode mi_Sp_spell.2.1 73 = .ok (.aload_n 2, 1) := by decide +kernel
theorem d_Sp_spell_74 : decode mi_Sp_spell.2.1 74 = .ok (.invokevirtual 31, 3) := by decide +kernel
theorem d_Sp_spell_77 : decode mi_Sp_spell.2.1 77 = .ok (.iaload, 1) := by decide +kernel
theorem d_Sp_spell_78 : decode mi_Sp_spell.2.1 78 = .ok (.putfield 21, 3) := by decide +kernel
theorem d_Sp_spell_81 : decode mi_Sp_spell.2.1 81 = .ok (.aload_n 0, 1) := by decide +kernel
theorem d_Sp_spell_82 : decode mi_Sp_spell.2.1 82 = .ok (.aload_n 1, 1) := by decide +kernel
theorem d_Sp_spell_83 : decode mi_Sp_spell.2.1 83 = .ok (.invokevirtual 45, 3) := by decide +kernel
theorem d_Sp_spell_86 : decode mi_Sp_spell.2.1 86 = .ok (.return_, 1) := by decide +kernel
theorem d_Sp_measure_0 : decode mi_Sp_measure.2.1 0 = .ok (.iconst 0, 1) := by decide +kernel
theorem d_Sp_measure_1 : decode mi_Sp_measure.2.1 1 = .ok (.istore_n 2, 1) := by decide +kernel
theorem d_Sp_measure_2 : decode mi_Sp_measure.2.1 2 = .ok (.iload_n 2, 1) := by decide +kernel
theorem d_Sp_measure_3 : decode mi_Sp_measure.2.1 3 = .ok (.aload_n 1, 1) := by decide +kernel
theorem d_Sp_measure_4 : decode mi_Sp_measure.2.1 4 = .ok (.invokevirtual 31, 3) := by decide +kernel
theorem d_Sp_measure_7 : decode mi_Sp_measure.2.1 7 = .ok (.if_icmp .gt 142, 3) := by decide +kernel
theorem d_Sp_measure_10 : decode mi_Sp_measure.2.1 10 = .ok (.aload_n 1, 1) := by decide +kernel
theorem d_Sp_measure_11 : decode mi_Sp_measure.2.1 11 = .ok (.iload_n 2, 1) := by decide +kernel
theorem d_Sp_measure_12 : decode mi_Sp_measure.2.1 12 = .ok (.invokevirtual 49, 3) := by decide +kernel
theorem d_Sp_measure_15 : decode mi_Sp_measure.2.1 15 = .ok (.tableswitch 121 3 8 #[37, 121, 55, 65, 95, 95], 37) := by decide +kernel
theorem d_Sp_measure_52 : decode mi_Sp_measure.2.1 52 = .ok (.aload_n 0, 1) := by decide +kernel
theorem d_Sp_measure_53 : decode mi_Sp_measure.2.1 53 = .ok (.getfield 9, 3) := by decide +kernel
theorem d_Sp_measure_56 : decode mi_Sp_measure.2.1 56 = .ok (.iload_n 2, 1) := by decide +kernel
theorem d_Sp_measure_57 : decode mi_Sp_measure.2.1 57 = .ok (.iconst 1, 1) := by decide +kernel
theorem d_Sp_measure_58 : decode mi_Sp_measure.2.1 58 = .ok (.aload_n 0, 1) := by decide +kernel
theorem d_Sp_measure_59 : decode mi_Sp_measure.2.1 59 = .ok (.aload_n 1, 1) := by decide +kernel
theorem d_Sp_measure_60 : decode mi_Sp_measure.2.1 60 = .ok (.iload_n 2, 1) := by decide +kernel
theorem d_Sp_measure_61 : decode mi_Sp_measure.2.1 61 = .ok (.iconst 1, 1) := by decide +kernel
theorem d_Sp_measure_62 : decode mi_Sp_measure.2.1 62 = .ok (.invokevirtual 53, 3) := by decide +kernel
theorem d_Sp_measure_65 : decode mi_Sp_measure.2.1 65 = .ok (.iadd, 1) := by decide +kernel
theorem d_Sp_measure_66 : decode mi_Sp_measure.2.1 66 = .ok (.iastore, 1) := by decide +kernel
theorem d_Sp_measure_67 : decode mi_Sp_measure.2.1 67 = .ok (.goto 76, 3) := by decide +kernel
theorem d_Sp_measure_70 : decode mi_Sp_measure.2.1 70 = .ok (.aload_n 0, 1) := by decide +kernel
theorem d_Sp_measure_71 : decode mi_Sp_measure.2.1 71 = .ok (.getfield 9, 3) := by decide +kernel
theorem d_Sp_measure_74 : decode mi_Sp_measure.2.1 74 = .ok (.iload_n 2, 1) := by decide +kernel
theorem d_Sp_measure_75 : decode mi_Sp_measure.2.1 75 = .ok (.iconst 3, 1) := by decide +kernel
theorem d_Sp_measure_76 : decode mi_Sp_measure.2.1 76 = .ok (.iastore, 1) := by decide +kernel
theorem d_Sp_measure_77 : decode mi_Sp_measure.2.1 77 = .ok (.goto 66, 3) := by decide +kernel
theorem d_Sp_measure_80 : decode mi_Sp_measure.2.1 80 = .ok (.aload_n 0, 1) := by decide +kernel
theorem d_Sp_measure_81 : decode mi_Sp_measure.2.1 81 = .ok (.getfield 9, 3) := by decide +kernel
theorem d_Sp_measure_84 : decode mi_Sp_measure.2.1 84 = .ok (.iload_n 2, 1) := by decide +kernel
theorem d_Sp_measure_85 : decode mi_Sp_measure.2.1 85 = .ok (.iconst 2, 1) := by decide +kernel
theorem d_Sp_measure_86 : decode mi_Sp_measure.2.1 86 = .ok (.aload_n 1, 1) := by decide +kernel
theorem d_Sp_measure_87 : decode mi_Sp_measure.2.1 87 = .ok (.getfield 57, 3) := by decide +kernel
theorem d_Sp_measure_90 : decode mi_Sp_measure.2.1 90 = .ok (.iload_n 2, 1) := by decide +kernel
theorem d_Sp_measure_91 : decode mi_Sp_measure.2.1 91 = .ok (.iaload, 1) := by decide +kernel
theorem d_Sp_measure_92 : decode mi_Sp_measure.2.1 92 = .ok (.invokestatic 60, 3) := by decide +kernel
theorem d_Sp_measure_95 : decode mi_Sp_measure.2.1 95 = .ok (.iadd, 1) := by decide +kernel
theorem d_Sp_measure_96 : decode mi_Sp_measure.2.1 96 = .ok (.aload_n 1, 1) := by decide +kernel
theorem d_Sp_measure_97 : decode mi_Sp_measure.2.1 97 = .ok (.getfield 63, 3) := by decide +kernel
theorem d_Sp_measure_100 : decode mi_Sp_measure.2.1 100 = .ok (.iload_n 2, 1) := by decide +kernel
theorem d_Sp_measure_101 : decode mi_Sp_measure.2.1 101 = .ok (.iaload, 1) := by decide +kernel
theorem d_Sp_measure_102 : decode mi_Sp_measure.2.1 102 = .ok (.invokestatic 60, 3) := by decide +kernel
theorem d_Sp_measure_105 : decode mi_Sp_measure.2.1 105 = .ok (.iadd, 1) := by decide +kernel
theorem d_Sp_measure_106 : decode mi_Sp_measure.2.1 106 = .ok (.iastore, 1) := by decide +kernel
theorem d_Sp_measure_107 : decode mi_Sp_measure.2.1 107 = .ok (.goto 36, 3) := by decide +kernel
theorem d_Sp_measure_110 : decode mi_Sp_measure.2.1 110 = .ok (.aload_n 0, 1) := by decide +kernel
theorem d_Sp_measure_111 : decode mi_Sp_measure.2.1 111 = .ok (.getfield 9, 3) := by decide +kernel
theorem d_Sp_measure_114 : decode mi_Sp_measure.2.1 114 = .ok (.iload_n 2, 1) := by decide +kernel
theorem d_Sp_measure_115 : decode mi_Sp_measure.2.1 115 = .ok (.iconst 1, 1) := by decide +kernel
theorem d_Sp_measure_116 : decode mi_Sp_measure.2.1 116 = .ok (.aload_n 0, 1) := by decide +kernel
theorem d_Sp_measure_117 : decode mi_Sp_measure.2.1 117 = .ok (.aload_n 1, 1) := by decide +kernel
theorem d_Sp_measure_118 : decode mi_Sp_measure.2.1 118 = .ok (.iload_n 2, 1) := by decide +kernel
theorem d_Sp_measure_119 : decode mi_Sp_measure.2.1 119 = .ok (.iconst 1, 1) := by decide +kernel
theorem d_Sp_measure_120 : decode mi_Sp_measure.2.1 120 = .ok (.invokevirtual 53, 3) := by decide +kernel
theorem d_Sp_measure_123 : decode mi_Sp_measure.2.1 123 = .ok (.iadd, 1) := by decide +kernel
theorem d_Sp_measure_124 : decode mi_Sp_measure.2.1 124 = .ok (.aload_n 0, 1) := by decide +kernel
theorem d_Sp_measure_125 : decode mi_Sp_measure.2.1 125 = .ok (.aload_n 1, 1) := by decide +kernel
theorem d_Sp_measure_126 : decode mi_Sp_measure.2.1 126 = .ok (.iload_n 2, 1) := by decide +kernel
theorem d_Sp_measure_127 : decode mi_Sp_measure.2.1 127 = .ok (.iconst 2, 1) := by decide +kernel
theorem d_Sp_measure_128 : decode mi_Sp_measure.2.1 128 = .ok (.invokevirtual 53, 3) := by decide +kernel
theorem d_Sp_measure_131 : decode mi_Sp_measure.2.1 131 = .ok (.iadd, 1) := by decide +kernel
theorem d_Sp_measure_132 : decode mi_Sp_measure.2.1 132 = .ok (.iastore, 1) := by decide +kernel
theorem d_Sp_measure_133 : decode mi_Sp_measure.2.1 133 = .ok (.goto 10, 3) := by decide +kernel
theorem d_Sp_measure_136 : decode mi_Sp_measure.2.1 136 = .ok (.aload_n 0, 1) := by decide +kernel
theorem d_Sp_measure_137 : decode mi_Sp_measure.2.1 137 = .ok (.getfield 9, 3) := by decide +kernel
theorem d_Sp_measure_140 : decode mi_Sp_measure.2.1 140 = .ok (.iload_n 2, 1) := by decide +kernel
theorem d_Sp_measure_141 : decode mi_Sp_measure.2.1 141 = .ok (.iconst 1, 1) := by decide +kernel
theorem d_Sp_measure_142 : decode mi_Sp_measure.2.1 142 = .ok (.iastore, 1) := by decide +kernel
theorem d_Sp_measure_143 : decode mi_Sp_measure.2.1 143 = .ok (.iinc 2 1, 3) := by decide +kernel
theorem d_Sp_measure_146 : decode mi_Sp_measure.2.1 146 = .ok (.goto (-144), 3) := by decide +kernel
theorem d_Sp_measure_149 : decode mi_Sp_measure.2.1 149 = .ok (.return_, 1) := by decide +kernel
theorem d_Sp_partLength_0 : decode mi_Sp_partLength.2.1 0 = .ok (.aload_n 1, 1) := by decide +kernel
theorem d_Sp_partLength_1 : decode mi_Sp_partLength.2.1 1 = .ok (.iload_n 2, 1) := by decide +kernel
theorem d_Sp_partLength_2 : decode mi_Sp_partLength.2.1 2 = .ok (.iload_n 3, 1) := by decide +kernel
theorem d_Sp_partLength_3 : decode mi_Sp_partLength.2.1 3 = .ok (.invokevirtual 66, 3) := by decide +kernel
theorem d_Sp_partLength_6 : decode mi_Sp_partLength.2.1 6 = .ok (.istore 4, 2) := by decide +kernel
theorem d_Sp_partLength_8 : decode mi_Sp_partLength.2.1 8 = .ok (.iload 4, 2) := by decide +kernel
theorem d_Sp_partLength_10 : decode mi_Sp_partLength.2.1 10 = .ok (.iconst (-1), 1) := by decide +kernel
theorem d_Sp_partLength_11 : decode mi_Sp_partLength.2.1 11 = .ok (.if_icmp .ne 5, 3) := by decide +kernel
theorem d_Sp_partLength_14 : decode mi_Sp_partLength.2.1 14 = .ok (.iconst 0, 1) := by decide +kernel
theorem d_Sp_partLength_15 : decode mi_Sp_partLength.2.1 15 = .ok (.ireturn, 1) := by decide +kernel
theorem d_Sp_partLength_16 : decode mi_Sp_partLength.2.1 16 = .ok (.aload_n 0, 1) := by decide +kernel
theorem d_Sp_partLength_17 : decode mi_Sp_partLength.2.1 17 = .ok (.getfield 9, 3) := by decide +kernel
theorem d_Sp_partLength_20 : decode mi_Sp_partLength.2.1 20 = .ok (.iload 4, 2) := by decide +kernel
theorem d_Sp_partLength_22 : decode mi_Sp_partLength.2.1 22 = .ok (.iaload, 1) := by decide +kernel
theorem d_Sp_partLength_23 : decode mi_Sp_partLength.2.1 23 = .ok (.aload_n 1, 1) := by decide +kernel
theorem d_Sp_partLength_24 : decode mi_Sp_partLength.2.1 24 = .ok (.iload_n 2, 1) := by decide +kernel
theorem d_Sp_partLength_25 : decode mi_Sp_partLength.2.1 25 = .ok (.iload_n 3, 1) := by decide +kernel
theorem d_Sp_partLength_26 : decode mi_Sp_partLength.2.1 26 = .ok (.invokestatic 70, 3) := by decide +kernel
theorem d_Sp_partLength_29 : decode mi_Sp_partLength.2.1 29 = .ok (.ifCond .eq 7, 3) := by decide +kernel
theorem d_Sp_partLength_32 : decode mi_Sp_partLength.2.1 32 = .ok (.iconst 2, 1) := by decide +kernel
theorem d_Sp_partLength_33 : decode mi_Sp_partLength.2.1 33 = .ok (.goto 4, 3) := by decide +kernel
theorem d_Sp_partLength_36 : decode mi_Sp_partLength.2.1 36 = .ok (.iconst 0, 1) := by decide +kernel
theorem d_Sp_partLength_37 : decode mi_Sp_partLength.2.1 37 = .ok (.iadd, 1) := by decide +kernel
theorem d_Sp_partLength_38 : decode mi_Sp_partLength.2.1 38 = .ok (.ireturn, 1) := by decide +kernel
theorem d_Sp_isBracketed_0 : decode mi_Sp_isBracketed.2.1 0 = .ok (.aload_n 0, 1) := by decide +kernel
theorem d_Sp_isBracketed_1 : decode mi_Sp_isBracketed.2.1 1 = .ok (.iload_n 1, 1) := by decide +kernel
theorem d_Sp_isBracketed_2 : decode mi_Sp_isBracketed.2.1 2 = .ok (.invokevirtual 49, 3) := by decide +kernel
theorem d_Sp_isBracketed_5 : decode mi_Sp_isBracketed.2.1 5 = .ok (.istore_n 3, 1) := by decide +kernel
theorem d_Sp_isBracketed_6 : decode mi_Sp_isBracketed.2.1 6 = .ok (.aload_n 0, 1) := by decide +kernel
theorem d_Sp_isBracketed_7 : decode mi_Sp_isBracketed.2.1 7 = .ok (.aload_n 0, 1) := by decide +kernel
theorem d_Sp_isBracketed_8 : decode mi_Sp_isBracketed.2.1 8 = .ok (.iload_n 1, 1) := by decide +kernel
theorem d_Sp_isBracketed_9 : decode mi_Sp_isBracketed.2.1 9 = .ok (.iload_n 2, 1) := by decide +kernel
theorem d_Sp_isBracketed_10 : decode mi_Sp_isBracketed.2.1 10 = .ok (.invokevirtual 66, 3) := by decide +kernel
theorem d_Sp_isBracketed_13 : decode mi_Sp_isBracketed.2.1 13 = .ok (.invokevirtual 49, 3) := by decide +kernel
theorem d_Sp_isBracketed_16 : decode mi_Sp_isBracketed.2.1 16 = .ok (.istore 4, 2) := by decide +kernel
theorem d_Sp_isBracketed_18 : decode mi_Sp_isBracketed.2.1 18 = .ok (.iload 4, 2) := by decide +kernel
theorem d_Sp_isBracketed_20 : decode mi_Sp_isBracketed.2.1 20 = .ok (.bipush 7, 2) := by decide +kernel
theorem d_Sp_isBracketed_22 : decode mi_Sp_isBracketed.2.1 22 = .ok (.if_icmp .eq 12, 3) := by decide +kernel
theorem d_Sp_isBracketed_25 : decode mi_Sp_isBracketed.2.1 25 = .ok (.iload 4, 2) := by decide +kernel
theorem d_Sp_isBracketed_27 : decode mi_Sp_isBracketed.2.1 27 = .ok (.bipush 8, 2) := by decide +kernel
theorem d_Sp_isBracketed_29 : decode mi_Sp_isBracketed.2.1 29 = .ok (.if_icmp .eq 5, 3) := by decide +kernel
theorem d_Sp_isBracketed_32 : decode mi_Sp_isBracketed.2.1 32 = .ok (.iconst 0, 1) := by decide +kernel
theorem d_Sp_isBracketed_33 : decode mi_Sp_isBracketed.2.1 33 = .ok (.ireturn, 1) := by decide +kernel
theorem d_Sp_isBracketed_34 : decode mi_Sp_isBracketed.2.1 34 = .ok (.iload_n 3, 1) := by decide +kernel
theorem d_Sp_isBracketed_35 : decode mi_Sp_isBracketed.2.1 35 = .ok (.bipush 8, 2) := by decide +kernel
theorem d_Sp_isBracketed_37 : decode mi_Sp_isBracketed.2.1 37 = .ok (.if_icmp .ne 21, 3) := by decide +kernel
theorem d_Sp_isBracketed_40 : decode mi_Sp_isBracketed.2.1 40 = .ok (.iload_n 2, 1) := by decide +kernel
theorem d_Sp_isBracketed_41 : decode mi_Sp_isBracketed.2.1 41 = .ok (.iconst 2, 1) := by decide +kernel
theorem d_Sp_isBracketed_42 : decode mi_Sp_isBracketed.2.1 42 = .ok (.if_icmp .ne 14, 3) := by decide +kernel
theorem d_Sp_isBracketed_45 : decode mi_Sp_isBracketed.2.1 45 = .ok (.iload 4, 2) := by decide +kernel
theorem d_Sp_isBracketed_47 : decode mi_Sp_isBracketed.2.1 47 = .ok (.bipush 8, 2) := by decide +kernel
theorem d_Sp_isBracketed_49 : decode mi_Sp_isBracketed.2.1 49 = .ok (.if_icmp .ne 7, 3) := by decide +kernel
theorem d_Sp_isBracketed_52 : decode mi_Sp_isBracketed.2.1 52 = .ok (.iconst 1, 1) := by decide +kernel
theorem d_Sp_isBracketed_53 : decode mi_Sp_isBracketed.2.1 53 = .ok (.goto 4, 3) := by decide +kernel
theorem d_Sp_isBracketed_56 : decode mi_Sp_isBracketed.2.1 56 = .ok (.iconst 0, 1) := by decide +kernel
theorem d_Sp_isBracketed_57 : decode mi_Sp_isBracketed.2.1 57 = .ok (.ireturn, 1) := by decide +kernel
theorem d_Sp_isBracketed_58 : decode mi_Sp_isBracketed.2.1 58 = .ok (.iload_n 3, 1) := by decide +kernel
theorem d_Sp_isBracketed_59 : decode mi_Sp_isBracketed.2.1 59 = .ok (.iconst 3, 1) := by decide +kernel
theorem d_Sp_isBracketed_60 : decode mi_Sp_isBracketed.2.1 60 = .ok (.if_icmp .eq 15, 3) := by decide +kernel
theorem d_Sp_isBracketed_63 : decode mi_Sp_isBracketed.2.1 63 = .ok (.iload_n 2, 1) := by decide +kernel
theorem d_Sp_isBracketed_64 : decode mi_Sp_isBracketed.2.1 64 = .ok (.iconst 2, 1) := by decide +kernel
theorem d_Sp_isBracketed_65 : decode mi_Sp_isBracketed.2.1 65 = .ok (.if_icmp .eq 10, 3) := by decide +kernel
theorem d_Sp_isBracketed_68 : decode mi_Sp_isBracketed.2.1 68 = .ok (.iload 4, 2) := by decide +kernel
theorem d_Sp_isBracketed_70 : decode mi_Sp_isBracketed.2.1 70 = .ok (.bipush 8, 2) := by decide +kernel
theorem d_Sp_isBracketed_72 : decode mi_Sp_isBracketed.2.1 72 = .ok (.if_icmp .ne 7, 3) := by decide +kernel
theorem d_Sp_isBracketed_75 : decode mi_Sp_isBracketed.2.1 75 = .ok (.iconst 1, 1) := by decide +kernel
theorem d_Sp_isBracketed_76 : decode mi_Sp_isBracketed.2.1 76 = .ok (.goto 4, 3) := by decide +kernel
theorem d_Sp_isBracketed_79 : decode mi_Sp_isBracketed.2.1 79 = .ok (.iconst 0, 1) := by decide +kernel
theorem d_Sp_isBracketed_80 : decode mi_Sp_isBracketed.2.1 80 = .ok (.ireturn, 1) := by decide +kernel
theorem d_Sp_digitsOf_0 : decode mi_Sp_digitsOf.2.1 0 = .ok (.iconst 1, 1) := by decide +kernel
theorem d_Sp_digitsOf_1 : decode mi_Sp_digitsOf.2.1 1 = .ok (.istore_n 1, 1) := by decide +kernel
theorem d_Sp_digitsOf_2 : decode mi_Sp_digitsOf.2.1 2 = .ok (.bipush 10, 2) := by decide +kernel
theorem d_Sp_digitsOf_4 : decode mi_Sp_digitsOf.2.1 4 = .ok (.istore_n 2, 1) := by decide +kernel
theorem d_Sp_digitsOf_5 : decode mi_Sp_digitsOf.2.1 5 = .ok (.iload_n 2, 1) := by decide +kernel
theorem d_Sp_digitsOf_6 : decode mi_Sp_digitsOf.2.1 6 = .ok (.ldc 98, 2) := by decide +kernel
theorem d_Sp_digitsOf_8 : decode mi_Sp_digitsOf.2.1 8 = .ok (.if_icmp .gt 19, 3) := by decide +kernel
theorem d_Sp_digitsOf_11 : decode mi_Sp_digitsOf.2.1 11 = .ok (.iload_n 0, 1) := by decide +kernel
theorem d_Sp_digitsOf_12 : decode mi_Sp_digitsOf.2.1 12 = .ok (.iload_n 2, 1) := by decide +kernel
theorem d_Sp_digitsOf_13 : decode mi_Sp_digitsOf.2.1 13 = .ok (.if_icmp .lt 14, 3) := by decide +kernel
theorem d_Sp_digitsOf_16 : decode mi_Sp_digitsOf.2.1 16 = .ok (.iinc 1 1, 3) := by decide +kernel
theorem d_Sp_digitsOf_19 : decode mi_Sp_digitsOf.2.1 19 = .ok (.iload_n 2, 1) := by decide +kernel
theorem d_Sp_digitsOf_20 : decode mi_Sp_digitsOf.2.1 20 = .ok (.bipush 10, 2) := by decide +kernel
theorem d_Sp_digitsOf_22 : decode mi_Sp_digitsOf.2.1 22 = .ok (.imul, 1) := by decide +kernel
theorem d_Sp_digitsOf_23 : decode mi_Sp_digitsOf.2.1 23 = .ok (.istore_n 2, 1) := by decide +kernel
theorem d_Sp_digitsOf_24 : decode mi_Sp_digitsOf.2.1 24 = .ok (.goto (-19), 3) := by decide +kernel
theorem d_Sp_digitsOf_27 : decode mi_Sp_digitsOf.2.1 27 = .ok (.iload_n 1, 1) := by decide +kernel
theorem d_Sp_digitsOf_28 : decode mi_Sp_digitsOf.2.1 28 = .ok (.ireturn, 1) := by decide +kernel
theorem d_Sp_spellNode_0 : decode mi_Sp_spellNode.2.1 0 = .ok (.aload_n 0, 1) := by decide +kernel
theorem d_Sp_spellNode_1 : decode mi_Sp_spellNode.2.1 1 = .ok (.getfield 15, 3) := by decide +kernel
theorem d_Sp_spellNode_4 : decode mi_Sp_spellNode.2.1 4 = .ok (.iload_n 2, 1) := by decide +kernel
theorem d_Sp_spellNode_5 : decode mi_Sp_spellNode.2.1 5 = .ok (.iaload, 1) := by decide +kernel
theorem d_Sp_spellNode_6 : decode mi_Sp_spellNode.2.1 6 = .ok (.istore_n 3, 1) := by decide +kernel
theorem d_Sp_spellNode_7 : decode mi_Sp_spellNode.2.1 7 = .ok (.aload_n 1, 1) := by decide +kernel
theorem d_Sp_spellNode_8 : decode mi_Sp_spellNode.2.1 8 = .ok (.iload_n 2, 1) := by decide +kernel
theorem d_Sp_spellNode_9 : decode mi_Sp_spellNode.2.1 9 = .ok (.invokevirtual 49, 3) := by decide +kernel
theorem d_Sp_spellNode_12 : decode mi_Sp_spellNode.2.1 12 = .ok (.istore 4, 2) := by decide +kernel
theorem d_Sp_spellNode_14 : decode mi_Sp_spellNode.2.1 14 = .ok (.iload 4, 2) := by decide +kernel
theorem d_Sp_spellNode_16 : decode mi_Sp_spellNode.2.1 16 = .ok (.iconst 3, 1) := by decide +kernel
theorem d_Sp_spellNode_17 : decode mi_Sp_spellNode.2.1 17 = .ok (.if_icmp .ne 23, 3) := by decide +kernel
theorem d_Sp_spellNode_20 : decode mi_Sp_spellNode.2.1 20 = .ok (.aload_n 0, 1) := by decide +kernel
theorem d_Sp_spellNode_21 : decode mi_Sp_spellNode.2.1 21 = .ok (.iload_n 3, 1) := by decide +kernel
theorem d_Sp_spellNode_22 : decode mi_Sp_spellNode.2.1 22 = .ok (.bipush 33, 2) := by decide +kernel
theorem d_Sp_spellNode_24 : decode mi_Sp_spellNode.2.1 24 = .ok (.invokevirtual 74, 3) := by decide +kernel
theorem d_Sp_spellNode_27 : decode mi_Sp_spellNode.2.1 27 = .ok (.aload_n 0, 1) := by decide +kernel
theorem d_Sp_spellNode_28 : decode mi_Sp_spellNode.2.1 28 = .ok (.aload_n 1, 1) := by decide +kernel
theorem d_Sp_spellNode_29 : decode mi_Sp_spellNode.2.1 29 = .ok (.iload_n 2, 1) := by decide +kernel
theorem d_Sp_spellNode_30 : decode mi_Sp_spellNode.2.1 30 = .ok (.iconst 1, 1) := by decide +kernel
theorem d_Sp_spellNode_31 : decode mi_Sp_spellNode.2.1 31 = .ok (.iload_n 3, 1) := by decide +kernel
theorem d_Sp_spellNode_32 : decode mi_Sp_spellNode.2.1 32 = .ok (.iconst 1, 1) := by decide +kernel
theorem d_Sp_spellNode_33 : decode mi_Sp_spellNode.2.1 33 = .ok (.iadd, 1) := by decide +kernel
theorem d_Sp_spellNode_34 : decode mi_Sp_spellNode.2.1 34 = .ok (.invokevirtual 78, 3) := by decide +kernel
theorem d_Sp_spellNode_37 : decode mi_Sp_spellNode.2.1 37 = .ok (.goto 184, 3) := by decide +kernel
theorem d_Sp_spellNode_40 : decode mi_Sp_spellNode.2.1 40 = .ok (.iload 4, 2) := by decide +kernel
theorem d_Sp_spellNode_42 : decode mi_Sp_spellNode.2.1 42 = .ok (.iconst 5, 1) := by decide +kernel
theorem d_Sp_spellNode_43 : decode mi_Sp_spellNode.2.1 43 = .ok (.if_icmp .ne 49, 3) := by decide +kernel
theorem d_Sp_spellNode_46 : decode mi_Sp_spellNode.2.1 46 = .ok (.aload_n 0, 1) := by decide +kernel
theorem d_Sp_spellNode_47 : decode mi_Sp_spellNode.2.1 47 = .ok (.iload_n 3, 1) := by decide +kernel
theorem d_Sp_spellNode_48 : decode mi_Sp_spellNode.2.1 48 = .ok (.bipush 97, 2) := by decide +kernel
theorem d_Sp_spellNode_50 : decode mi_Sp_spellNode.2.1 50 = .ok (.aload_n 1, 1) := by decide +kernel
theorem d_Sp_spellNode_51 : decode mi_Sp_spellNode.2.1 51 = .ok (.getfield 57, 3) := by decide +kernel
theorem d_Sp_spellNode_54 : decode mi_Sp_spellNode.2.1 54 = .ok (.iload_n 2, 1) := by decide +kernel
theorem d_Sp_spellNode_55 : decode mi_Sp_spellNode.2.1 55 = .ok (.iaload, 1) := by decide +kernel
theorem d_Sp_spellNode_56 : decode mi_Sp_spellNode.2.1 56 = .ok (.iadd, 1) := by decide +kernel
theorem d_Sp_spellNode_57 : decode mi_Sp_spellNode.2.1 57 = .ok (.invokevirtual 74, 3) := by decide +kernel
theorem d_Sp_spellNode_60 : decode mi_Sp_spellNode.2.1 60 = .ok (.aload_n 0, 1) := by decide +kernel
theorem d_Sp_spellNode_61 : decode mi_Sp_spellNode.2.1 61 = .ok (.iload_n 3, 1) := by decide +kernel
theorem d_Sp_spellNode_62 : decode mi_Sp_spellNode.2.1 62 = .ok (.iconst 1, 1) := by decide +kernel
theorem d_Sp_spellNode_63 : decode mi_Sp_spellNode.2.1 63 = .ok (.iadd, 1) := by decide +kernel
theorem d_Sp_spellNode_64 : decode mi_Sp_spellNode.2.1 64 = .ok (.aload_n 1, 1) := by decide +kernel
theorem d_Sp_spellNode_65 : decode mi_Sp_spellNode.2.1 65 = .ok (.getfield 82, 3) := by decide +kernel
theorem d_Sp_spellNode_68 : decode mi_Sp_spellNode.2.1 68 = .ok (.iload_n 2, 1) := by decide +kernel
theorem d_Sp_spellNode_69 : decode mi_Sp_spellNode.2.1 69 = .ok (.iaload, 1) := by decide +kernel
theorem d_Sp_spellNode_70 : decode mi_Sp_spellNode.2.1 70 = .ok (.invokevirtual 74, 3) := by decide +kernel
theorem d_Sp_spellNode_73 : decode mi_Sp_spellNode.2.1 73 = .ok (.aload_n 0, 1) := by decide +kernel
theorem d_Sp_spellNode_74 : decode mi_Sp_spellNode.2.1 74 = .ok (.iload_n 3, 1) := by decide +kernel
theorem d_Sp_spellNode_75 : decode mi_Sp_spellNode.2.1 75 = .ok (.iconst 2, 1) := by decide +kernel
theorem d_Sp_spellNode_76 : decode mi_Sp_spellNode.2.1 76 = .ok (.iadd, 1) := by decide +kernel
theorem d_Sp_spellNode_77 : decode mi_Sp_spellNode.2.1 77 = .ok (.bipush 48, 2) := by decide +kernel
theorem d_Sp_spellNode_79 : decode mi_Sp_spellNode.2.1 79 = .ok (.aload_n 1, 1) := by decide +kernel
theorem d_Sp_spellNode_80 : decode mi_Sp_spellNode.2.1 80 = .ok (.getfield 63, 3) := by decide +kernel
theorem d_Sp_spellNode_83 : decode mi_Sp_spellNode.2.1 83 = .ok (.iload_n 2, 1) := by decide +kernel
theorem d_Sp_spellNode_84 : decode mi_Sp_spellNode.2.1 84 = .ok (.iaload, 1) := by decide +kernel
theorem d_Sp_spellNode_85 : decode mi_Sp_spellNode.2.1 85 = .ok (.iadd, 1) := by decide +kernel
theorem d_Sp_spellNode_86 : decode mi_Sp_spellNode.2.1 86 = .ok (.invokevirtual 74, 3) := by decide +kernel
theorem d_Sp_spellNode_89 : decode mi_Sp_spellNode.2.1 89 = .ok (.goto 132, 3) := by decide +kernel
theorem d_Sp_spellNode_92 : decode mi_Sp_spellNode.2.1 92 = .ok (.iload 4, 2) := by decide +kernel
theorem d_Sp_spellNode_94 : decode mi_Sp_spellNode.2.1 94 = .ok (.bipush 6, 2) := by decide +kernel
theorem d_Sp_spellNode_96 : decode mi_Sp_spellNode.2.1 96 = .ok (.if_icmp .ne 51, 3) := by decide +kernel
theorem d_Sp_spellNode_99 : decode mi_Sp_spellNode.2.1 99 = .ok (.aload_n 0, 1) := by decide +kernel
theorem d_Sp_spellNode_100 : decode mi_Sp_spellNode.2.1 100 = .ok (.iload_n 3, 1) := by decide +kernel
theorem d_Sp_spellNode_101 : decode mi_Sp_spellNode.2.1 101 = .ok (.bipush 35, 2) := by decide +kernel
theorem d_Sp_spellNode_103 : decode mi_Sp_spellNode.2.1 103 = .ok (.invokevirtual 74, 3) := by decide +kernel
theorem d_Sp_spellNode_106 : decode mi_Sp_spellNode.2.1 106 = .ok (.aload_n 0, 1) := by decide +kernel
theorem d_Sp_spellNode_107 : decode mi_Sp_spellNode.2.1 107 = .ok (.iload_n 3, 1) := by decide +kernel
theorem d_Sp_spellNode_108 : decode mi_Sp_spellNode.2.1 108 = .ok (.iconst 1, 1) := by decide +kernel
theorem d_Sp_spellNode_109 : decode mi_Sp_spellNode.2.1 109 = .ok (.iadd, 1) := by decide +kernel
theorem d_Sp_spellNode_110 : decode mi_Sp_spellNode.2.1 110 = .ok (.aload_n 1, 1) := by decide +kernel
theorem d_Sp_spellNode_111 : decode mi_Sp_spellNode.2.1 111 = .ok (.getfield 57, 3) := by decide +kernel
theorem d_Sp_spellNode_114 : decode mi_Sp_spellNode.2.1 114 = .ok (.iload_n 2, 1) := by decide +kernel
theorem d_Sp_spellNode_115 : decode mi_Sp_spellNode.2.1 115 = .ok (.iaload, 1) := by decide +kernel
theorem d_Sp_spellNode_116 : decode mi_Sp_spellNode.2.1 116 = .ok (.invokevirtual 85, 3) := by decide +kernel
theorem d_Sp_spellNode_119 : decode mi_Sp_spellNode.2.1 119 = .ok (.istore 5, 2) := by decide +kernel
theorem d_Sp_spellNode_121 : decode mi_Sp_spellNode.2.1 121 = .ok (.aload_n 0, 1) := by decide +kernel
theorem d_Sp_spellNode_122 : decode mi_Sp_spellNode.2.1 122 = .ok (.iload 5, 2) := by decide +kernel
theorem d_Sp_spellNode_124 : decode mi_Sp_spellNode.2.1 124 = .ok (.bipush 45, 2) := by decide +kernel
theorem d_Sp_spellNode_126 : decode mi_Sp_spellNode.2.1 126 = .ok (.invokevirtual 74, 3) := by decide +kernel
theorem d_Sp_spellNode_129 : decode mi_Sp_spellNode.2.1 129 = .ok (.aload_n 0, 1) := by decide +kernel
theorem d_Sp_spellNode_130 : decode mi_Sp_spellNode.2.1 130 = .ok (.iload 5, 2) := by decide +kernel
theorem d_Sp_spellNode_132 : decode mi_Sp_spellNode.2.1 132 = .ok (.iconst 1, 1) := by decide +kernel
theorem d_Sp_spellNode_133 : decode mi_Sp_spellNode.2.1 133 = .ok (.iadd, 1) := by decide +kernel
theorem d_Sp_spellNode_134 : decode mi_Sp_spellNode.2.1 134 = .ok (.aload_n 1, 1) := by decide +kernel
theorem d_Sp_spellNode_135 : decode mi_Sp_spellNode.2.1 135 = .ok (.getfield 63, 3) := by decide +kernel
theorem d_Sp_spellNode_138 : decode mi_Sp_spellNode.2.1 138 = .ok (.iload_n 2, 1) := by decide +kernel
theorem d_Sp_spellNode_139 : decode mi_Sp_spellNode.2.1 139 = .ok (.iaload, 1) := by decide +kernel
theorem d_Sp_spellNode_140 : decode mi_Sp_spellNode.2.1 140 = .ok (.invokevirtual 85, 3) := by decide +kernel
theorem d_Sp_spellNode_143 : decode mi_Sp_spellNode.2.1 143 = .ok (.pop, 1) := by decide +kernel
theorem d_Sp_spellNode_144 : decode mi_Sp_spellNode.2.1 144 = .ok (.goto 77, 3) := by decide +kernel
theorem d_Sp_spellNode_147 : decode mi_Sp_spellNode.2.1 147 = .ok (.iload 4, 2) := by decide +kernel
theorem d_Sp_spellNode_149 : decode mi_Sp_spellNode.2.1 149 = .ok (.bipush 7, 2) := by decide +kernel
theorem d_Sp_spellNode_151 : decode mi_Sp_spellNode.2.1 151 = .ok (.if_icmp .eq 10, 3) := by decide +kernel
theorem d_Sp_spellNode_154 : decode mi_Sp_spellNode.2.1 154 = .ok (.iload 4, 2) := by decide +kernel
theorem d_Sp_spellNode_156 : decode mi_Sp_spellNode.2.1 156 = .ok (.bipush 8, 2) := by decide +kernel
theorem d_Sp_spellNode_158 : decode mi_Sp_spellNode.2.1 158 = .ok (.if_icmp .ne 56, 3) := by decide +kernel
theorem d_Sp_spellNode_161 : decode mi_Sp_spellNode.2.1 161 = .ok (.iload_n 3, 1) := by decide +kernel
theorem d_Sp_spellNode_162 : decode mi_Sp_spellNode.2.1 162 = .ok (.aload_n 0, 1) := by decide +kernel
theorem d_Sp_spellNode_163 : decode mi_Sp_spellNode.2.1 163 = .ok (.aload_n 1, 1) := by decide +kernel
theorem d_Sp_spellNode_164 : decode mi_Sp_spellNode.2.1 164 = .ok (.iload_n 2, 1) := by decide +kernel
theorem d_Sp_spellNode_165 : decode mi_Sp_spellNode.2.1 165 = .ok (.iconst 1, 1) := by decide +kernel
theorem d_Sp_spellNode_166 : decode mi_Sp_spellNode.2.1 166 = .ok (.invokevirtual 53, 3) := by decide +kernel
theorem d_Sp_spellNode_169 : decode mi_Sp_spellNode.2.1 169 = .ok (.iadd, 1) := by decide +kernel
theorem d_Sp_spellNode_170 : decode mi_Sp_spellNode.2.1 170 = .ok (.istore 5, 2) := by decide +kernel
theorem d_Sp_spellNode_172 : decode mi_Sp_spellNode.2.1 172 = .ok (.aload_n 0, 1) := by decide +kernel
theorem d_Sp_spellNode_173 : decode mi_Sp_spellNode.2.1 173 = .ok (.aload_n 1, 1) := by decide +kernel
theorem d_Sp_spellNode_174 : decode mi_Sp_spellNode.2.1 174 = .ok (.iload_n 2, 1) := by decide +kernel
theorem d_Sp_spellNode_175 : decode mi_Sp_spellNode.2.1 175 = .ok (.iconst 1, 1) := by decide +kernel
theorem d_Sp_spellNode_176 : decode mi_Sp_spellNode.2.1 176 = .ok (.iload_n 3, 1) := by decide +kernel
theorem d_Sp_spellNode_177 : decode mi_Sp_spellNode.2.1 177 = .ok (.invokevirtual 78, 3) := by decide +kernel
theorem d_Sp_spellNode_180 : decode mi_Sp_spellNode.2.1 180 = .ok (.aload_n 0, 1) := by decide +kernel
theorem d_Sp_spellNode_181 : decode mi_Sp_spellNode.2.1 181 = .ok (.iload 5, 2) := by decide +kernel
theorem d_Sp_spellNode_183 : decode mi_Sp_spellNode.2.1 183 = .ok (.iload 4, 2) := by decide +kernel
theorem d_Sp_spellNode_185 : decode mi_Sp_spellNode.2.1 185 = .ok (.bipush 7, 2) := by decide +kernel
theorem d_Sp_spellNode_187 : decode mi_Sp_spellNode.2.1 187 = .ok (.if_icmp .ne 8, 3) := by decide +kernel
theorem d_Sp_spellNode_190 : decode mi_Sp_spellNode.2.1 190 = .ok (.bipush 38, 2) := by decide +kernel
theorem d_Sp_spellNode_192 : decode mi_Sp_spellNode.2.1 192 = .ok (.goto 5, 3) := by decide +kernel
theorem d_Sp_spellNode_195 : decode mi_Sp_spellNode.2.1 195 = .ok (.bipush 124, 2) := by decide +kernel
theorem d_Sp_spellNode_197 : decode mi_Sp_spellNode.2.1 197 = .ok (.invokevirtual 74, 3) := by decide +kernel
theorem d_Sp_spellNode_200 : decode mi_Sp_spellNode.2.1 200 = .ok (.aload_n 0, 1) := by decide +kernel
theorem d_Sp_spellNode_201 : decode mi_Sp_spellNode.2.1 201 = .ok (.aload_n 1, 1) := by decide +kernel
theorem d_Sp_spellNode_202 : decode mi_Sp_spellNode.2.1 202 = .ok (.iload_n 2, 1) := by decide +kernel
theorem d_Sp_spellNode_203 : decode mi_Sp_spellNode.2.1 203 = .ok (.iconst 2, 1) := by decide +kernel
theorem d_Sp_spellNode_204 : decode mi_Sp_spellNode.2.1 204 = .ok (.iload 5, 2) := by decide +kernel
theorem d_Sp_spellNode_206 : decode mi_Sp_spellNode.2.1 206 = .ok (.iconst 1, 1) := by decide +kernel
theorem d_Sp_spellNode_207 : decode mi_Sp_spellNode.2.1 207 = .ok (.iadd, 1) := by decide +kernel
theorem d_Sp_spellNode_208 : decode mi_Sp_spellNode.2.1 208 = .ok (.invokevirtual 78, 3) := by decide +kernel
theorem d_Sp_spellNode_211 : decode mi_Sp_spellNode.2.1 211 = .ok (.goto 10, 3) := by decide +kernel
theorem d_Sp_spellNode_214 : decode mi_Sp_spellNode.2.1 214 = .ok (.aload_n 0, 1) := by decide +kernel
theorem d_Sp_spellNode_215 : decode mi_Sp_spellNode.2.1 215 = .ok (.iload_n 3, 1) := by decide +kernel
theorem d_Sp_spellNode_216 : decode mi_Sp_spellNode.2.1 216 = .ok (.bipush 42, 2) := by decide +kernel
theorem d_Sp_spellNode_218 : decode mi_Sp_spellNode.2.1 218 = .ok (.invokevirtual 74, 3) := by decide +kernel
theorem d_Sp_spellNode_221 : decode mi_Sp_spellNode.2.1 221 = .ok (.return_, 1) := by decide +kernel
theorem d_Sp_put_0 : decode mi_Sp_put.2.1 0 = .ok (.iload_n 1, 1) := by decide +kernel
theorem d_Sp_put_1 : decode mi_Sp_put.2.1 1 = .ok (.ifCond .lt 17, 3) := by decide +kernel
theorem d_Sp_put_4 : decode mi_Sp_put.2.1 4 = .ok (.iload_n 1, 1) := by decide +kernel
theorem d_Sp_put_5 : decode mi_Sp_put.2.1 5 = .ok (.sipush 270, 3) := by decide +kernel
theorem d_Sp_put_8 : decode mi_Sp_put.2.1 8 = .ok (.if_icmp .ge 10, 3) := by decide +kernel
theorem d_Sp_put_11 : decode mi_Sp_put.2.1 11 = .ok (.aload_n 0, 1) := by decide +kernel
theorem d_Sp_put_12 : decode mi_Sp_put.2.1 12 = .ok (.getfield 18, 3) := by decide +kernel
theorem d_Sp_put_15 : decode mi_Sp_put.2.1 15 = .ok (.iload_n 1, 1) := by decide +kernel
theorem d_Sp_put_16 : decode mi_Sp_put.2.1 16 = .ok (.iload_n 2, 1) := by decide +kernel
theorem d_Sp_put_17 : decode mi_Sp_put.2.1 17 = .ok (.iastore, 1) := by decide +kernel
theorem d_Sp_put_18 : decode mi_Sp_put.2.1 18 = .ok (.return_, 1) := by decide +kernel
theorem d_Sp_placePart_0 : decode mi_Sp_placePart.2.1 0 = .ok (.aload_n 1, 1) := by decide +kernel
theorem d_Sp_placePart_1 : decode mi_Sp_placePart.2.1 1 = .ok (.iload_n 2, 1) := by decide +kernel
theorem d_Sp_placePart_2 : decode mi_Sp_placePart.2.1 2 = .ok (.iload_n 3, 1) := by decide +kernel
theorem d_Sp_placePart_3 : decode mi_Sp_placePart.2.1 3 = .ok (.invokevirtual 66, 3) := by decide +kernel
theorem d_Sp_placePart_6 : decode mi_Sp_placePart.2.1 6 = .ok (.istore 5, 2) := by decide +kernel
theorem d_Sp_placePart_8 : decode mi_Sp_placePart.2.1 8 = .ok (.iload 5, 2) := by decide +kernel
theorem d_Sp_placePart_10 : decode mi_Sp_placePart.2.1 10 = .ok (.iconst (-1), 1) := by decide +kernel
theorem d_Sp_placePart_11 : decode mi_Sp_placePart.2.1 11 = .ok (.if_icmp .ne 4, 3) := by decide +kernel
theorem d_Sp_placePart_14 : decode mi_Sp_placePart.2.1 14 = .ok (.return_, 1) := by decide +kernel
theorem d_Sp_placePart_15 : decode mi_Sp_placePart.2.1 15 = .ok (.aload_n 1, 1) := by decide +kernel
theorem d_Sp_placePart_16 : decode mi_Sp_placePart.2.1 16 = .ok (.iload_n 2, 1) := by decide +kernel
theorem d_Sp_placePart_17 : decode mi_Sp_placePart.2.1 17 = .ok (.iload_n 3, 1) := by decide +kernel
theorem d_Sp_placePart_18 : decode mi_Sp_placePart.2.1 18 = .ok (.invokestatic 70, 3) := by decide +kernel
theorem d_Sp_placePart_21 : decode mi_Sp_placePart.2.1 21 = .ok (.ifCond .eq 43, 3) := by decide +kernel
theorem d_Sp_placePart_24 : decode mi_Sp_placePart.2.1 24 = .ok (.aload_n 0, 1) := by decide +kernel
theorem d_Sp_placePart_25 : decode mi_Sp_placePart.2.1 25 = .ok (.iload 4, 2) := by decide +kernel
theorem d_Sp_placePart_27 : decode mi_Sp_placePart.2.1 27 = .ok (.bipush 40, 2) := by decide +kernel
theorem d_Sp_placePart_29 : decode mi_Sp_placePart.2.1 29 = .ok (.invokevirtual 74, 3) := by decide +kernel
theorem d_Sp_placePart_32 : decode mi_Sp_placePart.2.1 32 = .ok (.aload_n 0, 1) := by decide +kernel
theorem d_Sp_placePart_33 : decode mi_Sp_placePart.2.1 33 = .ok (.getfield 15, 3) := by decide +kernel
theorem d_Sp_placePart_36 : decode mi_Sp_placePart.2.1 36 = .ok (.iload 5, 2) := by decide +kernel
theorem d_Sp_placePart_38 : decode mi_Sp_placePart.2.1 38 = .ok (.iload 4, 2) := by decide +kernel
theorem d_Sp_placePart_40 : decode mi_Sp_placePart.2.1 40 = .ok (.iconst 1, 1) := by decide +kernel
theorem d_Sp_placePart_41 : decode mi_Sp_placePart.2.1 41 = .ok (.iadd, 1) := by decide +kernel
theorem d_Sp_placePart_42 : decode mi_Sp_placePart.2.1 42 = .ok (.iastore, 1) := by decide +kernel
theorem d_Sp_placePart_43 : decode mi_Sp_placePart.2.1 43 = .ok (.aload_n 0, 1) := by decide +kernel
theorem d_Sp_placePart_44 : decode mi_Sp_placePart.2.1 44 = .ok (.iload 4, 2) := by decide +kernel
theorem d_Sp_placePart_46 : decode mi_Sp_placePart.2.1 46 = .ok (.iconst 1, 1) := by decide +kernel
theorem d_Sp_placePart_47 : decode mi_Sp_placePart.2.1 47 = .ok (.iadd, 1) := by decide +kernel
theorem d_Sp_placePart_48 : decode mi_Sp_placePart.2.1 48 = .ok (.aload_n 0, 1) := by decide +kernel
theorem d_Sp_placePart_49 : decode mi_Sp_placePart.2.1 49 = .ok (.getfield 9, 3) := by decide +kernel
theorem d_Sp_placePart_52 : decode mi_Sp_placePart.2.1 52 = .ok (.iload 5, 2) := by decide +kernel
theorem d_Sp_placePart_54 : decode mi_Sp_placePart.2.1 54 = .ok (.iaload, 1) := by decide +kernel
theorem d_Sp_placePart_55 : decode mi_Sp_placePart.2.1 55 = .ok (.iadd, 1) := by decide +kernel
theorem d_Sp_placePart_56 : decode mi_Sp_placePart.2.1 56 = .ok (.bipush 41, 2) := by decide +kernel
theorem d_Sp_placePart_58 : decode mi_Sp_placePart.2.1 58 = .ok (.invokevirtual 74, 3) := by decide +kernel
theorem d_Sp_placePart_61 : decode mi_Sp_placePart.2.1 61 = .ok (.goto 12, 3) := by decide +kernel
theorem d_Sp_placePart_64 : decode mi_Sp_placePart.2.1 64 = .ok (.aload_n 0, 1) := by decide +kernel
theorem d_Sp_placePart_65 : decode mi_Sp_placePart.2.1 65 = .ok (.getfield 15, 3) := by decide +kernel
theorem d_Sp_placePart_68 : decode mi_Sp_placePart.2.1 68 = .ok (.iload 5, 2) := by decide +kernel
theorem d_Sp_placePart_70 : decode mi_Sp_placePart.2.1 70 = .ok (.iload 4, 2) := by decide +kernel
theorem d_Sp_placePart_72 : decode mi_Sp_placePart.2.1 72 = .ok (.iastore, 1) := by decide +kernel
theorem d_Sp_placePart_73 : decode mi_Sp_placePart.2.1 73 = .ok (.return_, 1) := by decide +kernel
theorem d_Sp_putNumber_0 : decode mi_Sp_putNumber.2.1 0 = .ok (.iload_n 1, 1) := by decide +kernel
theorem d_Sp_putNumber_1 : decode mi_Sp_putNumber.2.1 1 = .ok (.iload_n 2, 1) := by decide +kernel
theorem d_Sp_putNumber_2 : decode mi_Sp_putNumber.2.1 2 = .ok (.invokestatic 60, 3) := by decide +kernel
theorem d_Sp_putNumber_5 : decode mi_Sp_putNumber.2.1 5 = .ok (.iadd, 1) := by decide +kernel
theorem d_Sp_putNumber_6 : decode mi_Sp_putNumber.2.1 6 = .ok (.istore_n 3, 1) := by decide +kernel
theorem d_Sp_putNumber_7 : decode mi_Sp_putNumber.2.1 7 = .ok (.iload_n 2, 1) := by decide +kernel
theorem d_Sp_putNumber_8 : decode mi_Sp_putNumber.2.1 8 = .ok (.istore 4, 2) := by decide +kernel
theorem d_Sp_putNumber_10 : decode mi_Sp_putNumber.2.1 10 = .ok (.iload_n 3, 1) := by decide +kernel
theorem d_Sp_putNumber_11 : decode mi_Sp_putNumber.2.1 11 = .ok (.iconst 1, 1) := by decide +kernel
theorem d_Sp_putNumber_12 : decode mi_Sp_putNumber.2.1 12 = .ok (.isub, 1) := by decide +kernel
theorem d_Sp_putNumber_13 : decode mi_Sp_putNumber.2.1 13 = .ok (.istore 5, 2) := by decide +kernel
theorem d_Sp_putNumber_15 : decode mi_Sp_putNumber.2.1 15 = .ok (.iload 5, 2) := by decide +kernel
theorem d_Sp_putNumber_17 : decode mi_Sp_putNumber.2.1 17 = .ok (.iload_n 1, 1) := by decide +kernel
theorem d_Sp_putNumber_18 : decode mi_Sp_putNumber.2.1 18 = .ok (.if_icmp .lt 30, 3) := by decide +kernel
theorem d_Sp_putNumber_21 : decode mi_Sp_putNumber.2.1 21 = .ok (.aload_n 0, 1) := by decide +kernel
theorem d_Sp_putNumber_22 : decode mi_Sp_putNumber.2.1 22 = .ok (.iload 5, 2) := by decide +kernel
theorem d_Sp_putNumber_24 : decode mi_Sp_putNumber.2.1 24 = .ok (.bipush 48, 2) := by decide +kernel
theorem d_Sp_putNumber_26 : decode mi_Sp_putNumber.2.1 26 = .ok (.iload 4, 2) := by decide +kernel
theorem d_Sp_putNumber_28 : decode mi_Sp_putNumber.2.1 28 = .ok (.bipush 10, 2) := by decide +kernel
theorem d_Sp_putNumber_30 : decode mi_Sp_putNumber.2.1 30 = .ok (.irem, 1) := by decide +kernel
theorem d_Sp_putNumber_31 : decode mi_Sp_putNumber.2.1 31 = .ok (.iadd, 1) := by decide +kernel
theorem d_Sp_putNumber_32 : decode mi_Sp_putNumber.2.1 32 = .ok (.invokevirtual 74, 3) := by decide +kernel
theorem d_Sp_putNumber_35 : decode mi_Sp_putNumber.2.1 35 = .ok (.iload 4, 2) := by decide +kernel
theorem d_Sp_putNumber_37 : decode mi_Sp_putNumber.2.1 37 = .ok (.bipush 10, 2) := by decide +kernel
theorem d_Sp_putNumber_39 : decode mi_Sp_putNumber.2.1 39 = .ok (.idiv, 1) := by decide +kernel
theorem d_Sp_putNumber_40 : decode mi_Sp_putNumber.2.1 40 = .ok (.istore 4, 2) := by decide +kernel
theorem d_Sp_putNumber_42 : decode mi_Sp_putNumber.2.1 42 = .ok (.iinc 5 (-1), 3) := by decide +kernel
theorem d_Sp_putNumber_45 : decode mi_Sp_putNumber.2.1 45 = .ok (.goto (-30), 3) := by decide +kernel
theorem d_Sp_putNumber_48 : decode mi_Sp_putNumber.2.1 48 = .ok (.iload_n 3, 1) := by decide +kernel
theorem d_Sp_putNumber_49 : decode mi_Sp_putNumber.2.1 49 = .ok (.ireturn, 1) := by decide +kernel
theorem d_Sp_spellAnswer_0 : decode mi_Sp_spellAnswer.2.1 0 = .ok (.aload_n 1, 1) := by decide +kernel
theorem d_Sp_spellAnswer_1 : decode mi_Sp_spellAnswer.2.1 1 = .ok (.invokevirtual 88, 3) := by decide +kernel
theorem d_Sp_spellAnswer_4 : decode mi_Sp_spellAnswer.2.1 4 = .ok (.ifCond .eq 32, 3) := by decide +kernel
theorem d_Sp_spellAnswer_7 : decode mi_Sp_spellAnswer.2.1 7 = .ok (.aload_n 0, 1) := by decide +kernel
theorem d_Sp_spellAnswer_8 : decode mi_Sp_spellAnswer.2.1 8 = .ok (.aload_n 0, 1) := by decide +kernel
theorem d_Sp_spellAnswer_9 : decode mi_Sp_spellAnswer.2.1 9 = .ok (.getfield 21, 3) := by decide +kernel
theorem d_Sp_spellAnswer_12 : decode mi_Sp_spellAnswer.2.1 12 = .ok (.bipush 58, 2) := by decide +kernel
theorem d_Sp_spellAnswer_14 : decode mi_Sp_spellAnswer.2.1 14 = .ok (.invokevirtual 74, 3) := by decide +kernel
theorem d_Sp_spellAnswer_17 : decode mi_Sp_spellAnswer.2.1 17 = .ok (.aload_n 0, 1) := by decide +kernel
theorem d_Sp_spellAnswer_18 : decode mi_Sp_spellAnswer.2.1 18 = .ok (.aload_n 0, 1) := by decide +kernel
theorem d_Sp_spellAnswer_19 : decode mi_Sp_spellAnswer.2.1 19 = .ok (.aload_n 0, 1) := by decide +kernel
theorem d_Sp_spellAnswer_20 : decode mi_Sp_spellAnswer.2.1 20 = .ok (.getfield 21, 3) := by decide +kernel
theorem d_Sp_spellAnswer_23 : decode mi_Sp_spellAnswer.2.1 23 = .ok (.iconst 1, 1) := by decide +kernel
theorem d_Sp_spellAnswer_24 : decode mi_Sp_spellAnswer.2.1 24 = .ok (.iadd, 1) := by decide +kernel
theorem d_Sp_spellAnswer_25 : decode mi_Sp_spellAnswer.2.1 25 = .ok (.aload_n 1, 1) := by decide +kernel
theorem d_Sp_spellAnswer_26 : decode mi_Sp_spellAnswer.2.1 26 = .ok (.getfield 92, 3) := by decide +kernel
theorem d_Sp_spellAnswer_29 : decode mi_Sp_spellAnswer.2.1 29 = .ok (.invokevirtual 85, 3) := by decide +kernel
theorem d_Sp_spellAnswer_32 : decode mi_Sp_spellAnswer.2.1 32 = .ok (.putfield 21, 3) := by decide +kernel
theorem d_Sp_spellAnswer_35 : decode mi_Sp_spellAnswer.2.1 35 = .ok (.return_, 1) := by decide +kernel
theorem d_Sp_spellAnswer_36 : decode mi_Sp_spellAnswer.2.1 36 = .ok (.iconst 0, 1) := by decide +kernel
theorem d_Sp_spellAnswer_37 : decode mi_Sp_spellAnswer.2.1 37 = .ok (.istore_n 2, 1) := by decide +kernel
theorem d_Sp_spellAnswer_38 : decode mi_Sp_spellAnswer.2.1 38 = .ok (.iload_n 2, 1) := by decide +kernel
theorem d_Sp_spellAnswer_39 : decode mi_Sp_spellAnswer.2.1 39 = .ok (.iconst 3, 1) := by decide +kernel
theorem d_Sp_spellAnswer_40 : decode mi_Sp_spellAnswer.2.1 40 = .ok (.if_icmp .ge 48, 3) := by decide +kernel
theorem d_Sp_spellAnswer_43 : decode mi_Sp_spellAnswer.2.1 43 = .ok (.aload_n 0, 1) := by decide +kernel
theorem d_Sp_spellAnswer_44 : decode mi_Sp_spellAnswer.2.1 44 = .ok (.aload_n 0, 1) := by decide +kernel
theorem d_Sp_spellAnswer_45 : decode mi_Sp_spellAnswer.2.1 45 = .ok (.getfield 21, 3) := by decide +kernel
theorem d_Sp_spellAnswer_48 : decode mi_Sp_spellAnswer.2.1 48 = .ok (.iload_n 2, 1) := by decide +kernel
theorem d_Sp_spellAnswer_49 : decode mi_Sp_spellAnswer.2.1 49 = .ok (.ifCond .ne 8, 3) := by decide +kernel
theorem d_Sp_spellAnswer_52 : decode mi_Sp_spellAnswer.2.1 52 = .ok (.bipush 37, 2) := by decide +kernel
theorem d_Sp_spellAnswer_54 : decode mi_Sp_spellAnswer.2.1 54 = .ok (.goto 5, 3) := by decide +kernel
theorem d_Sp_spellAnswer_57 : decode mi_Sp_spellAnswer.2.1 57 = .ok (.bipush 44, 2) := by decide +kernel
theorem d_Sp_spellAnswer_59 : decode mi_Sp_spellAnswer.2.1 59 = .ok (.invokevirtual 74, 3) := by decide +kernel
theorem d_Sp_spellAnswer_62 : decode mi_Sp_spellAnswer.2.1 62 = .ok (.aload_n 0, 1) := by decide +kernel
theorem d_Sp_spellAnswer_63 : decode mi_Sp_spellAnswer.2.1 63 = .ok (.aload_n 0, 1) := by decide +kernel
theorem d_Sp_spellAnswer_64 : decode mi_Sp_spellAnswer.2.1 64 = .ok (.aload_n 0, 1) := by decide +kernel
theorem d_Sp_spellAnswer_65 : decode mi_Sp_spellAnswer.2.1 65 = .ok (.getfield 21, 3) := by decide +kernel
theorem d_Sp_spellAnswer_68 : decode mi_Sp_spellAnswer.2.1 68 = .ok (.iconst 1, 1) := by decide +kernel
theorem d_Sp_spellAnswer_69 : decode mi_Sp_spellAnswer.2.1 69 = .ok (.iadd, 1) := by decide +kernel
theorem d_Sp_spellAnswer_70 : decode mi_Sp_spellAnswer.2.1 70 = .ok (.aload_n 1, 1) := by decide +kernel
theorem d_Sp_spellAnswer_71 : decode mi_Sp_spellAnswer.2.1 71 = .ok (.getfield 95, 3) := by decide +kernel
theorem d_Sp_spellAnswer_74 : decode mi_Sp_spellAnswer.2.1 74 = .ok (.iload_n 2, 1) := by decide +kernel
theorem d_Sp_spellAnswer_75 : decode mi_Sp_spellAnswer.2.1 75 = .ok (.iaload, 1) := by decide +kernel
theorem d_Sp_spellAnswer_76 : decode mi_Sp_spellAnswer.2.1 76 = .ok (.invokevirtual 85, 3) := by decide +kernel
theorem d_Sp_spellAnswer_79 : decode mi_Sp_spellAnswer.2.1 79 = .ok (.putfield 21, 3) := by decide +kernel
theorem d_Sp_spellAnswer_82 : decode mi_Sp_spellAnswer.2.1 82 = .ok (.iinc 2 1, 3) := by decide +kernel
theorem d_Sp_spellAnswer_85 : decode mi_Sp_spellAnswer.2.1 85 = .ok (.goto (-47), 3) := by decide +kernel
theorem d_Sp_spellAnswer_88 : decode mi_Sp_spellAnswer.2.1 88 = .ok (.return_, 1) := by decide +kernel
theorem d_Sp_letterAt_0 : decode mi_Sp_letterAt.2.1 0 = .ok (.iload_n 1, 1) := by decide +kernel
theorem d_Sp_letterAt_1 : decode mi_Sp_letterAt.2.1 1 = .ok (.ifCond .lt 20, 3) := by decide +kernel
theorem d_Sp_letterAt_4 : decode mi_Sp_letterAt.2.1 4 = .ok (.iload_n 1, 1) := by decide +kernel
theorem d_Sp_letterAt_5 : decode mi_Sp_letterAt.2.1 5 = .ok (.aload_n 0, 1) := by decide +kernel
theorem d_Sp_letterAt_6 : decode mi_Sp_letterAt.2.1 6 = .ok (.getfield 21, 3) := by decide +kernel
theorem d_Sp_letterAt_9 : decode mi_Sp_letterAt.2.1 9 = .ok (.if_icmp .ge 12, 3) := by decide +kernel
theorem d_Sp_letterAt_12 : decode mi_Sp_letterAt.2.1 12 = .ok (.aload_n 0, 1) := by decide +kernel
theorem d_Sp_letterAt_13 : decode mi_Sp_letterAt.2.1 13 = .ok (.getfield 18, 3) := by decide +kernel
theorem d_Sp_letterAt_16 : decode mi_Sp_letterAt.2.1 16 = .ok (.iload_n 1, 1) := by decide +kernel
theorem d_Sp_letterAt_17 : decode mi_Sp_letterAt.2.1 17 = .ok (.iaload, 1) := by decide +kernel
theorem d_Sp_letterAt_18 : decode mi_Sp_letterAt.2.1 18 = .ok (.goto 4, 3) := by decide +kernel
theorem d_Sp_letterAt_21 : decode mi_Sp_letterAt.2.1 21 = .ok (.iconst (-1), 1) := by decide +kernel
theorem d_Sp_letterAt_22 : decode mi_Sp_letterAt.2.1 22 = .ok (.ireturn, 1) := by decide +kernel
theorem d_De_draw_0 : decode mi_De_draw.2.1 0 = .ok (.aload_n 0, 1) := by decide +kernel
theorem d_De_draw_1 : decode mi_De_draw.2.1 1 = .ok (.aload_n 0, 1) := by decide +kernel
theorem d_De_draw_2 : decode mi_De_draw.2.1 2 = .ok (.getfield 38, 3) := by decide +kernel
theorem d_De_draw_5 : decode mi_De_draw.2.1 5 = .ok (.ldc 118, 2) := by decide +kernel
theorem d_De_draw_7 : decode mi_De_draw.2.1 7 = .ok (.imul, 1) := by decide +kernel
theorem d_De_draw_8 : decode mi_De_draw.2.1 8 = .ok (.sipush 12345, 3) := by decide +kernel
theorem d_De_draw_11 : decode mi_De_draw.2.1 11 = .ok (.iadd, 1) := by decide +kernel
theorem d_De_draw_12 : decode mi_De_draw.2.1 12 = .ok (.putfield 38, 3) := by decide +kernel
theorem d_De_draw_15 : decode mi_De_draw.2.1 15 = .ok (.iload_n 1, 1) := by decide +kernel
theorem d_De_draw_16 : decode mi_De_draw.2.1 16 = .ok (.ifCond .le 15, 3) := by decide +kernel
theorem d_De_draw_19 : decode mi_De_draw.2.1 19 = .ok (.aload_n 0, 1) := by decide +kernel
theorem d_De_draw_20 : decode mi_De_draw.2.1 20 = .ok (.getfield 38, 3) := by decide +kernel
theorem d_De_draw_23 : decode mi_De_draw.2.1 23 = .ok (.bipush 16, 2) := by decide +kernel
theorem d_De_draw_25 : decode mi_De_draw.2.1 25 = .ok (.iushr, 1) := by decide +kernel
theorem d_De_draw_26 : decode mi_De_draw.2.1 26 = .ok (.iload_n 1, 1) := by decide +kernel
theorem d_De_draw_27 : decode mi_De_draw.2.1 27 = .ok (.irem, 1) := by decide +kernel
theorem d_De_draw_28 : decode mi_De_draw.2.1 28 = .ok (.goto 4, 3) := by decide +kernel
theorem d_De_draw_31 : decode mi_De_draw.2.1 31 = .ok (.iconst 0, 1) := by decide +kernel
theorem d_De_draw_32 : decode mi_De_draw.2.1 32 = .ok (.ireturn, 1) := by decide +kernel
theorem d_De_countRules_0 : decode mi_De_countRules.2.1 0 = .ok (.iconst 0, 1) := by decide +kernel
theorem d_De_countRules_1 : decode mi_De_countRules.2.1 1 = .ok (.istore_n 1, 1) := by decide +kernel
theorem d_De_countRules_2 : decode mi_De_countRules.2.1 2 = .ok (.iconst 0, 1) := by decide +kernel
theorem d_De_countRules_3 : decode mi_De_countRules.2.1 3 = .ok (.istore_n 2, 1) := by decide +kernel
theorem d_De_countRules_4 : decode mi_De_countRules.2.1 4 = .ok (.iload_n 2, 1) := by decide +kernel
theorem d_De_countRules_5 : decode mi_De_countRules.2.1 5 = .ok (.aload_n 0, 1) := by decide +kernel
theorem d_De_countRules_6 : decode mi_De_countRules.2.1 6 = .ok (.getfield 24, 3) := by decide +kernel
theorem d_De_countRules_9 : decode mi_De_countRules.2.1 9 = .ok (.if_icmp .ge 21, 3) := by decide +kernel
theorem d_De_countRules_12 : decode mi_De_countRules.2.1 12 = .ok (.iload_n 1, 1) := by decide +kernel
theorem d_De_countRules_13 : decode mi_De_countRules.2.1 13 = .ok (.aload_n 0, 1) := by decide +kernel
theorem d_De_countRules_14 : decode mi_De_countRules.2.1 14 = .ok (.getfield 20, 3) := by decide +kernel
theorem d_De_countRules_17 : decode mi_De_countRules.2.1 17 = .ok (.iload_n 2, 1) := by decide +kernel
theorem d_De_countRules_18 : decode mi_De_countRules.2.1 18 = .ok (.aaload, 1) := by decide +kernel
theorem d_De_countRules_19 : decode mi_De_countRules.2.1 19 = .ok (.getfield 119, 3) := by decide +kernel
theorem d_De_countRules_22 : decode mi_De_countRules.2.1 22 = .ok (.iadd, 1) := by decide +kernel
theorem d_De_countRules_23 : decode mi_De_countRules.2.1 23 = .ok (.istore_n 1, 1) := by decide +kernel
theorem d_De_countRules_24 : decode mi_De_countRules.2.1 24 = .ok (.iinc 2 1, 3) := by decide +kernel
theorem d_De_countRules_27 : decode mi_De_countRules.2.1 27 = .ok (.goto (-23), 3) := by decide +kernel
theorem d_De_countRules_30 : decode mi_De_countRules.2.1 30 = .ok (.iload_n 1, 1) := by decide +kernel
theorem d_De_countRules_31 : decode mi_De_countRules.2.1 31 = .ok (.ireturn, 1) := by decide +kernel
theorem d_De_countNeeds_0 : decode mi_De_countNeeds.2.1 0 = .ok (.iconst 0, 1) := by decide +kernel
theorem d_De_countNeeds_1 : decode mi_De_countNeeds.2.1 1 = .ok (.istore_n 1, 1) := by decide +kernel
theorem d_De_countNeeds_2 : decode mi_De_countNeeds.2.1 2 = .ok (.iconst 0, 1) := by decide +kernel
theorem d_De_countNeeds_3 : decode mi_De_countNeeds.2.1 3 = .ok (.istore_n 2, 1) := by decide +kernel
theorem d_De_countNeeds_4 : decode mi_De_countNeeds.2.1 4 = .ok (.iload_n 2, 1) := by decide +kernel
theorem d_De_countNeeds_5 : decode mi_De_countNeeds.2.1 5 = .ok (.aload_n 0, 1) := by decide +kernel
theorem d_De_countNeeds_6 : decode mi_De_countNeeds.2.1 6 = .ok (.getfield 24, 3) := by decide +kernel
theorem d_De_countNeeds_9 : decode mi_De_countNeeds.2.1 9 = .ok (.if_icmp .ge 21, 3) := by decide +kernel
theorem d_De_countNeeds_12 : decode mi_De_countNeeds.2.1 12 = .ok (.iload_n 1, 1) := by decide +kernel
theorem d_De_countNeeds_13 : decode mi_De_countNeeds.2.1 13 = .ok (.aload_n 0, 1) := by decide +kernel
theorem d_De_countNeeds_14 : decode mi_De_countNeeds.2.1 14 = .ok (.getfield 20, 3) := by decide +kernel
theorem d_De_countNeeds_17 : decode mi_De_countNeeds.2.1 17 = .ok (.iload_n 2, 1) := by decide +kernel
theorem d_De_countNeeds_18 : decode mi_De_countNeeds.2.1 18 = .ok (.aaload, 1) := by decide +kernel
theorem d_De_countNeeds_19 : decode mi_De_countNeeds.2.1 19 = .ok (.getfield 70, 3) := by decide +kernel
theorem d_De_countNeeds_22 : decode mi_De_countNeeds.2.1 22 = .ok (.iadd, 1) := by decide +kernel
theorem d_De_countNeeds_23 : decode mi_De_countNeeds.2.1 23 = .ok (.istore_n 1, 1) := by decide +kernel
theorem d_De_countNeeds_24 : decode mi_De_countNeeds.2.1 24 = .ok (.iinc 2 1, 3) := by decide +kernel
theorem d_De_countNeeds_27 : decode mi_De_countNeeds.2.1 27 = .ok (.goto (-23), 3) := by decide +kernel
theorem d_De_countNeeds_30 : decode mi_De_countNeeds.2.1 30 = .ok (.iload_n 1, 1) := by decide +kernel
theorem d_De_countNeeds_31 : decode mi_De_countNeeds.2.1 31 = .ok (.ireturn, 1) := by decide +kernel
theorem d_De_countKept_0 : decode mi_De_countKept.2.1 0 = .ok (.iconst 0, 1) := by decide +kernel
theorem d_De_countKept_1 : decode mi_De_countKept.2.1 1 = .ok (.istore_n 1, 1) := by decide +kernel
theorem d_De_countKept_2 : decode mi_De_countKept.2.1 2 = .ok (.iconst 0, 1) := by decide +kernel
theorem d_De_countKept_3 : decode mi_De_countKept.2.1 3 = .ok (.istore_n 2, 1) := by decide +kernel
theorem d_De_countKept_4 : decode mi_De_countKept.2.1 4 = .ok (.iload_n 2, 1) := by decide +kernel
theorem d_De_countKept_5 : decode mi_De_countKept.2.1 5 = .ok (.aload_n 0, 1) := by decide +kernel
theorem d_De_countKept_6 : decode mi_De_countKept.2.1 6 = .ok (.getfield 24, 3) := by decide +kernel
theorem d_De_countKept_9 : decode mi_De_countKept.2.1 9 = .ok (.if_icmp .ge 24, 3) := by decide +kernel
theorem d_De_countKept_12 : decode mi_De_countKept.2.1 12 = .ok (.iload_n 1, 1) := by decide +kernel
theorem d_De_countKept_13 : decode mi_De_countKept.2.1 13 = .ok (.aload_n 0, 1) := by decide +kernel
theorem d_De_countKept_14 : decode mi_De_countKept.2.1 14 = .ok (.getfield 20, 3) := by decide +kernel
theorem d_De_countKept_17 : decode mi_De_countKept.2.1 17 = .ok (.iload_n 2, 1) := by decide +kernel
theorem d_De_countKept_18 : decode mi_De_countKept.2.1 18 = .ok (.aaload, 1) := by decide +kernel
theorem d_De_countKept_19 : decode mi_De_countKept.2.1 19 = .ok (.getfield 122, 3) := by decide +kernel
theorem d_De_countKept_22 : decode mi_De_countKept.2.1 22 = .ok (.invokestatic 125, 3) := by decide +kernel
theorem d_De_countKept_25 : decode mi_De_countKept.2.1 25 = .ok (.iadd, 1) := by decide +kernel
theorem d_De_countKept_26 : decode mi_De_countKept.2.1 26 = .ok (.istore_n 1, 1) := by decide +kernel
theorem d_De_countKept_27 : decode mi_De_countKept.2.1 27 = .ok (.iinc 2 1, 3) := by decide +kernel
theorem d_De_countKept_30 : decode mi_De_countKept.2.1 30 = .ok (.goto (-26), 3) := by decide +kernel
theorem d_De_countKept_33 : decode mi_De_countKept.2.1 33 = .ok (.iload_n 1, 1) := by decide +kernel
theorem d_De_countKept_34 : decode mi_De_countKept.2.1 34 = .ok (.ireturn, 1) := by decide +kernel
