theorem d_X_init_0 : decode mi_X_init.2.1 0 = .ok (.aload_n 0, 1) := by decide +kernel
theorem d_X_init_1 : decode mi_X_init.2.1 1 = .ok (.invokespecial 3, 3) := by decide +kernel
theorem d_X_init_4 : decode mi_X_init.2.1 4 = .ok (.aload_n 0, 1) := by decide +kernel
theorem d_X_init_5 : decode mi_X_init.2.1 5 = .ok (.new 9, 3) := by decide +kernel
theorem d_X_init_8 : decode mi_X_init.2.1 8 = .ok (.dup, 1) := by decide +kernel
theorem d_X_init_9 : decode mi_X_init.2.1 9 = .ok (.invokespecial 11, 3) := by decide +kernel
theorem d_X_init_12 : decode mi_X_init.2.1 12 = .ok (.putfield 12, 3) := by decide +kernel
theorem d_X_init_15 : decode mi_X_init.2.1 15 = .ok (.aload_n 0, 1) := by decide +kernel
theorem d_X_init_16 : decode mi_X_init.2.1 16 = .ok (.new 9, 3) := by decide +kernel
theorem d_X_init_19 : decode mi_X_init.2.1 19 = .ok (.dup, 1) := by decide +kernel
theorem d_X_init_20 : decode mi_X_init.2.1 20 = .ok (.invokespecial 11, 3) := by decide +kernel
theorem d_X_init_23 : decode mi_X_init.2.1 23 = .ok (.putfield 16, 3) := by decide +kernel
theorem d_X_init_26 : decode mi_X_init.2.1 26 = .ok (.aload_n 0, 1) := by decide +kernel
theorem d_X_init_27 : decode mi_X_init.2.1 27 = .ok (.new 9, 3) := by decide +kernel
theorem d_X_init_30 : decode mi_X_init.2.1 30 = .ok (.dup, 1) := by decide +kernel
theorem d_X_init_31 : decode mi_X_init.2.1 31 = .ok (.invokespecial 11, 3) := by decide +kernel
theorem d_X_init_34 : decode mi_X_init.2.1 34 = .ok (.putfield 19, 3) := by decide +kernel
theorem d_X_init_37 : decode mi_X_init.2.1 37 = .ok (.aload_n 0, 1) := by decide +kernel
theorem d_X_init_38 : decode mi_X_init.2.1 38 = .ok (.iconst 0, 1) := by decide +kernel
theorem d_X_init_39 : decode mi_X_init.2.1 39 = .ok (.putfield 22, 3) := by decide +kernel
theorem d_X_init_42 : decode mi_X_init.2.1 42 = .ok (.aload_n 0, 1) := by decide +kernel
theorem d_X_init_43 : decode mi_X_init.2.1 43 = .ok (.new 26, 3) := by decide +kernel
theorem d_X_init_46 : decode mi_X_init.2.1 46 = .ok (.dup, 1) := by decide +kernel
theorem d_X_init_47 : decode mi_X_init.2.1 47 = .ok (.invokespecial 28, 3) := by decide +kernel
theorem d_X_init_50 : decode mi_X_init.2.1 50 = .ok (.putfield 29, 3) := by decide +kernel
theorem d_X_init_53 : decode mi_X_init.2.1 53 = .ok (.aload_n 0, 1) := by decide +kernel
theorem d_X_init_54 : decode mi_X_init.2.1 54 = .ok (.new 26, 3) := by decide +kernel
theorem d_X_init_57 : decode mi_X_init.2.1 57 = .ok (.dup, 1) := by decide +kernel
theorem d_X_init_58 : decode mi_X_init.2.1 58 = .ok (.invokespecial 28, 3) := by decide +kernel
theorem d_X_init_61 : decode mi_X_init.2.1 61 = .ok (.putfield 33, 3) := by decide +kernel
theorem d_X_init_64 : decode mi_X_init.2.1 64 = .ok (.aload_n 0, 1) := by decide +kernel
theorem d_X_init_65 : decode mi_X_init.2.1 65 = .ok (.bipush 24, 2) := by decide +kernel
theorem d_X_init_67 : decode mi_X_init.2.1 67 = .ok (.newarray .int, 2) := by decide +kernel
theorem d_X_init_69 : decode mi_X_init.2.1 69 = .ok (.putfield 36, 3) := by decide +kernel
theorem d_X_init_72 : decode mi_X_init.2.1 72 = .ok (.aload_n 0, 1) := by decide +kernel
theorem d_X_init_73 : decode mi_X_init.2.1 73 = .ok (.bipush 8, 2) := by decide +kernel
theorem d_X_init_75 : decode mi_X_init.2.1 75 = .ok (.anewarray 40, 3) := by decide +kernel
theorem d_X_init_78 : decode mi_X_init.2.1 78 = .ok (.putfield 42, 3) := by decide +kernel
theorem d_X_init_81 : decode mi_X_init.2.1 81 = .ok (.aload_n 0, 1) := by decide +kernel
theorem d_X_init_82 : decode mi_X_init.2.1 82 = .ok (.sipush 250, 3) := by decide +kernel
theorem d_X_init_85 : decode mi_X_init.2.1 85 = .ok (.newarray .int, 2) := by decide +kernel
theorem d_X_init_87 : decode mi_X_init.2.1 87 = .ok (.putfield 46, 3) := by decide +kernel
theorem d_X_init_90 : decode mi_X_init.2.1 90 = .ok (.aload_n 0, 1) := by decide +kernel
theorem d_X_init_91 : decode mi_X_init.2.1 91 = .ok (.iconst 0, 1) := by decide +kernel
theorem d_X_init_92 : decode mi_X_init.2.1 92 = .ok (.putfield 49, 3) := by decide +kernel
theorem d_X_init_95 : decode mi_X_init.2.1 95 = .ok (.aload_n 0, 1) := by decide +kernel
theorem d_X_init_96 : decode mi_X_init.2.1 96 = .ok (.new 53, 3) := by decide +kernel
theorem d_X_init_99 : decode mi_X_init.2.1 99 = .ok (.dup, 1) := by decide +kernel
theorem d_X_init_100 : decode mi_X_init.2.1 100 = .ok (.invokespecial 55, 3) := by decide +kernel
theorem d_X_init_103 : decode mi_X_init.2.1 103 = .ok (.putfield 56, 3) := by decide +kernel
theorem d_X_init_106 : decode mi_X_init.2.1 106 = .ok (.aload_n 0, 1) := by decide +kernel
theorem d_X_init_107 : decode mi_X_init.2.1 107 = .ok (.new 60, 3) := by decide +kernel
theorem d_X_init_110 : decode mi_X_init.2.1 110 = .ok (.dup, 1) := by decide +kernel
theorem d_X_init_111 : decode mi_X_init.2.1 111 = .ok (.invokespecial 62, 3) := by decide +kernel
theorem d_X_init_114 : decode mi_X_init.2.1 114 = .ok (.putfield 63, 3) := by decide +kernel
theorem d_X_init_117 : decode mi_X_init.2.1 117 = .ok (.aload_n 0, 1) := by decide +kernel
theorem d_X_init_118 : decode mi_X_init.2.1 118 = .ok (.iconst 5, 1) := by decide +kernel
theorem d_X_init_119 : decode mi_X_init.2.1 119 = .ok (.newarray .int, 2) := by decide +kernel
theorem d_X_init_121 : decode mi_X_init.2.1 121 = .ok (.putfield 67, 3) := by decide +kernel
theorem d_X_init_124 : decode mi_X_init.2.1 124 = .ok (.iconst 0, 1) := by decide +kernel
theorem d_X_init_125 : decode mi_X_init.2.1 125 = .ok (.istore_n 1, 1) := by decide +kernel
theorem d_X_init_126 : decode mi_X_init.2.1 126 = .ok (.iload_n 1, 1) := by decide +kernel
theorem d_X_init_127 : decode mi_X_init.2.1 127 = .ok (.bipush 8, 2) := by decide +kernel
theorem d_X_init_129 : decode mi_X_init.2.1 129 = .ok (.if_icmp .ge 22, 3) := by decide +kernel
theorem d_X_init_132 : decode mi_X_init.2.1 132 = .ok (.aload_n 0, 1) := by decide +kernel
theorem d_X_init_133 : decode mi_X_init.2.1 133 = .ok (.getfield 42, 3) := by decide +kernel
theorem d_X_init_136 : decode mi_X_init.2.1 136 = .ok (.iload_n 1, 1) := by decide +kernel
theorem d_X_init_137 : decode mi_X_init.2.1 137 = .ok (.new 40, 3) := by decide +kernel
theorem d_X_init_140 : decode mi_X_init.2.1 140 = .ok (.dup, 1) := by decide +kernel
theorem d_X_init_141 : decode mi_X_init.2.1 141 = .ok (.invokespecial 70, 3) := by decide +kernel
theorem d_X_init_144 : decode mi_X_init.2.1 144 = .ok (.aastore, 1) := by decide +kernel
theorem d_X_init_145 : decode mi_X_init.2.1 145 = .ok (.iinc 1 1, 3) := by decide +kernel
theorem d_X_init_148 : decode mi_X_init.2.1 148 = .ok (.goto (-22), 3) := by decide +kernel
theorem d_X_init_151 : decode mi_X_init.2.1 151 = .ok (.return_, 1) := by decide +kernel
theorem d_X_row_0 : decode mi_X_row.2.1 0 = .ok (.aload_n 0, 1) := by decide +kernel
theorem d_X_row_1 : decode mi_X_row.2.1 1 = .ok (.iload_n 1, 1) := by decide +kernel
theorem d_X_row_2 : decode mi_X_row.2.1 2 = .ok (.invokevirtual 71, 3) := by decide +kernel
theorem d_X_row_5 : decode mi_X_row.2.1 5 = .ok (.ifCond .eq 22, 3) := by decide +kernel
theorem d_X_row_8 : decode mi_X_row.2.1 8 = .ok (.iload_n 2, 1) := by decide +kernel
theorem d_X_row_9 : decode mi_X_row.2.1 9 = .ok (.ifCond .lt 18, 3) := by decide +kernel
theorem d_X_row_12 : decode mi_X_row.2.1 12 = .ok (.iload_n 2, 1) := by decide +kernel
theorem d_X_row_13 : decode mi_X_row.2.1 13 = .ok (.iconst 5, 1) := by decide +kernel
theorem d_X_row_14 : decode mi_X_row.2.1 14 = .ok (.if_icmp .ge 13, 3) := by decide +kernel
theorem d_X_row_17 : decode mi_X_row.2.1 17 = .ok (.iload_n 3, 1) := by decide +kernel
theorem d_X_row_18 : decode mi_X_row.2.1 18 = .ok (.ifCond .lt 9, 3) := by decide +kernel
theorem d_X_row_21 : decode mi_X_row.2.1 21 = .ok (.iload_n 3, 1) := by decide +kernel
theorem d_X_row_22 : decode mi_X_row.2.1 22 = .ok (.bipush 40, 2) := by decide +kernel
theorem d_X_row_24 : decode mi_X_row.2.1 24 = .ok (.if_icmp .le 10, 3) := by decide +kernel
theorem d_X_row_27 : decode mi_X_row.2.1 27 = .ok (.aload_n 0, 1) := by decide +kernel
theorem d_X_row_28 : decode mi_X_row.2.1 28 = .ok (.bipush (-32), 2) := by decide +kernel
theorem d_X_row_30 : decode mi_X_row.2.1 30 = .ok (.invokevirtual 75, 3) := by decide +kernel
theorem d_X_row_33 : decode mi_X_row.2.1 33 = .ok (.ireturn, 1) := by decide +kernel
theorem d_X_row_34 : decode mi_X_row.2.1 34 = .ok (.aload_n 0, 1) := by decide +kernel
theorem d_X_row_35 : decode mi_X_row.2.1 35 = .ok (.getfield 42, 3) := by decide +kernel
theorem d_X_row_38 : decode mi_X_row.2.1 38 = .ok (.iload_n 1, 1) := by decide +kernel
theorem d_X_row_39 : decode mi_X_row.2.1 39 = .ok (.aaload, 1) := by decide +kernel
theorem d_X_row_40 : decode mi_X_row.2.1 40 = .ok (.iload_n 2, 1) := by decide +kernel
theorem d_X_row_41 : decode mi_X_row.2.1 41 = .ok (.iload_n 3, 1) := by decide +kernel
theorem d_X_row_42 : decode mi_X_row.2.1 42 = .ok (.invokevirtual 79, 3) := by decide +kernel
theorem d_X_row_45 : decode mi_X_row.2.1 45 = .ok (.iconst 1, 1) := by decide +kernel
theorem d_X_row_46 : decode mi_X_row.2.1 46 = .ok (.ireturn, 1) := by decide +kernel
theorem d_X_isShelf_0 : decode mi_X_isShelf.2.1 0 = .ok (.iload_n 1, 1) := by decide +kernel
theorem d_X_isShelf_1 : decode mi_X_isShelf.2.1 1 = .ok (.ifCond .lt 13, 3) := by decide +kernel
theorem d_X_isShelf_4 : decode mi_X_isShelf.2.1 4 = .ok (.iload_n 1, 1) := by decide +kernel
theorem d_X_isShelf_5 : decode mi_X_isShelf.2.1 5 = .ok (.bipush 8, 2) := by decide +kernel
theorem d_X_isShelf_7 : decode mi_X_isShelf.2.1 7 = .ok (.if_icmp .ge 7, 3) := by decide +kernel
theorem d_X_isShelf_10 : decode mi_X_isShelf.2.1 10 = .ok (.iconst 1, 1) := by decide +kernel
theorem d_X_isShelf_11 : decode mi_X_isShelf.2.1 11 = .ok (.goto 4, 3) := by decide +kernel
theorem d_X_isShelf_14 : decode mi_X_isShelf.2.1 14 = .ok (.iconst 0, 1) := by decide +kernel
theorem d_X_isShelf_15 : decode mi_X_isShelf.2.1 15 = .ok (.ireturn, 1) := by decide +kernel
theorem d_X_refuse_0 : decode mi_X_refuse.2.1 0 = .ok (.bipush (-32), 2) := by decide +kernel
theorem d_X_refuse_2 : decode mi_X_refuse.2.1 2 = .ok (.iload_n 1, 1) := by decide +kernel
theorem d_X_refuse_3 : decode mi_X_refuse.2.1 3 = .ok (.isub, 1) := by decide +kernel
theorem d_X_refuse_4 : decode mi_X_refuse.2.1 4 = .ok (.istore_n 2, 1) := by decide +kernel
theorem d_X_refuse_5 : decode mi_X_refuse.2.1 5 = .ok (.iload_n 2, 1) := by decide +kernel
theorem d_X_refuse_6 : decode mi_X_refuse.2.1 6 = .ok (.ifCond .lt 18, 3) := by decide +kernel
theorem d_X_refuse_9 : decode mi_X_refuse.2.1 9 = .ok (.iload_n 2, 1) := by decide +kernel
theorem d_X_refuse_10 : decode mi_X_refuse.2.1 10 = .ok (.iconst 5, 1) := by decide +kernel
theorem d_X_refuse_11 : decode mi_X_refuse.2.1 11 = .ok (.if_icmp .ge 13, 3) := by decide +kernel
theorem d_X_refuse_14 : decode mi_X_refuse.2.1 14 = .ok (.aload_n 0, 1) := by decide +kernel
theorem d_X_refuse_15 : decode mi_X_refuse.2.1 15 = .ok (.getfield 67, 3) := by decide +kernel
theorem d_X_refuse_18 : decode mi_X_refuse.2.1 18 = .ok (.iload_n 2, 1) := by decide +kernel
theorem d_X_refuse_19 : decode mi_X_refuse.2.1 19 = .ok (.dup2, 1) := by decide +kernel
theorem d_X_refuse_20 : decode mi_X_refuse.2.1 20 = .ok (.iaload, 1) := by decide +kernel
theorem d_X_refuse_21 : decode mi_X_refuse.2.1 21 = .ok (.iconst 1, 1) := by decide +kernel
theorem d_X_refuse_22 : decode mi_X_refuse.2.1 22 = .ok (.iadd, 1) := by decide +kernel
theorem d_X_refuse_23 : decode mi_X_refuse.2.1 23 = .ok (.iastore, 1) := by decide +kernel
theorem d_X_refuse_24 : decode mi_X_refuse.2.1 24 = .ok (.iload_n 1, 1) := by decide +kernel
theorem d_X_refuse_25 : decode mi_X_refuse.2.1 25 = .ok (.ireturn, 1) := by decide +kernel
theorem d_X_set_0 : decode mi_X_set.2.1 0 = .ok (.aload_n 0, 1) := by decide +kernel
theorem d_X_set_1 : decode mi_X_set.2.1 1 = .ok (.iload_n 1, 1) := by decide +kernel
theorem d_X_set_2 : decode mi_X_set.2.1 2 = .ok (.invokevirtual 83, 3) := by decide +kernel
theorem d_X_set_5 : decode mi_X_set.2.1 5 = .ok (.istore 5, 2) := by decide +kernel
theorem d_X_set_7 : decode mi_X_set.2.1 7 = .ok (.iload 5, 2) := by decide +kernel
theorem d_X_set_9 : decode mi_X_set.2.1 9 = .ok (.ifCond .eq 10, 3) := by decide +kernel
theorem d_X_set_12 : decode mi_X_set.2.1 12 = .ok (.aload_n 0, 1) := by decide +kernel
theorem d_X_set_13 : decode mi_X_set.2.1 13 = .ok (.iload 5, 2) := by decide +kernel
theorem d_X_set_15 : decode mi_X_set.2.1 15 = .ok (.invokevirtual 75, 3) := by decide +kernel
theorem d_X_set_18 : decode mi_X_set.2.1 18 = .ok (.ireturn, 1) := by decide +kernel
theorem d_X_set_19 : decode mi_X_set.2.1 19 = .ok (.iload_n 2, 1) := by decide +kernel
theorem d_X_set_20 : decode mi_X_set.2.1 20 = .ok (.ifCond .lt 16, 3) := by decide +kernel
theorem d_X_set_23 : decode mi_X_set.2.1 23 = .ok (.iload_n 2, 1) := by decide +kernel
theorem d_X_set_24 : decode mi_X_set.2.1 24 = .ok (.aload_n 0, 1) := by decide +kernel
theorem d_X_set_25 : decode mi_X_set.2.1 25 = .ok (.getfield 42, 3) := by decide +kernel
theorem d_X_set_28 : decode mi_X_set.2.1 28 = .ok (.iload_n 1, 1) := by decide +kernel
theorem d_X_set_29 : decode mi_X_set.2.1 29 = .ok (.aaload, 1) := by decide +kernel
theorem d_X_set_30 : decode mi_X_set.2.1 30 = .ok (.getfield 86, 3) := by decide +kernel
theorem d_X_set_33 : decode mi_X_set.2.1 33 = .ok (.if_icmp .lt 10, 3) := by decide +kernel
theorem d_X_set_36 : decode mi_X_set.2.1 36 = .ok (.aload_n 0, 1) := by decide +kernel
theorem d_X_set_37 : decode mi_X_set.2.1 37 = .ok (.bipush (-32), 2) := by decide +kernel
theorem d_X_set_39 : decode mi_X_set.2.1 39 = .ok (.invokevirtual 75, 3) := by decide +kernel
theorem d_X_set_42 : decode mi_X_set.2.1 42 = .ok (.ireturn, 1) := by decide +kernel
theorem d_X_set_43 : decode mi_X_set.2.1 43 = .ok (.aload_n 0, 1) := by decide +kernel
theorem d_X_set_44 : decode mi_X_set.2.1 44 = .ok (.getfield 42, 3) := by decide +kernel
theorem d_X_set_47 : decode mi_X_set.2.1 47 = .ok (.iload_n 1, 1) := by decide +kernel
theorem d_X_set_48 : decode mi_X_set.2.1 48 = .ok (.aaload, 1) := by decide +kernel
theorem d_X_set_49 : decode mi_X_set.2.1 49 = .ok (.iload_n 2, 1) := by decide +kernel
theorem d_X_set_50 : decode mi_X_set.2.1 50 = .ok (.lload_n 3, 1) := by decide +kernel
theorem d_X_set_51 : decode mi_X_set.2.1 51 = .ok (.invokevirtual 89, 3) := by decide +kernel
theorem d_X_set_54 : decode mi_X_set.2.1 54 = .ok (.iconst 1, 1) := by decide +kernel
theorem d_X_set_55 : decode mi_X_set.2.1 55 = .ok (.ireturn, 1) := by decide +kernel
theorem d_X_rowTrouble_0 : decode mi_X_rowTrouble.2.1 0 = .ok (.aload_n 0, 1) := by decide +kernel
theorem d_X_rowTrouble_1 : decode mi_X_rowTrouble.2.1 1 = .ok (.iload_n 1, 1) := by decide +kernel
theorem d_X_rowTrouble_2 : decode mi_X_rowTrouble.2.1 2 = .ok (.invokevirtual 71, 3) := by decide +kernel
theorem d_X_rowTrouble_5 : decode mi_X_rowTrouble.2.1 5 = .ok (.ifCond .ne 6, 3) := by decide +kernel
theorem d_X_rowTrouble_8 : decode mi_X_rowTrouble.2.1 8 = .ok (.bipush (-32), 2) := by decide +kernel
theorem d_X_rowTrouble_10 : decode mi_X_rowTrouble.2.1 10 = .ok (.ireturn, 1) := by decide +kernel
theorem d_X_rowTrouble_11 : decode mi_X_rowTrouble.2.1 11 = .ok (.aload_n 0, 1) := by decide +kernel
theorem d_X_rowTrouble_12 : decode mi_X_rowTrouble.2.1 12 = .ok (.getfield 42, 3) := by decide +kernel
theorem d_X_rowTrouble_15 : decode mi_X_rowTrouble.2.1 15 = .ok (.iload_n 1, 1) := by decide +kernel
theorem d_X_rowTrouble_16 : decode mi_X_rowTrouble.2.1 16 = .ok (.aaload, 1) := by decide +kernel
theorem d_X_rowTrouble_17 : decode mi_X_rowTrouble.2.1 17 = .ok (.invokevirtual 420, 3) := by decide +kernel
theorem d_X_rowTrouble_20 : decode mi_X_rowTrouble.2.1 20 = .ok (.ifCond .eq 6, 3) := by decide +kernel
theorem d_X_rowTrouble_23 : decode mi_X_rowTrouble.2.1 23 = .ok (.bipush (-33), 2) := by decide +kernel
theorem d_X_rowTrouble_25 : decode mi_X_rowTrouble.2.1 25 = .ok (.ireturn, 1) := by decide +kernel
theorem d_X_rowTrouble_26 : decode mi_X_rowTrouble.2.1 26 = .ok (.aload_n 0, 1) := by decide +kernel
theorem d_X_rowTrouble_27 : decode mi_X_rowTrouble.2.1 27 = .ok (.getfield 42, 3) := by decide +kernel
theorem d_X_rowTrouble_30 : decode mi_X_rowTrouble.2.1 30 = .ok (.iload_n 1, 1) := by decide +kernel
theorem d_X_rowTrouble_31 : decode mi_X_rowTrouble.2.1 31 = .ok (.aaload, 1) := by decide +kernel
theorem d_X_rowTrouble_32 : decode mi_X_rowTrouble.2.1 32 = .ok (.invokevirtual 111, 3) := by decide +kernel
theorem d_X_rowTrouble_35 : decode mi_X_rowTrouble.2.1 35 = .ok (.ifCond .eq 7, 3) := by decide +kernel
theorem d_X_rowTrouble_38 : decode mi_X_rowTrouble.2.1 38 = .ok (.iconst 0, 1) := by decide +kernel
theorem d_X_rowTrouble_39 : decode mi_X_rowTrouble.2.1 39 = .ok (.goto 5, 3) := by decide +kernel
theorem d_X_rowTrouble_42 : decode mi_X_rowTrouble.2.1 42 = .ok (.bipush (-34), 2) := by decide +kernel
theorem d_X_rowTrouble_44 : decode mi_X_rowTrouble.2.1 44 = .ok (.ireturn, 1) := by decide +kernel
theorem d_X_copy_0 : decode mi_X_copy.2.1 0 = .ok (.aload_n 0, 1) := by decide +kernel
theorem d_X_copy_1 : decode mi_X_copy.2.1 1 = .ok (.iload_n 1, 1) := by decide +kernel
theorem d_X_copy_2 : decode mi_X_copy.2.1 2 = .ok (.iload_n 2, 1) := by decide +kernel
theorem d_X_copy_3 : decode mi_X_copy.2.1 3 = .ok (.invokevirtual 93, 3) := by decide +kernel
theorem d_X_copy_6 : decode mi_X_copy.2.1 6 = .ok (.istore 6, 2) := by decide +kernel
theorem d_X_copy_8 : decode mi_X_copy.2.1 8 = .ok (.iload 6, 2) := by decide +kernel
theorem d_X_copy_10 : decode mi_X_copy.2.1 10 = .ok (.ifCond .eq 10, 3) := by decide +kernel
theorem d_X_copy_13 : decode mi_X_copy.2.1 13 = .ok (.aload_n 0, 1) := by decide +kernel
theorem d_X_copy_14 : decode mi_X_copy.2.1 14 = .ok (.iload 6, 2) := by decide +kernel
theorem d_X_copy_16 : decode mi_X_copy.2.1 16 = .ok (.invokevirtual 75, 3) := by decide +kernel
theorem d_X_copy_19 : decode mi_X_copy.2.1 19 = .ok (.ireturn, 1) := by decide +kernel
theorem d_X_copy_20 : decode mi_X_copy.2.1 20 = .ok (.aload_n 0, 1) := by decide +kernel
theorem d_X_copy_21 : decode mi_X_copy.2.1 21 = .ok (.getfield 42, 3) := by decide +kernel
theorem d_X_copy_24 : decode mi_X_copy.2.1 24 = .ok (.iload_n 1, 1) := by decide +kernel
theorem d_X_copy_25 : decode mi_X_copy.2.1 25 = .ok (.aaload, 1) := by decide +kernel
theorem d_X_copy_26 : decode mi_X_copy.2.1 26 = .ok (.astore 7, 2) := by decide +kernel
theorem d_X_copy_28 : decode mi_X_copy.2.1 28 = .ok (.aload_n 0, 1) := by decide +kernel
theorem d_X_copy_29 : decode mi_X_copy.2.1 29 = .ok (.getfield 42, 3) := by decide +kernel
theorem d_X_copy_32 : decode mi_X_copy.2.1 32 = .ok (.iload_n 2, 1) := by decide +kernel
theorem d_X_copy_33 : decode mi_X_copy.2.1 33 = .ok (.aaload, 1) := by decide +kernel
theorem d_X_copy_34 : decode mi_X_copy.2.1 34 = .ok (.astore 8, 2) := by decide +kernel
theorem d_X_copy_36 : decode mi_X_copy.2.1 36 = .ok (.aload 7, 2) := by decide +kernel
theorem d_X_copy_38 : decode mi_X_copy.2.1 38 = .ok (.iload_n 3, 1) := by decide +kernel
theorem d_X_copy_39 : decode mi_X_copy.2.1 39 = .ok (.iload 5, 2) := by decide +kernel
theorem d_X_copy_41 : decode mi_X_copy.2.1 41 = .ok (.invokevirtual 97, 3) := by decide +kernel
theorem d_X_copy_44 : decode mi_X_copy.2.1 44 = .ok (.ifCond .eq 15, 3) := by decide +kernel
theorem d_X_copy_47 : decode mi_X_copy.2.1 47 = .ok (.aload 8, 2) := by decide +kernel
theorem d_X_copy_49 : decode mi_X_copy.2.1 49 = .ok (.iload 4, 2) := by decide +kernel
theorem d_X_copy_51 : decode mi_X_copy.2.1 51 = .ok (.iload 5, 2) := by decide +kernel
theorem d_X_copy_53 : decode mi_X_copy.2.1 53 = .ok (.invokevirtual 97, 3) := by decide +kernel
theorem d_X_copy_56 : decode mi_X_copy.2.1 56 = .ok (.ifCond .ne 10, 3) := by decide +kernel
theorem d_X_copy_59 : decode mi_X_copy.2.1 59 = .ok (.aload_n 0, 1) := by decide +kernel
theorem d_X_copy_60 : decode mi_X_copy.2.1 60 = .ok (.bipush (-32), 2) := by decide +kernel
theorem d_X_copy_62 : decode mi_X_copy.2.1 62 = .ok (.invokevirtual 75, 3) := by decide +kernel
theorem d_X_copy_65 : decode mi_X_copy.2.1 65 = .ok (.ireturn, 1) := by decide +kernel
theorem d_X_copy_66 : decode mi_X_copy.2.1 66 = .ok (.aload 7, 2) := by decide +kernel
theorem d_X_copy_68 : decode mi_X_copy.2.1 68 = .ok (.getfield 101, 3) := by decide +kernel
theorem d_X_copy_71 : decode mi_X_copy.2.1 71 = .ok (.iload_n 3, 1) := by decide +kernel
theorem d_X_copy_72 : decode mi_X_copy.2.1 72 = .ok (.aload 8, 2) := by decide +kernel
theorem d_X_copy_74 : decode mi_X_copy.2.1 74 = .ok (.getfield 101, 3) := by decide +kernel
theorem d_X_copy_77 : decode mi_X_copy.2.1 77 = .ok (.iload 4, 2) := by decide +kernel
theorem d_X_copy_79 : decode mi_X_copy.2.1 79 = .ok (.iload 5, 2) := by decide +kernel
theorem d_X_copy_81 : decode mi_X_copy.2.1 81 = .ok (.invokestatic 105, 3) := by decide +kernel
theorem d_X_copy_84 : decode mi_X_copy.2.1 84 = .ok (.iload 5, 2) := by decide +kernel
theorem d_X_copy_86 : decode mi_X_copy.2.1 86 = .ok (.ireturn, 1) := by decide +kernel
theorem d_X_twoRowsTrouble_0 : decode mi_X_twoRowsTrouble.2.1 0 = .ok (.aload_n 0, 1) := by decide +kernel
theorem d_X_twoRowsTrouble_1 : decode mi_X_twoRowsTrouble.2.1 1 = .ok (.iload_n 1, 1) := by decide +kernel
theorem d_X_twoRowsTrouble_2 : decode mi_X_twoRowsTrouble.2.1 2 = .ok (.invokevirtual 83, 3) := by decide +kernel
theorem d_X_twoRowsTrouble_5 : decode mi_X_twoRowsTrouble.2.1 5 = .ok (.istore_n 3, 1) := by decide +kernel
theorem d_X_twoRowsTrouble_6 : decode mi_X_twoRowsTrouble.2.1 6 = .ok (.aload_n 0, 1) := by decide +kernel
theorem d_X_twoRowsTrouble_7 : decode mi_X_twoRowsTrouble.2.1 7 = .ok (.iload_n 2, 1) := by decide +kernel
theorem d_X_twoRowsTrouble_8 : decode mi_X_twoRowsTrouble.2.1 8 = .ok (.invokevirtual 83, 3) := by decide +kernel
theorem d_X_twoRowsTrouble_11 : decode mi_X_twoRowsTrouble.2.1 11 = .ok (.istore 4, 2) := by decide +kernel
theorem d_X_twoRowsTrouble_13 : decode mi_X_twoRowsTrouble.2.1 13 = .ok (.iload_n 3, 1) := by decide +kernel
theorem d_X_twoRowsTrouble_14 : decode mi_X_twoRowsTrouble.2.1 14 = .ok (.bipush (-32), 2) := by decide +kernel
theorem d_X_twoRowsTrouble_16 : decode mi_X_twoRowsTrouble.2.1 16 = .ok (.if_icmp .eq 10, 3) := by decide +kernel
theorem d_X_twoRowsTrouble_19 : decode mi_X_twoRowsTrouble.2.1 19 = .ok (.iload 4, 2) := by decide +kernel
theorem d_X_twoRowsTrouble_21 : decode mi_X_twoRowsTrouble.2.1 21 = .ok (.bipush (-32), 2) := by decide +kernel
theorem d_X_twoRowsTrouble_23 : decode mi_X_twoRowsTrouble.2.1 23 = .ok (.if_icmp .ne 6, 3) := by decide +kernel
theorem d_X_twoRowsTrouble_26 : decode mi_X_twoRowsTrouble.2.1 26 = .ok (.bipush (-32), 2) := by decide +kernel
theorem d_X_twoRowsTrouble_28 : decode mi_X_twoRowsTrouble.2.1 28 = .ok (.ireturn, 1) := by decide +kernel
theorem d_X_twoRowsTrouble_29 : decode mi_X_twoRowsTrouble.2.1 29 = .ok (.iload_n 3, 1) := by decide +kernel
theorem d_X_twoRowsTrouble_30 : decode mi_X_twoRowsTrouble.2.1 30 = .ok (.bipush (-33), 2) := by decide +kernel
theorem d_X_twoRowsTrouble_32 : decode mi_X_twoRowsTrouble.2.1 32 = .ok (.if_icmp .eq 10, 3) := by decide +kernel
theorem d_X_twoRowsTrouble_35 : decode mi_X_twoRowsTrouble.2.1 35 = .ok (.iload 4, 2) := by decide +kernel
theorem d_X_twoRowsTrouble_37 : decode mi_X_twoRowsTrouble.2.1 37 = .ok (.bipush (-33), 2) := by decide +kernel
theorem d_X_twoRowsTrouble_39 : decode mi_X_twoRowsTrouble.2.1 39 = .ok (.if_icmp .ne 6, 3) := by decide +kernel
theorem d_X_twoRowsTrouble_42 : decode mi_X_twoRowsTrouble.2.1 42 = .ok (.bipush (-33), 2) := by decide +kernel
theorem d_X_twoRowsTrouble_44 : decode mi_X_twoRowsTrouble.2.1 44 = .ok (.ireturn, 1) := by decide +kernel
theorem d_X_twoRowsTrouble_45 : decode mi_X_twoRowsTrouble.2.1 45 = .ok (.iload_n 3, 1) := by decide +kernel
theorem d_X_twoRowsTrouble_46 : decode mi_X_twoRowsTrouble.2.1 46 = .ok (.bipush (-34), 2) := by decide +kernel
theorem d_X_twoRowsTrouble_48 : decode mi_X_twoRowsTrouble.2.1 48 = .ok (.if_icmp .eq 10, 3) := by decide +kernel
theorem d_X_twoRowsTrouble_51 : decode mi_X_twoRowsTrouble.2.1 51 = .ok (.iload 4, 2) := by decide +kernel
theorem d_X_twoRowsTrouble_53 : decode mi_X_twoRowsTrouble.2.1 53 = .ok (.bipush (-34), 2) := by decide +kernel
theorem d_X_twoRowsTrouble_55 : decode mi_X_twoRowsTrouble.2.1 55 = .ok (.if_icmp .ne 6, 3) := by decide +kernel
theorem d_X_twoRowsTrouble_58 : decode mi_X_twoRowsTrouble.2.1 58 = .ok (.bipush (-34), 2) := by decide +kernel
theorem d_X_twoRowsTrouble_60 : decode mi_X_twoRowsTrouble.2.1 60 = .ok (.ireturn, 1) := by decide +kernel
theorem d_X_twoRowsTrouble_61 : decode mi_X_twoRowsTrouble.2.1 61 = .ok (.aload_n 0, 1) := by decide +kernel
theorem d_X_twoRowsTrouble_62 : decode mi_X_twoRowsTrouble.2.1 62 = .ok (.getfield 42, 3) := by decide +kernel
theorem d_X_twoRowsTrouble_65 : decode mi_X_twoRowsTrouble.2.1 65 = .ok (.iload_n 1, 1) := by decide +kernel
theorem d_X_twoRowsTrouble_66 : decode mi_X_twoRowsTrouble.2.1 66 = .ok (.aaload, 1) := by decide +kernel
theorem d_X_twoRowsTrouble_67 : decode mi_X_twoRowsTrouble.2.1 67 = .ok (.getfield 423, 3) := by decide +kernel
theorem d_X_twoRowsTrouble_70 : decode mi_X_twoRowsTrouble.2.1 70 = .ok (.aload_n 0, 1) := by decide +kernel
theorem d_X_twoRowsTrouble_71 : decode mi_X_twoRowsTrouble.2.1 71 = .ok (.getfield 42, 3) := by decide +kernel
theorem d_X_twoRowsTrouble_74 : decode mi_X_twoRowsTrouble.2.1 74 = .ok (.iload_n 2, 1) := by decide +kernel
theorem d_X_twoRowsTrouble_75 : decode mi_X_twoRowsTrouble.2.1 75 = .ok (.aaload, 1) := by decide +kernel
theorem d_X_twoRowsTrouble_76 : decode mi_X_twoRowsTrouble.2.1 76 = .ok (.getfield 423, 3) := by decide +kernel
theorem d_X_twoRowsTrouble_79 : decode mi_X_twoRowsTrouble.2.1 79 = .ok (.if_icmp .ne 7, 3) := by decide +kernel
theorem d_X_twoRowsTrouble_82 : decode mi_X_twoRowsTrouble.2.1 82 = .ok (.iconst 0, 1) := by decide +kernel
theorem d_X_twoRowsTrouble_83 : decode mi_X_twoRowsTrouble.2.1 83 = .ok (.goto 5, 3) := by decide +kernel
theorem d_X_twoRowsTrouble_86 : decode mi_X_twoRowsTrouble.2.1 86 = .ok (.bipush (-33), 2) := by decide +kernel
theorem d_X_twoRowsTrouble_88 : decode mi_X_twoRowsTrouble.2.1 88 = .ok (.ireturn, 1) := by decide +kernel
theorem d_X_element_0 : decode mi_X_element.2.1 0 = .ok (.aload_n 0, 1) := by decide +kernel
theorem d_X_element_1 : decode mi_X_element.2.1 1 = .ok (.iload_n 1, 1) := by decide +kernel
theorem d_X_element_2 : decode mi_X_element.2.1 2 = .ok (.invokevirtual 71, 3) := by decide +kernel
theorem d_X_element_5 : decode mi_X_element.2.1 5 = .ok (.ifCond .eq 32, 3) := by decide +kernel
theorem d_X_element_8 : decode mi_X_element.2.1 8 = .ok (.aload_n 0, 1) := by decide +kernel
theorem d_X_element_9 : decode mi_X_element.2.1 9 = .ok (.getfield 42, 3) := by decide +kernel
theorem d_X_element_12 : decode mi_X_element.2.1 12 = .ok (.iload_n 1, 1) := by decide +kernel
theorem d_X_element_13 : decode mi_X_element.2.1 13 = .ok (.aaload, 1) := by decide +kernel
theorem d_X_element_14 : decode mi_X_element.2.1 14 = .ok (.invokevirtual 111, 3) := by decide +kernel
theorem d_X_element_17 : decode mi_X_element.2.1 17 = .ok (.ifCond .eq 20, 3) := by decide +kernel
theorem d_X_element_20 : decode mi_X_element.2.1 20 = .ok (.iload_n 2, 1) := by decide +kernel
theorem d_X_element_21 : decode mi_X_element.2.1 21 = .ok (.ifCond .lt 16, 3) := by decide +kernel
theorem d_X_element_24 : decode mi_X_element.2.1 24 = .ok (.iload_n 2, 1) := by decide +kernel
theorem d_X_element_25 : decode mi_X_element.2.1 25 = .ok (.aload_n 0, 1) := by decide +kernel
theorem d_X_element_26 : decode mi_X_element.2.1 26 = .ok (.getfield 42, 3) := by decide +kernel
theorem d_X_element_29 : decode mi_X_element.2.1 29 = .ok (.iload_n 1, 1) := by decide +kernel
theorem d_X_element_30 : decode mi_X_element.2.1 30 = .ok (.aaload, 1) := by decide +kernel
theorem d_X_element_31 : decode mi_X_element.2.1 31 = .ok (.getfield 86, 3) := by decide +kernel
theorem d_X_element_34 : decode mi_X_element.2.1 34 = .ok (.if_icmp .lt 5, 3) := by decide +kernel
theorem d_X_element_37 : decode mi_X_element.2.1 37 = .ok (.lconst 0, 1) := by decide +kernel
theorem d_X_element_38 : decode mi_X_element.2.1 38 = .ok (.lreturn, 1) := by decide +kernel
theorem d_X_element_39 : decode mi_X_element.2.1 39 = .ok (.aload_n 0, 1) := by decide +kernel
theorem d_X_element_40 : decode mi_X_element.2.1 40 = .ok (.getfield 42, 3) := by decide +kernel
theorem d_X_element_43 : decode mi_X_element.2.1 43 = .ok (.iload_n 1, 1) := by decide +kernel
theorem d_X_element_44 : decode mi_X_element.2.1 44 = .ok (.aaload, 1) := by decide +kernel
theorem d_X_element_45 : decode mi_X_element.2.1 45 = .ok (.getfield 101, 3) := by decide +kernel
theorem d_X_element_48 : decode mi_X_element.2.1 48 = .ok (.iload_n 2, 1) := by decide +kernel
theorem d_X_element_49 : decode mi_X_element.2.1 49 = .ok (.laload, 1) := by decide +kernel
theorem d_X_element_50 : decode mi_X_element.2.1 50 = .ok (.lreturn, 1) := by decide +kernel
theorem d_X_holds_0 : decode mi_X_holds.2.1 0 = .ok (.aload_n 0, 1) := by decide +kernel
theorem d_X_holds_1 : decode mi_X_holds.2.1 1 = .ok (.iload_n 1, 1) := by decide +kernel
theorem d_X_holds_2 : decode mi_X_holds.2.1 2 = .ok (.invokevirtual 71, 3) := by decide +kernel
theorem d_X_holds_5 : decode mi_X_holds.2.1 5 = .ok (.ifCond .eq 15, 3) := by decide +kernel
theorem d_X_holds_8 : decode mi_X_holds.2.1 8 = .ok (.aload_n 0, 1) := by decide +kernel
theorem d_X_holds_9 : decode mi_X_holds.2.1 9 = .ok (.getfield 42, 3) := by decide +kernel
theorem d_X_holds_12 : decode mi_X_holds.2.1 12 = .ok (.iload_n 1, 1) := by decide +kernel
theorem d_X_holds_13 : decode mi_X_holds.2.1 13 = .ok (.aaload, 1) := by decide +kernel
theorem d_X_holds_14 : decode mi_X_holds.2.1 14 = .ok (.invokevirtual 115, 3) := by decide +kernel
theorem d_X_holds_17 : decode mi_X_holds.2.1 17 = .ok (.goto 4, 3) := by decide +kernel
theorem d_X_holds_20 : decode mi_X_holds.2.1 20 = .ok (.iconst (-1), 1) := by decide +kernel
theorem d_X_holds_21 : decode mi_X_holds.2.1 21 = .ok (.ireturn, 1) := by decide +kernel
theorem d_X_show_0 : decode mi_X_show.2.1 0 = .ok (.aload_n 0, 1) := by decide +kernel
theorem d_X_show_1 : decode mi_X_show.2.1 1 = .ok (.iload_n 1, 1) := by decide +kernel
theorem d_X_show_2 : decode mi_X_show.2.1 2 = .ok (.invokevirtual 71, 3) := by decide +kernel
theorem d_X_show_5 : decode mi_X_show.2.1 5 = .ok (.ifCond .ne 10, 3) := by decide +kernel
theorem d_X_show_8 : decode mi_X_show.2.1 8 = .ok (.aload_n 0, 1) := by decide +kernel
theorem d_X_show_9 : decode mi_X_show.2.1 9 = .ok (.bipush (-32), 2) := by decide +kernel
theorem d_X_show_11 : decode mi_X_show.2.1 11 = .ok (.invokevirtual 75, 3) := by decide +kernel
theorem d_X_show_14 : decode mi_X_show.2.1 14 = .ok (.ireturn, 1) := by decide +kernel
theorem d_X_show_15 : decode mi_X_show.2.1 15 = .ok (.iload_n 2, 1) := by decide +kernel
theorem d_X_show_16 : decode mi_X_show.2.1 16 = .ok (.iconst (-1), 1) := by decide +kernel
theorem d_X_show_17 : decode mi_X_show.2.1 17 = .ok (.if_icmp .ne 14, 3) := by decide +kernel
theorem d_X_show_20 : decode mi_X_show.2.1 20 = .ok (.aload_n 0, 1) := by decide +kernel
theorem d_X_show_21 : decode mi_X_show.2.1 21 = .ok (.getfield 42, 3) := by decide +kernel
theorem d_X_show_24 : decode mi_X_show.2.1 24 = .ok (.iload_n 1, 1) := by decide +kernel
theorem d_X_show_25 : decode mi_X_show.2.1 25 = .ok (.aaload, 1) := by decide +kernel
theorem d_X_show_26 : decode mi_X_show.2.1 26 = .ok (.invokevirtual 119, 3) := by decide +kernel
theorem d_X_show_29 : decode mi_X_show.2.1 29 = .ok (.iconst 1, 1) := by decide +kernel
theorem d_X_show_30 : decode mi_X_show.2.1 30 = .ok (.ireturn, 1) := by decide +kernel
theorem d_X_show_31 : decode mi_X_show.2.1 31 = .ok (.aload_n 0, 1) := by decide +kernel
theorem d_X_show_32 : decode mi_X_show.2.1 32 = .ok (.iload_n 2, 1) := by decide +kernel
theorem d_X_show_33 : decode mi_X_show.2.1 33 = .ok (.iload_n 3, 1) := by decide +kernel
theorem d_X_show_34 : decode mi_X_show.2.1 34 = .ok (.invokevirtual 122, 3) := by decide +kernel
theorem d_X_show_37 : decode mi_X_show.2.1 37 = .ok (.ifCond .ne 10, 3) := by decide +kernel
theorem d_X_show_40 : decode mi_X_show.2.1 40 = .ok (.aload_n 0, 1) := by decide +kernel
theorem d_X_show_41 : decode mi_X_show.2.1 41 = .ok (.bipush (-32), 2) := by decide +kernel
theorem d_X_show_43 : decode mi_X_show.2.1 43 = .ok (.invokevirtual 75, 3) := by decide +kernel
theorem d_X_show_46 : decode mi_X_show.2.1 46 = .ok (.ireturn, 1) := by decide +kernel
theorem d_X_show_47 : decode mi_X_show.2.1 47 = .ok (.aload_n 0, 1) := by decide +kernel
theorem d_X_show_48 : decode mi_X_show.2.1 48 = .ok (.iload_n 2, 1) := by decide +kernel
theorem d_X_show_49 : decode mi_X_show.2.1 49 = .ok (.iload_n 3, 1) := by decide +kernel
theorem d_X_show_50 : decode mi_X_show.2.1 50 = .ok (.invokevirtual 125, 3) := by decide +kernel
theorem d_X_show_53 : decode mi_X_show.2.1 53 = .ok (.getfield 129, 3) := by decide +kernel
theorem d_X_show_56 : decode mi_X_show.2.1 56 = .ok (.astore 5, 2) := by decide +kernel
theorem d_X_show_58 : decode mi_X_show.2.1 58 = .ok (.aload 5, 2) := by decide +kernel
theorem d_X_show_60 : decode mi_X_show.2.1 60 = .ok (.ifnonnull 7, 3) := by decide +kernel
theorem d_X_show_63 : decode mi_X_show.2.1 63 = .ok (.iconst (-1), 1) := by decide +kernel
theorem d_X_show_64 : decode mi_X_show.2.1 64 = .ok (.goto 15, 3) := by decide +kernel
theorem d_X_show_67 : decode mi_X_show.2.1 67 = .ok (.aload 5, 2) := by decide +kernel
theorem d_X_show_69 : decode mi_X_show.2.1 69 = .ok (.aload 5, 2) := by decide +kernel
theorem d_X_show_71 : decode mi_X_show.2.1 71 = .ok (.invokevirtual 135, 3) := by decide +kernel
theorem d_X_show_74 : decode mi_X_show.2.1 74 = .ok (.iload 4, 2) := by decide +kernel
theorem d_X_show_76 : decode mi_X_show.2.1 76 = .ok (.invokevirtual 140, 3) := by decide +kernel
theorem d_X_show_79 : decode mi_X_show.2.1 79 = .ok (.istore 6, 2) := by decide +kernel
theorem d_X_show_81 : decode mi_X_show.2.1 81 = .ok (.iload 6, 2) := by decide +kernel
theorem d_X_show_83 : decode mi_X_show.2.1 83 = .ok (.iconst (-1), 1) := by decide +kernel
theorem d_X_show_84 : decode mi_X_show.2.1 84 = .ok (.if_icmp .ne 10, 3) := by decide +kernel
theorem d_X_show_87 : decode mi_X_show.2.1 87 = .ok (.aload_n 0, 1) := by decide +kernel
theorem d_X_show_88 : decode mi_X_show.2.1 88 = .ok (.bipush (-32), 2) := by decide +kernel
theorem d_X_show_90 : decode mi_X_show.2.1 90 = .ok (.invokevirtual 75, 3) := by decide +kernel
theorem d_X_show_93 : decode mi_X_show.2.1 93 = .ok (.ireturn, 1) := by decide +kernel
theorem d_X_show_94 : decode mi_X_show.2.1 94 = .ok (.aload_n 0, 1) := by decide +kernel
theorem d_X_show_95 : decode mi_X_show.2.1 95 = .ok (.getfield 42, 3) := by decide +kernel
theorem d_X_show_98 : decode mi_X_show.2.1 98 = .ok (.iload_n 1, 1) := by decide +kernel
theorem d_X_show_99 : decode mi_X_show.2.1 99 = .ok (.aaload, 1) := by decide +kernel
theorem d_X_show_100 : decode mi_X_show.2.1 100 = .ok (.aload 5, 2) := by decide +kernel
theorem d_X_show_102 : decode mi_X_show.2.1 102 = .ok (.iload 6, 2) := by decide +kernel
theorem d_X_show_104 : decode mi_X_show.2.1 104 = .ok (.invokevirtual 143, 3) := by decide +kernel
theorem d_X_show_107 : decode mi_X_show.2.1 107 = .ok (.iconst 1, 1) := by decide +kernel
theorem d_X_show_108 : decode mi_X_show.2.1 108 = .ok (.ireturn, 1) := by decide +kernel
theorem d_X_isRule_0 : decode mi_X_isRule.2.1 0 = .ok (.aload_n 0, 1) := by decide +kernel
theorem d_X_isRule_1 : decode mi_X_isRule.2.1 1 = .ok (.iload_n 1, 1) := by decide +kernel
theorem d_X_isRule_2 : decode mi_X_isRule.2.1 2 = .ok (.invokevirtual 220, 3) := by decide +kernel
theorem d_X_isRule_5 : decode mi_X_isRule.2.1 5 = .ok (.ifCond .eq 27, 3) := by decide +kernel
theorem d_X_isRule_8 : decode mi_X_isRule.2.1 8 = .ok (.iload_n 2, 1) := by decide +kernel
theorem d_X_isRule_9 : decode mi_X_isRule.2.1 9 = .ok (.ifCond .lt 23, 3) := by decide +kernel
theorem d_X_isRule_12 : decode mi_X_isRule.2.1 12 = .ok (.iload_n 2, 1) := by decide +kernel
theorem d_X_isRule_13 : decode mi_X_isRule.2.1 13 = .ok (.aload_n 0, 1) := by decide +kernel
theorem d_X_isRule_14 : decode mi_X_isRule.2.1 14 = .ok (.getfield 12, 3) := by decide +kernel
theorem d_X_isRule_17 : decode mi_X_isRule.2.1 17 = .ok (.getfield 211, 3) := by decide +kernel
theorem d_X_isRule_20 : decode mi_X_isRule.2.1 20 = .ok (.iload_n 1, 1) := by decide +kernel
theorem d_X_isRule_21 : decode mi_X_isRule.2.1 21 = .ok (.aaload, 1) := by decide +kernel
theorem d_X_isRule_22 : decode mi_X_isRule.2.1 22 = .ok (.getfield 236, 3) := by decide +kernel
theorem d_X_isRule_25 : decode mi_X_isRule.2.1 25 = .ok (.if_icmp .ge 7, 3) := by decide +kernel
theorem d_X_isRule_28 : decode mi_X_isRule.2.1 28 = .ok (.iconst 1, 1) := by decide +kernel
theorem d_X_isRule_29 : decode mi_X_isRule.2.1 29 = .ok (.goto 4, 3) := by decide +kernel
theorem d_X_isRule_32 : decode mi_X_isRule.2.1 32 = .ok (.iconst 0, 1) := by decide +kernel
theorem d_X_isRule_33 : decode mi_X_isRule.2.1 33 = .ok (.ireturn, 1) := by decide +kernel
theorem d_X_isFeature_0 : decode mi_X_isFeature.2.1 0 = .ok (.iload_n 1, 1) := by decide +kernel
theorem d_X_isFeature_1 : decode mi_X_isFeature.2.1 1 = .ok (.ifCond .lt 18, 3) := by decide +kernel
theorem d_X_isFeature_4 : decode mi_X_isFeature.2.1 4 = .ok (.iload_n 1, 1) := by decide +kernel
theorem d_X_isFeature_5 : decode mi_X_isFeature.2.1 5 = .ok (.aload_n 0, 1) := by decide +kernel
theorem d_X_isFeature_6 : decode mi_X_isFeature.2.1 6 = .ok (.getfield 12, 3) := by decide +kernel
theorem d_X_isFeature_9 : decode mi_X_isFeature.2.1 9 = .ok (.getfield 208, 3) := by decide +kernel
theorem d_X_isFeature_12 : decode mi_X_isFeature.2.1 12 = .ok (.if_icmp .ge 7, 3) := by decide +kernel
theorem d_X_isFeature_15 : decode mi_X_isFeature.2.1 15 = .ok (.iconst 1, 1) := by decide +kernel
theorem d_X_isFeature_16 : decode mi_X_isFeature.2.1 16 = .ok (.goto 4, 3) := by decide +kernel
theorem d_X_isFeature_19 : decode mi_X_isFeature.2.1 19 = .ok (.iconst 0, 1) := by decide +kernel
theorem d_X_isFeature_20 : decode mi_X_isFeature.2.1 20 = .ok (.ireturn, 1) := by decide +kernel
theorem d_X_ruleAt_0 : decode mi_X_ruleAt.2.1 0 = .ok (.aload_n 0, 1) := by decide +kernel
theorem d_X_ruleAt_1 : decode mi_X_ruleAt.2.1 1 = .ok (.getfield 12, 3) := by decide +kernel
theorem d_X_ruleAt_4 : decode mi_X_ruleAt.2.1 4 = .ok (.getfield 211, 3) := by decide +kernel
theorem d_X_ruleAt_7 : decode mi_X_ruleAt.2.1 7 = .ok (.iload_n 1, 1) := by decide +kernel
theorem d_X_ruleAt_8 : decode mi_X_ruleAt.2.1 8 = .ok (.aaload, 1) := by decide +kernel
theorem d_X_ruleAt_9 : decode mi_X_ruleAt.2.1 9 = .ok (.getfield 239, 3) := by decide +kernel
theorem d_X_ruleAt_12 : decode mi_X_ruleAt.2.1 12 = .ok (.iload_n 2, 1) := by decide +kernel
theorem d_X_ruleAt_13 : decode mi_X_ruleAt.2.1 13 = .ok (.aaload, 1) := by decide +kernel
theorem d_X_ruleAt_14 : decode mi_X_ruleAt.2.1 14 = .ok (.areturn, 1) := by decide +kernel
theorem d_X_says_0 : decode mi_X_says.2.1 0 = .ok (.aload_n 0, 1) := by decide +kernel
theorem d_X_says_1 : decode mi_X_says.2.1 1 = .ok (.iload_n 1, 1) := by decide +kernel
theorem d_X_says_2 : decode mi_X_says.2.1 2 = .ok (.invokevirtual 71, 3) := by decide +kernel
theorem d_X_says_5 : decode mi_X_says.2.1 5 = .ok (.ifCond .eq 13, 3) := by decide +kernel
theorem d_X_says_8 : decode mi_X_says.2.1 8 = .ok (.iload_n 2, 1) := by decide +kernel
theorem d_X_says_9 : decode mi_X_says.2.1 9 = .ok (.ifCond .lt 9, 3) := by decide +kernel
theorem d_X_says_12 : decode mi_X_says.2.1 12 = .ok (.iload_n 2, 1) := by decide +kernel
theorem d_X_says_13 : decode mi_X_says.2.1 13 = .ok (.bipush 8, 2) := by decide +kernel
theorem d_X_says_15 : decode mi_X_says.2.1 15 = .ok (.if_icmp .le 10, 3) := by decide +kernel
theorem d_X_says_18 : decode mi_X_says.2.1 18 = .ok (.aload_n 0, 1) := by decide +kernel
theorem d_X_says_19 : decode mi_X_says.2.1 19 = .ok (.bipush (-32), 2) := by decide +kernel
theorem d_X_says_21 : decode mi_X_says.2.1 21 = .ok (.invokevirtual 75, 3) := by decide +kernel
theorem d_X_says_24 : decode mi_X_says.2.1 24 = .ok (.ireturn, 1) := by decide +kernel
theorem d_X_says_25 : decode mi_X_says.2.1 25 = .ok (.aload_n 0, 1) := by decide +kernel
theorem d_X_says_26 : decode mi_X_says.2.1 26 = .ok (.getfield 42, 3) := by decide +kernel
theorem d_X_says_29 : decode mi_X_says.2.1 29 = .ok (.iload_n 1, 1) := by decide +kernel
theorem d_X_says_30 : decode mi_X_says.2.1 30 = .ok (.aaload, 1) := by decide +kernel
theorem d_X_says_31 : decode mi_X_says.2.1 31 = .ok (.astore_n 3, 1) := by decide +kernel
theorem d_X_says_32 : decode mi_X_says.2.1 32 = .ok (.aload_n 3, 1) := by decide +kernel
theorem d_X_says_33 : decode mi_X_says.2.1 33 = .ok (.invokevirtual 111, 3) := by decide +kernel
theorem d_X_says_36 : decode mi_X_says.2.1 36 = .ok (.ifCond .eq 10, 3) := by decide +kernel
theorem d_X_says_39 : decode mi_X_says.2.1 39 = .ok (.aload_n 0, 1) := by decide +kernel
theorem d_X_says_40 : decode mi_X_says.2.1 40 = .ok (.bipush (-33), 2) := by decide +kernel
theorem d_X_says_42 : decode mi_X_says.2.1 42 = .ok (.invokevirtual 75, 3) := by decide +kernel
theorem d_X_says_45 : decode mi_X_says.2.1 45 = .ok (.ireturn, 1) := by decide +kernel
theorem d_X_says_46 : decode mi_X_says.2.1 46 = .ok (.aload_n 3, 1) := by decide +kernel
theorem d_X_says_47 : decode mi_X_says.2.1 47 = .ok (.getfield 147, 3) := by decide +kernel
theorem d_X_says_50 : decode mi_X_says.2.1 50 = .ok (.astore 4, 2) := by decide +kernel
theorem d_X_says_52 : decode mi_X_says.2.1 52 = .ok (.aload 4, 2) := by decide +kernel
theorem d_X_says_54 : decode mi_X_says.2.1 54 = .ok (.ifnonnull 10, 3) := by decide +kernel
theorem d_X_says_57 : decode mi_X_says.2.1 57 = .ok (.aload_n 0, 1) := by decide +kernel
theorem d_X_says_58 : decode mi_X_says.2.1 58 = .ok (.bipush (-34), 2) := by decide +kernel
theorem d_X_says_60 : decode mi_X_says.2.1 60 = .ok (.invokevirtual 75, 3) := by decide +kernel
theorem d_X_says_63 : decode mi_X_says.2.1 63 = .ok (.ireturn, 1) := by decide +kernel
theorem d_X_says_64 : decode mi_X_says.2.1 64 = .ok (.aload 4, 2) := by decide +kernel
theorem d_X_says_66 : decode mi_X_says.2.1 66 = .ok (.aload_n 3, 1) := by decide +kernel
theorem d_X_says_67 : decode mi_X_says.2.1 67 = .ok (.getfield 148, 3) := by decide +kernel
theorem d_X_says_70 : decode mi_X_says.2.1 70 = .ok (.invokevirtual 151, 3) := by decide +kernel
theorem d_X_says_73 : decode mi_X_says.2.1 73 = .ok (.iload_n 2, 1) := by decide +kernel
theorem d_X_says_74 : decode mi_X_says.2.1 74 = .ok (.invokestatic 154, 3) := by decide +kernel
theorem d_X_says_77 : decode mi_X_says.2.1 77 = .ok (.ifCond .ne 10, 3) := by decide +kernel
theorem d_X_says_80 : decode mi_X_says.2.1 80 = .ok (.aload_n 0, 1) := by decide +kernel
theorem d_X_says_81 : decode mi_X_says.2.1 81 = .ok (.bipush (-33), 2) := by decide +kernel
theorem d_X_says_83 : decode mi_X_says.2.1 83 = .ok (.invokevirtual 75, 3) := by decide +kernel
theorem d_X_says_86 : decode mi_X_says.2.1 86 = .ok (.ireturn, 1) := by decide +kernel
theorem d_X_says_87 : decode mi_X_says.2.1 87 = .ok (.aload_n 0, 1) := by decide +kernel
theorem d_X_says_88 : decode mi_X_says.2.1 88 = .ok (.aload 4, 2) := by decide +kernel
theorem d_X_says_90 : decode mi_X_says.2.1 90 = .ok (.aload_n 3, 1) := by decide +kernel
theorem d_X_says_91 : decode mi_X_says.2.1 91 = .ok (.getfield 148, 3) := by decide +kernel
theorem d_X_says_94 : decode mi_X_says.2.1 94 = .ok (.iload_n 2, 1) := by decide +kernel
theorem d_X_says_95 : decode mi_X_says.2.1 95 = .ok (.invokevirtual 157, 3) := by decide +kernel
theorem d_X_says_98 : decode mi_X_says.2.1 98 = .ok (.ireturn, 1) := by decide +kernel
theorem d_X_isOfKind_0 : decode mi_X_isOfKind.2.1 0 = .ok (.iload_n 1, 1) := by decide +kernel
theorem d_X_isOfKind_1 : decode mi_X_isOfKind.2.1 1 = .ok (.tableswitch 69 0 2 #[27, 29, 51], 27) := by decide +kernel
theorem d_X_isOfKind_28 : decode mi_X_isOfKind.2.1 28 = .ok (.iconst 1, 1) := by decide +kernel
theorem d_X_isOfKind_29 : decode mi_X_isOfKind.2.1 29 = .ok (.ireturn, 1) := by decide +kernel
theorem d_X_isOfKind_30 : decode mi_X_isOfKind.2.1 30 = .ok (.iload_n 0, 1) := by decide +kernel
theorem d_X_isOfKind_31 : decode mi_X_isOfKind.2.1 31 = .ok (.iconst 4, 1) := by decide +kernel
theorem d_X_isOfKind_32 : decode mi_X_isOfKind.2.1 32 = .ok (.if_icmp .eq 14, 3) := by decide +kernel
theorem d_X_isOfKind_35 : decode mi_X_isOfKind.2.1 35 = .ok (.iload_n 0, 1) := by decide +kernel
theorem d_X_isOfKind_36 : decode mi_X_isOfKind.2.1 36 = .ok (.iconst 5, 1) := by decide +kernel
theorem d_X_isOfKind_37 : decode mi_X_isOfKind.2.1 37 = .ok (.if_icmp .eq 9, 3) := by decide +kernel
theorem d_X_isOfKind_40 : decode mi_X_isOfKind.2.1 40 = .ok (.iload_n 0, 1) := by decide +kernel
theorem d_X_isOfKind_41 : decode mi_X_isOfKind.2.1 41 = .ok (.bipush 6, 2) := by decide +kernel
theorem d_X_isOfKind_43 : decode mi_X_isOfKind.2.1 43 = .ok (.if_icmp .ne 7, 3) := by decide +kernel
theorem d_X_isOfKind_46 : decode mi_X_isOfKind.2.1 46 = .ok (.iconst 1, 1) := by decide +kernel
theorem d_X_isOfKind_47 : decode mi_X_isOfKind.2.1 47 = .ok (.goto 4, 3) := by decide +kernel
theorem d_X_isOfKind_50 : decode mi_X_isOfKind.2.1 50 = .ok (.iconst 0, 1) := by decide +kernel
theorem d_X_isOfKind_51 : decode mi_X_isOfKind.2.1 51 = .ok (.ireturn, 1) := by decide +kernel
theorem d_X_isOfKind_52 : decode mi_X_isOfKind.2.1 52 = .ok (.iload_n 0, 1) := by decide +kernel
theorem d_X_isOfKind_53 : decode mi_X_isOfKind.2.1 53 = .ok (.bipush 7, 2) := by decide +kernel
theorem d_X_isOfKind_55 : decode mi_X_isOfKind.2.1 55 = .ok (.if_icmp .eq 9, 3) := by decide +kernel
theorem d_X_isOfKind_58 : decode mi_X_isOfKind.2.1 58 = .ok (.iload_n 0, 1) := by decide +kernel
theorem d_X_isOfKind_59 : decode mi_X_isOfKind.2.1 59 = .ok (.bipush 8, 2) := by decide +kernel
theorem d_X_isOfKind_61 : decode mi_X_isOfKind.2.1 61 = .ok (.if_icmp .ne 7, 3) := by decide +kernel
theorem d_X_isOfKind_64 : decode mi_X_isOfKind.2.1 64 = .ok (.iconst 1, 1) := by decide +kernel
theorem d_X_isOfKind_65 : decode mi_X_isOfKind.2.1 65 = .ok (.goto 4, 3) := by decide +kernel
theorem d_X_isOfKind_68 : decode mi_X_isOfKind.2.1 68 = .ok (.iconst 0, 1) := by decide +kernel
theorem d_X_isOfKind_69 : decode mi_X_isOfKind.2.1 69 = .ok (.ireturn, 1) := by decide +kernel
theorem d_X_isOfKind_70 : decode mi_X_isOfKind.2.1 70 = .ok (.iload_n 0, 1) := by decide +kernel
theorem d_X_isOfKind_71 : decode mi_X_isOfKind.2.1 71 = .ok (.iload_n 1, 1) := by decide +kernel
theorem d_X_isOfKind_72 : decode mi_X_isOfKind.2.1 72 = .ok (.if_icmp .ne 7, 3) := by decide +kernel
theorem d_X_isOfKind_75 : decode mi_X_isOfKind.2.1 75 = .ok (.iconst 1, 1) := by decide +kernel
theorem d_X_isOfKind_76 : decode mi_X_isOfKind.2.1 76 = .ok (.goto 4, 3) := by decide +kernel
theorem d_X_isOfKind_79 : decode mi_X_isOfKind.2.1 79 = .ok (.iconst 0, 1) := by decide +kernel
theorem d_X_isOfKind_80 : decode mi_X_isOfKind.2.1 80 = .ok (.ireturn, 1) := by decide +kernel
theorem d_X_sayingOf_0 : decode mi_X_sayingOf.2.1 0 = .ok (.iload_n 3, 1) := by decide +kernel
theorem d_X_sayingOf_1 : decode mi_X_sayingOf.2.1 1 = .ok (.tableswitch 178 0 8 #[51, 61, 69, 80, 178, 91, 108, 124, 151], 51) := by decide +kernel
theorem d_X_sayingOf_52 : decode mi_X_sayingOf.2.1 52 = .ok (.aload_n 0, 1) := by decide +kernel
theorem d_X_sayingOf_53 : decode mi_X_sayingOf.2.1 53 = .ok (.aload_n 1, 1) := by decide +kernel
theorem d_X_sayingOf_54 : decode mi_X_sayingOf.2.1 54 = .ok (.iload_n 2, 1) := by decide +kernel
theorem d_X_sayingOf_55 : decode mi_X_sayingOf.2.1 55 = .ok (.invokevirtual 161, 3) := by decide +kernel
theorem d_X_sayingOf_58 : decode mi_X_sayingOf.2.1 58 = .ok (.invokestatic 165, 3) := by decide +kernel
theorem d_X_sayingOf_61 : decode mi_X_sayingOf.2.1 61 = .ok (.ireturn, 1) := by decide +kernel
theorem d_X_sayingOf_62 : decode mi_X_sayingOf.2.1 62 = .ok (.aload_n 1, 1) := by decide +kernel
theorem d_X_sayingOf_63 : decode mi_X_sayingOf.2.1 63 = .ok (.iload_n 2, 1) := by decide +kernel
theorem d_X_sayingOf_64 : decode mi_X_sayingOf.2.1 64 = .ok (.invokevirtual 151, 3) := by decide +kernel
theorem d_X_sayingOf_67 : decode mi_X_sayingOf.2.1 67 = .ok (.iconst 4, 1) := by decide +kernel
theorem d_X_sayingOf_68 : decode mi_X_sayingOf.2.1 68 = .ok (.isub, 1) := by decide +kernel
theorem d_X_sayingOf_69 : decode mi_X_sayingOf.2.1 69 = .ok (.ireturn, 1) := by decide +kernel
theorem d_X_sayingOf_70 : decode mi_X_sayingOf.2.1 70 = .ok (.aload_n 1, 1) := by decide +kernel
theorem d_X_sayingOf_71 : decode mi_X_sayingOf.2.1 71 = .ok (.aload_n 1, 1) := by decide +kernel
theorem d_X_sayingOf_72 : decode mi_X_sayingOf.2.1 72 = .ok (.iload_n 2, 1) := by decide +kernel
theorem d_X_sayingOf_73 : decode mi_X_sayingOf.2.1 73 = .ok (.iconst 2, 1) := by decide +kernel
theorem d_X_sayingOf_74 : decode mi_X_sayingOf.2.1 74 = .ok (.invokevirtual 140, 3) := by decide +kernel
theorem d_X_sayingOf_77 : decode mi_X_sayingOf.2.1 77 = .ok (.invokevirtual 151, 3) := by decide +kernel
theorem d_X_sayingOf_80 : decode mi_X_sayingOf.2.1 80 = .ok (.ireturn, 1) := by decide +kernel
theorem d_X_sayingOf_81 : decode mi_X_sayingOf.2.1 81 = .ok (.aload_n 1, 1) := by decide +kernel
theorem d_X_sayingOf_82 : decode mi_X_sayingOf.2.1 82 = .ok (.aload_n 1, 1) := by decide +kernel
theorem d_X_sayingOf_83 : decode mi_X_sayingOf.2.1 83 = .ok (.iload_n 2, 1) := by decide +kernel
theorem d_X_sayingOf_84 : decode mi_X_sayingOf.2.1 84 = .ok (.iconst 1, 1) := by decide +kernel
theorem d_X_sayingOf_85 : decode mi_X_sayingOf.2.1 85 = .ok (.invokevirtual 140, 3) := by decide +kernel
theorem d_X_sayingOf_88 : decode mi_X_sayingOf.2.1 88 = .ok (.invokevirtual 151, 3) := by decide +kernel
theorem d_X_sayingOf_91 : decode mi_X_sayingOf.2.1 91 = .ok (.ireturn, 1) := by decide +kernel
theorem d_X_sayingOf_92 : decode mi_X_sayingOf.2.1 92 = .ok (.bipush 10, 2) := by decide +kernel
theorem d_X_sayingOf_94 : decode mi_X_sayingOf.2.1 94 = .ok (.aload_n 1, 1) := by decide +kernel
theorem d_X_sayingOf_95 : decode mi_X_sayingOf.2.1 95 = .ok (.getfield 170, 3) := by decide +kernel
theorem d_X_sayingOf_98 : decode mi_X_sayingOf.2.1 98 = .ok (.iload_n 2, 1) := by decide +kernel
theorem d_X_sayingOf_99 : decode mi_X_sayingOf.2.1 99 = .ok (.iaload, 1) := by decide +kernel
theorem d_X_sayingOf_100 : decode mi_X_sayingOf.2.1 100 = .ok (.imul, 1) := by decide +kernel
theorem d_X_sayingOf_101 : decode mi_X_sayingOf.2.1 101 = .ok (.aload_n 1, 1) := by decide +kernel
theorem d_X_sayingOf_102 : decode mi_X_sayingOf.2.1 102 = .ok (.getfield 173, 3) := by decide +kernel
theorem d_X_sayingOf_105 : decode mi_X_sayingOf.2.1 105 = .ok (.iload_n 2, 1) := by decide +kernel
theorem d_X_sayingOf_106 : decode mi_X_sayingOf.2.1 106 = .ok (.iaload, 1) := by decide +kernel
theorem d_X_sayingOf_107 : decode mi_X_sayingOf.2.1 107 = .ok (.iadd, 1) := by decide +kernel
theorem d_X_sayingOf_108 : decode mi_X_sayingOf.2.1 108 = .ok (.ireturn, 1) := by decide +kernel
theorem d_X_sayingOf_109 : decode mi_X_sayingOf.2.1 109 = .ok (.aload_n 1, 1) := by decide +kernel
theorem d_X_sayingOf_110 : decode mi_X_sayingOf.2.1 110 = .ok (.getfield 173, 3) := by decide +kernel
theorem d_X_sayingOf_113 : decode mi_X_sayingOf.2.1 113 = .ok (.iload_n 2, 1) := by decide +kernel
theorem d_X_sayingOf_114 : decode mi_X_sayingOf.2.1 114 = .ok (.iaload, 1) := by decide +kernel
theorem d_X_sayingOf_115 : decode mi_X_sayingOf.2.1 115 = .ok (.aload_n 1, 1) := by decide +kernel
theorem d_X_sayingOf_116 : decode mi_X_sayingOf.2.1 116 = .ok (.getfield 170, 3) := by decide +kernel
theorem d_X_sayingOf_119 : decode mi_X_sayingOf.2.1 119 = .ok (.iload_n 2, 1) := by decide +kernel
theorem d_X_sayingOf_120 : decode mi_X_sayingOf.2.1 120 = .ok (.iaload, 1) := by decide +kernel
theorem d_X_sayingOf_121 : decode mi_X_sayingOf.2.1 121 = .ok (.isub, 1) := by decide +kernel
theorem d_X_sayingOf_122 : decode mi_X_sayingOf.2.1 122 = .ok (.iconst 1, 1) := by decide +kernel
theorem d_X_sayingOf_123 : decode mi_X_sayingOf.2.1 123 = .ok (.iadd, 1) := by decide +kernel
theorem d_X_sayingOf_124 : decode mi_X_sayingOf.2.1 124 = .ok (.ireturn, 1) := by decide +kernel
theorem d_X_sayingOf_125 : decode mi_X_sayingOf.2.1 125 = .ok (.aload_n 0, 1) := by decide +kernel
theorem d_X_sayingOf_126 : decode mi_X_sayingOf.2.1 126 = .ok (.aload_n 1, 1) := by decide +kernel
theorem d_X_sayingOf_127 : decode mi_X_sayingOf.2.1 127 = .ok (.aload_n 1, 1) := by decide +kernel
theorem d_X_sayingOf_128 : decode mi_X_sayingOf.2.1 128 = .ok (.iload_n 2, 1) := by decide +kernel
theorem d_X_sayingOf_129 : decode mi_X_sayingOf.2.1 129 = .ok (.iconst 1, 1) := by decide +kernel
theorem d_X_sayingOf_130 : decode mi_X_sayingOf.2.1 130 = .ok (.invokevirtual 140, 3) := by decide +kernel
theorem d_X_sayingOf_133 : decode mi_X_sayingOf.2.1 133 = .ok (.invokevirtual 161, 3) := by decide +kernel
theorem d_X_sayingOf_136 : decode mi_X_sayingOf.2.1 136 = .ok (.aload_n 0, 1) := by decide +kernel
theorem d_X_sayingOf_137 : decode mi_X_sayingOf.2.1 137 = .ok (.aload_n 1, 1) := by decide +kernel
theorem d_X_sayingOf_138 : decode mi_X_sayingOf.2.1 138 = .ok (.aload_n 1, 1) := by decide +kernel
theorem d_X_sayingOf_139 : decode mi_X_sayingOf.2.1 139 = .ok (.iload_n 2, 1) := by decide +kernel
theorem d_X_sayingOf_140 : decode mi_X_sayingOf.2.1 140 = .ok (.iconst 2, 1) := by decide +kernel
theorem d_X_sayingOf_141 : decode mi_X_sayingOf.2.1 141 = .ok (.invokevirtual 140, 3) := by decide +kernel
theorem d_X_sayingOf_144 : decode mi_X_sayingOf.2.1 144 = .ok (.invokevirtual 161, 3) := by decide +kernel
theorem d_X_sayingOf_147 : decode mi_X_sayingOf.2.1 147 = .ok (.ixor, 1) := by decide +kernel
theorem d_X_sayingOf_148 : decode mi_X_sayingOf.2.1 148 = .ok (.invokestatic 165, 3) := by decide +kernel
theorem d_X_sayingOf_151 : decode mi_X_sayingOf.2.1 151 = .ok (.ireturn, 1) := by decide +kernel
theorem d_X_sayingOf_152 : decode mi_X_sayingOf.2.1 152 = .ok (.aload_n 0, 1) := by decide +kernel
theorem d_X_sayingOf_153 : decode mi_X_sayingOf.2.1 153 = .ok (.aload_n 1, 1) := by decide +kernel
theorem d_X_sayingOf_154 : decode mi_X_sayingOf.2.1 154 = .ok (.aload_n 1, 1) := by decide +kernel
theorem d_X_sayingOf_155 : decode mi_X_sayingOf.2.1 155 = .ok (.iload_n 2, 1) := by decide +kernel
theorem d_X_sayingOf_156 : decode mi_X_sayingOf.2.1 156 = .ok (.iconst 1, 1) := by decide +kernel
theorem d_X_sayingOf_157 : decode mi_X_sayingOf.2.1 157 = .ok (.invokevirtual 140, 3) := by decide +kernel
theorem d_X_sayingOf_160 : decode mi_X_sayingOf.2.1 160 = .ok (.invokevirtual 161, 3) := by decide +kernel
theorem d_X_sayingOf_163 : decode mi_X_sayingOf.2.1 163 = .ok (.aload_n 0, 1) := by decide +kernel
theorem d_X_sayingOf_164 : decode mi_X_sayingOf.2.1 164 = .ok (.aload_n 1, 1) := by decide +kernel
theorem d_X_sayingOf_165 : decode mi_X_sayingOf.2.1 165 = .ok (.aload_n 1, 1) := by decide +kernel
theorem d_X_sayingOf_166 : decode mi_X_sayingOf.2.1 166 = .ok (.iload_n 2, 1) := by decide +kernel
theorem d_X_sayingOf_167 : decode mi_X_sayingOf.2.1 167 = .ok (.iconst 2, 1) := by decide +kernel
theorem d_X_sayingOf_168 : decode mi_X_sayingOf.2.1 168 = .ok (.invokevirtual 140, 3) := by decide +kernel
theorem d_X_sayingOf_171 : decode mi_X_sayingOf.2.1 171 = .ok (.invokevirtual 161, 3) := by decide +kernel
theorem d_X_sayingOf_174 : decode mi_X_sayingOf.2.1 174 = .ok (.iand, 1) := by decide +kernel
theorem d_X_sayingOf_175 : decode mi_X_sayingOf.2.1 175 = .ok (.invokestatic 165, 3) := by decide +kernel
theorem d_X_sayingOf_178 : decode mi_X_sayingOf.2.1 178 = .ok (.ireturn, 1) := by decide +kernel
theorem d_X_sayingOf_179 : decode mi_X_sayingOf.2.1 179 = .ok (.iconst 1, 1) := by decide +kernel
theorem d_X_sayingOf_180 : decode mi_X_sayingOf.2.1 180 = .ok (.ireturn, 1) := by decide +kernel
theorem d_X_personsOf_0 : decode mi_X_personsOf.2.1 0 = .ok (.aload_n 0, 1) := by decide +kernel
theorem d_X_personsOf_1 : decode mi_X_personsOf.2.1 1 = .ok (.getfield 12, 3) := by decide +kernel
theorem d_X_personsOf_4 : decode mi_X_personsOf.2.1 4 = .ok (.getfield 179, 3) := by decide +kernel
theorem d_X_personsOf_7 : decode mi_X_personsOf.2.1 7 = .ok (.astore_n 3, 1) := by decide +kernel
theorem d_X_personsOf_8 : decode mi_X_personsOf.2.1 8 = .ok (.iconst 0, 1) := by decide +kernel
theorem d_X_personsOf_9 : decode mi_X_personsOf.2.1 9 = .ok (.istore 4, 2) := by decide +kernel
theorem d_X_personsOf_11 : decode mi_X_personsOf.2.1 11 = .ok (.iconst 0, 1) := by decide +kernel
theorem d_X_personsOf_12 : decode mi_X_personsOf.2.1 12 = .ok (.istore 5, 2) := by decide +kernel
theorem d_X_personsOf_14 : decode mi_X_personsOf.2.1 14 = .ok (.iload 5, 2) := by decide +kernel
theorem d_X_personsOf_16 : decode mi_X_personsOf.2.1 16 = .ok (.aload_n 3, 1) := by decide +kernel
theorem d_X_personsOf_17 : decode mi_X_personsOf.2.1 17 = .ok (.getfield 189, 3) := by decide +kernel
theorem d_X_personsOf_20 : decode mi_X_personsOf.2.1 20 = .ok (.if_icmp .ge 40, 3) := by decide +kernel
theorem d_X_personsOf_23 : decode mi_X_personsOf.2.1 23 = .ok (.aload_n 1, 1) := by decide +kernel
theorem d_X_personsOf_24 : decode mi_X_personsOf.2.1 24 = .ok (.iload_n 2, 1) := by decide +kernel
theorem d_X_personsOf_25 : decode mi_X_personsOf.2.1 25 = .ok (.aload_n 3, 1) := by decide +kernel
theorem d_X_personsOf_26 : decode mi_X_personsOf.2.1 26 = .ok (.getfield 202, 3) := by decide +kernel
theorem d_X_personsOf_29 : decode mi_X_personsOf.2.1 29 = .ok (.iload 5, 2) := by decide +kernel
theorem d_X_personsOf_31 : decode mi_X_personsOf.2.1 31 = .ok (.iaload, 1) := by decide +kernel
theorem d_X_personsOf_32 : decode mi_X_personsOf.2.1 32 = .ok (.aload_n 3, 1) := by decide +kernel
theorem d_X_personsOf_33 : decode mi_X_personsOf.2.1 33 = .ok (.getfield 195, 3) := by decide +kernel
theorem d_X_personsOf_36 : decode mi_X_personsOf.2.1 36 = .ok (.iload 5, 2) := by decide +kernel
theorem d_X_personsOf_38 : decode mi_X_personsOf.2.1 38 = .ok (.iaload, 1) := by decide +kernel
theorem d_X_personsOf_39 : decode mi_X_personsOf.2.1 39 = .ok (.invokevirtual 426, 3) := by decide +kernel
theorem d_X_personsOf_42 : decode mi_X_personsOf.2.1 42 = .ok (.ifCond .eq 12, 3) := by decide +kernel
theorem d_X_personsOf_45 : decode mi_X_personsOf.2.1 45 = .ok (.iload 4, 2) := by decide +kernel
theorem d_X_personsOf_47 : decode mi_X_personsOf.2.1 47 = .ok (.iconst 1, 1) := by decide +kernel
theorem d_X_personsOf_48 : decode mi_X_personsOf.2.1 48 = .ok (.iload 5, 2) := by decide +kernel
theorem d_X_personsOf_50 : decode mi_X_personsOf.2.1 50 = .ok (.ishl, 1) := by decide +kernel
theorem d_X_personsOf_51 : decode mi_X_personsOf.2.1 51 = .ok (.ior, 1) := by decide +kernel
theorem d_X_personsOf_52 : decode mi_X_personsOf.2.1 52 = .ok (.istore 4, 2) := by decide +kernel
theorem d_X_personsOf_54 : decode mi_X_personsOf.2.1 54 = .ok (.iinc 5 1, 3) := by decide +kernel
theorem d_X_personsOf_57 : decode mi_X_personsOf.2.1 57 = .ok (.goto (-43), 3) := by decide +kernel
theorem d_X_personsOf_60 : decode mi_X_personsOf.2.1 60 = .ok (.iload 4, 2) := by decide +kernel
theorem d_X_personsOf_62 : decode mi_X_personsOf.2.1 62 = .ok (.ireturn, 1) := by decide +kernel
theorem d_X_feed_0 : decode mi_X_feed.2.1 0 = .ok (.iload_n 1, 1) := by decide +kernel
theorem d_X_feed_1 : decode mi_X_feed.2.1 1 = .ok (.ifCond .lt 10, 3) := by decide +kernel
theorem d_X_feed_4 : decode mi_X_feed.2.1 4 = .ok (.iload_n 1, 1) := by decide +kernel
theorem d_X_feed_5 : decode mi_X_feed.2.1 5 = .ok (.sipush 255, 3) := by decide +kernel
theorem d_X_feed_8 : decode mi_X_feed.2.1 8 = .ok (.if_icmp .le 10, 3) := by decide +kernel
theorem d_X_feed_11 : decode mi_X_feed.2.1 11 = .ok (.aload_n 0, 1) := by decide +kernel
theorem d_X_feed_12 : decode mi_X_feed.2.1 12 = .ok (.bipush (-32), 2) := by decide +kernel
theorem d_X_feed_14 : decode mi_X_feed.2.1 14 = .ok (.invokevirtual 75, 3) := by decide +kernel
theorem d_X_feed_17 : decode mi_X_feed.2.1 17 = .ok (.ireturn, 1) := by decide +kernel
theorem d_X_feed_18 : decode mi_X_feed.2.1 18 = .ok (.aload_n 0, 1) := by decide +kernel
theorem d_X_feed_19 : decode mi_X_feed.2.1 19 = .ok (.getfield 49, 3) := by decide +kernel
theorem d_X_feed_22 : decode mi_X_feed.2.1 22 = .ok (.sipush 250, 3) := by decide +kernel
theorem d_X_feed_25 : decode mi_X_feed.2.1 25 = .ok (.if_icmp .lt 10, 3) := by decide +kernel
theorem d_X_feed_28 : decode mi_X_feed.2.1 28 = .ok (.aload_n 0, 1) := by decide +kernel
theorem d_X_feed_29 : decode mi_X_feed.2.1 29 = .ok (.bipush (-36), 2) := by decide +kernel
theorem d_X_feed_31 : decode mi_X_feed.2.1 31 = .ok (.invokevirtual 75, 3) := by decide +kernel
theorem d_X_feed_34 : decode mi_X_feed.2.1 34 = .ok (.ireturn, 1) := by decide +kernel
theorem d_X_feed_35 : decode mi_X_feed.2.1 35 = .ok (.aload_n 0, 1) := by decide +kernel
theorem d_X_feed_36 : decode mi_X_feed.2.1 36 = .ok (.getfield 46, 3) := by decide +kernel
theorem d_X_feed_39 : decode mi_X_feed.2.1 39 = .ok (.aload_n 0, 1) := by decide +kernel
theorem d_X_feed_40 : decode mi_X_feed.2.1 40 = .ok (.getfield 49, 3) := by decide +kernel
theorem d_X_feed_43 : decode mi_X_feed.2.1 43 = .ok (.iload_n 1, 1) := by decide +kernel
theorem d_X_feed_44 : decode mi_X_feed.2.1 44 = .ok (.iastore, 1) := by decide +kernel
theorem d_X_feed_45 : decode mi_X_feed.2.1 45 = .ok (.aload_n 0, 1) := by decide +kernel
theorem d_X_feed_46 : decode mi_X_feed.2.1 46 = .ok (.dup, 1) := by decide +kernel
theorem d_X_feed_47 : decode mi_X_feed.2.1 47 = .ok (.getfield 49, 3) := by decide +kernel
theorem d_X_feed_50 : decode mi_X_feed.2.1 50 = .ok (.iconst 1, 1) := by decide +kernel
theorem d_X_feed_51 : decode mi_X_feed.2.1 51 = .ok (.iadd, 1) := by decide +kernel
theorem d_X_feed_52 : decode mi_X_feed.2.1 52 = .ok (.putfield 49, 3) := by decide +kernel
theorem d_X_feed_55 : decode mi_X_feed.2.1 55 = .ok (.aload_n 0, 1) := by decide +kernel
theorem d_X_feed_56 : decode mi_X_feed.2.1 56 = .ok (.getfield 49, 3) := by decide +kernel
theorem d_X_feed_59 : decode mi_X_feed.2.1 59 = .ok (.ireturn, 1) := by decide +kernel
theorem d_X_wipe_0 : decode mi_X_wipe.2.1 0 = .ok (.aload_n 0, 1) := by decide +kernel
theorem d_X_wipe_1 : decode mi_X_wipe.2.1 1 = .ok (.getfield 49, 3) := by decide +kernel
theorem d_X_wipe_4 : decode mi_X_wipe.2.1 4 = .ok (.istore_n 1, 1) := by decide +kernel
theorem d_X_wipe_5 : decode mi_X_wipe.2.1 5 = .ok (.aload_n 0, 1) := by decide +kernel
theorem d_X_wipe_6 : decode mi_X_wipe.2.1 6 = .ok (.iconst 0, 1) := by decide +kernel
theorem d_X_wipe_7 : decode mi_X_wipe.2.1 7 = .ok (.putfield 49, 3) := by decide +kernel
theorem d_X_wipe_10 : decode mi_X_wipe.2.1 10 = .ok (.iload_n 1, 1) := by decide +kernel
theorem d_X_wipe_11 : decode mi_X_wipe.2.1 11 = .ok (.ireturn, 1) := by decide +kernel
theorem d_X_person_0 : decode mi_X_person.2.1 0 = .ok (.aload_n 0, 1) := by decide +kernel
theorem d_X_person_1 : decode mi_X_person.2.1 1 = .ok (.iload_n 1, 1) := by decide +kernel
theorem d_X_person_2 : decode mi_X_person.2.1 2 = .ok (.invokevirtual 176, 3) := by decide +kernel
theorem d_X_person_5 : decode mi_X_person.2.1 5 = .ok (.ifCond .eq 14, 3) := by decide +kernel
theorem d_X_person_8 : decode mi_X_person.2.1 8 = .ok (.iload_n 2, 1) := by decide +kernel
theorem d_X_person_9 : decode mi_X_person.2.1 9 = .ok (.ifCond .lt 10, 3) := by decide +kernel
theorem d_X_person_12 : decode mi_X_person.2.1 12 = .ok (.iload_n 2, 1) := by decide +kernel
theorem d_X_person_13 : decode mi_X_person.2.1 13 = .ok (.sipush 9999, 3) := by decide +kernel
theorem d_X_person_16 : decode mi_X_person.2.1 16 = .ok (.if_icmp .le 10, 3) := by decide +kernel
theorem d_X_person_19 : decode mi_X_person.2.1 19 = .ok (.aload_n 0, 1) := by decide +kernel
theorem d_X_person_20 : decode mi_X_person.2.1 20 = .ok (.bipush (-32), 2) := by decide +kernel
theorem d_X_person_22 : decode mi_X_person.2.1 22 = .ok (.invokevirtual 75, 3) := by decide +kernel
theorem d_X_person_25 : decode mi_X_person.2.1 25 = .ok (.ireturn, 1) := by decide +kernel
theorem d_X_person_26 : decode mi_X_person.2.1 26 = .ok (.aload_n 0, 1) := by decide +kernel
theorem d_X_person_27 : decode mi_X_person.2.1 27 = .ok (.getfield 12, 3) := by decide +kernel
theorem d_X_person_30 : decode mi_X_person.2.1 30 = .ok (.getfield 179, 3) := by decide +kernel
theorem d_X_person_33 : decode mi_X_person.2.1 33 = .ok (.astore_n 3, 1) := by decide +kernel
theorem d_X_person_34 : decode mi_X_person.2.1 34 = .ok (.aload_n 3, 1) := by decide +kernel
theorem d_X_person_35 : decode mi_X_person.2.1 35 = .ok (.iload_n 1, 1) := by decide +kernel
theorem d_X_person_36 : decode mi_X_person.2.1 36 = .ok (.i2l, 1) := by decide +kernel
theorem d_X_person_37 : decode mi_X_person.2.1 37 = .ok (.invokevirtual 183, 3) := by decide +kernel
theorem d_X_person_40 : decode mi_X_person.2.1 40 = .ok (.istore 4, 2) := by decide +kernel
theorem d_X_person_42 : decode mi_X_person.2.1 42 = .ok (.iload 4, 2) := by decide +kernel
theorem d_X_person_44 : decode mi_X_person.2.1 44 = .ok (.iconst (-1), 1) := by decide +kernel
theorem d_X_person_45 : decode mi_X_person.2.1 45 = .ok (.if_icmp .ne 19, 3) := by decide +kernel
theorem d_X_person_48 : decode mi_X_person.2.1 48 = .ok (.aload_n 3, 1) := by decide +kernel
theorem d_X_person_49 : decode mi_X_person.2.1 49 = .ok (.getfield 189, 3) := by decide +kernel
theorem d_X_person_52 : decode mi_X_person.2.1 52 = .ok (.bipush 24, 2) := by decide +kernel
theorem d_X_person_54 : decode mi_X_person.2.1 54 = .ok (.if_icmp .lt 10, 3) := by decide +kernel
theorem d_X_person_57 : decode mi_X_person.2.1 57 = .ok (.aload_n 0, 1) := by decide +kernel
theorem d_X_person_58 : decode mi_X_person.2.1 58 = .ok (.bipush (-36), 2) := by decide +kernel
theorem d_X_person_60 : decode mi_X_person.2.1 60 = .ok (.invokevirtual 75, 3) := by decide +kernel
theorem d_X_person_63 : decode mi_X_person.2.1 63 = .ok (.ireturn, 1) := by decide +kernel
theorem d_X_person_64 : decode mi_X_person.2.1 64 = .ok (.iload 4, 2) := by decide +kernel
theorem d_X_person_66 : decode mi_X_person.2.1 66 = .ok (.iconst (-1), 1) := by decide +kernel
theorem d_X_person_67 : decode mi_X_person.2.1 67 = .ok (.if_icmp .ne 12, 3) := by decide +kernel
theorem d_X_person_70 : decode mi_X_person.2.1 70 = .ok (.aload_n 3, 1) := by decide +kernel
theorem d_X_person_71 : decode mi_X_person.2.1 71 = .ok (.iload_n 1, 1) := by decide +kernel
theorem d_X_person_72 : decode mi_X_person.2.1 72 = .ok (.iload_n 2, 1) := by decide +kernel
theorem d_X_person_73 : decode mi_X_person.2.1 73 = .ok (.invokevirtual 192, 3) := by decide +kernel
theorem d_X_person_76 : decode mi_X_person.2.1 76 = .ok (.goto 11, 3) := by decide +kernel
theorem d_X_person_79 : decode mi_X_person.2.1 79 = .ok (.aload_n 3, 1) := by decide +kernel
theorem d_X_person_80 : decode mi_X_person.2.1 80 = .ok (.getfield 195, 3) := by decide +kernel
theorem d_X_person_83 : decode mi_X_person.2.1 83 = .ok (.iload 4, 2) := by decide +kernel
theorem d_X_person_85 : decode mi_X_person.2.1 85 = .ok (.iload_n 2, 1) := by decide +kernel
theorem d_X_person_86 : decode mi_X_person.2.1 86 = .ok (.iastore, 1) := by decide +kernel
theorem d_X_person_87 : decode mi_X_person.2.1 87 = .ok (.aload_n 3, 1) := by decide +kernel
theorem d_X_person_88 : decode mi_X_person.2.1 88 = .ok (.getfield 189, 3) := by decide +kernel
theorem d_X_person_91 : decode mi_X_person.2.1 91 = .ok (.ireturn, 1) := by decide +kernel
theorem d_X_isKey_0 : decode mi_X_isKey.2.1 0 = .ok (.iload_n 1, 1) := by decide +kernel
theorem d_X_isKey_1 : decode mi_X_isKey.2.1 1 = .ok (.ifCond .lt 14, 3) := by decide +kernel
theorem d_X_isKey_4 : decode mi_X_isKey.2.1 4 = .ok (.iload_n 1, 1) := by decide +kernel
theorem d_X_isKey_5 : decode mi_X_isKey.2.1 5 = .ok (.ldc_w 419, 3) := by decide +kernel
theorem d_X_isKey_8 : decode mi_X_isKey.2.1 8 = .ok (.if_icmp .gt 7, 3) := by decide +kernel
theorem d_X_isKey_11 : decode mi_X_isKey.2.1 11 = .ok (.iconst 1, 1) := by decide +kernel
theorem d_X_isKey_12 : decode mi_X_isKey.2.1 12 = .ok (.goto 4, 3) := by decide +kernel
theorem d_X_isKey_15 : decode mi_X_isKey.2.1 15 = .ok (.iconst 0, 1) := by decide +kernel
theorem d_X_isKey_16 : decode mi_X_isKey.2.1 16 = .ok (.ireturn, 1) := by decide +kernel
theorem d_X_gone_0 : decode mi_X_gone.2.1 0 = .ok (.aload_n 0, 1) := by decide +kernel
theorem d_X_gone_1 : decode mi_X_gone.2.1 1 = .ok (.getfield 12, 3) := by decide +kernel
theorem d_X_gone_4 : decode mi_X_gone.2.1 4 = .ok (.getfield 179, 3) := by decide +kernel
theorem d_X_gone_7 : decode mi_X_gone.2.1 7 = .ok (.iload_n 1, 1) := by decide +kernel
theorem d_X_gone_8 : decode mi_X_gone.2.1 8 = .ok (.i2l, 1) := by decide +kernel
theorem d_X_gone_9 : decode mi_X_gone.2.1 9 = .ok (.invokevirtual 183, 3) := by decide +kernel
theorem d_X_gone_12 : decode mi_X_gone.2.1 12 = .ok (.istore_n 2, 1) := by decide +kernel
theorem d_X_gone_13 : decode mi_X_gone.2.1 13 = .ok (.iload_n 2, 1) := by decide +kernel
theorem d_X_gone_14 : decode mi_X_gone.2.1 14 = .ok (.iconst (-1), 1) := by decide +kernel
theorem d_X_gone_15 : decode mi_X_gone.2.1 15 = .ok (.if_icmp .ne 10, 3) := by decide +kernel
theorem d_X_gone_18 : decode mi_X_gone.2.1 18 = .ok (.aload_n 0, 1) := by decide +kernel
theorem d_X_gone_19 : decode mi_X_gone.2.1 19 = .ok (.bipush (-32), 2) := by decide +kernel
theorem d_X_gone_21 : decode mi_X_gone.2.1 21 = .ok (.invokevirtual 75, 3) := by decide +kernel
theorem d_X_gone_24 : decode mi_X_gone.2.1 24 = .ok (.ireturn, 1) := by decide +kernel
theorem d_X_gone_25 : decode mi_X_gone.2.1 25 = .ok (.aload_n 0, 1) := by decide +kernel
theorem d_X_gone_26 : decode mi_X_gone.2.1 26 = .ok (.getfield 12, 3) := by decide +kernel
theorem d_X_gone_29 : decode mi_X_gone.2.1 29 = .ok (.iload_n 2, 1) := by decide +kernel
theorem d_X_gone_30 : decode mi_X_gone.2.1 30 = .ok (.invokevirtual 198, 3) := by decide +kernel
theorem d_X_gone_33 : decode mi_X_gone.2.1 33 = .ok (.aload_n 0, 1) := by decide +kernel
theorem d_X_gone_34 : decode mi_X_gone.2.1 34 = .ok (.getfield 12, 3) := by decide +kernel
theorem d_X_gone_37 : decode mi_X_gone.2.1 37 = .ok (.getfield 179, 3) := by decide +kernel
theorem d_X_gone_40 : decode mi_X_gone.2.1 40 = .ok (.getfield 189, 3) := by decide +kernel
theorem d_X_gone_43 : decode mi_X_gone.2.1 43 = .ok (.ireturn, 1) := by decide +kernel
theorem d_X_personOf_0 : decode mi_X_personOf.2.1 0 = .ok (.iload_n 1, 1) := by decide +kernel
theorem d_X_personOf_1 : decode mi_X_personOf.2.1 1 = .ok (.ifCond .lt 17, 3) := by decide +kernel
theorem d_X_personOf_4 : decode mi_X_personOf.2.1 4 = .ok (.iload_n 1, 1) := by decide +kernel
theorem d_X_personOf_5 : decode mi_X_personOf.2.1 5 = .ok (.aload_n 0, 1) := by decide +kernel
theorem d_X_personOf_6 : decode mi_X_personOf.2.1 6 = .ok (.getfield 12, 3) := by decide +kernel
theorem d_X_personOf_9 : decode mi_X_personOf.2.1 9 = .ok (.getfield 179, 3) := by decide +kernel
theorem d_X_personOf_12 : decode mi_X_personOf.2.1 12 = .ok (.getfield 189, 3) := by decide +kernel
theorem d_X_personOf_15 : decode mi_X_personOf.2.1 15 = .ok (.if_icmp .lt 10, 3) := by decide +kernel
theorem d_X_personOf_18 : decode mi_X_personOf.2.1 18 = .ok (.aload_n 0, 1) := by decide +kernel
theorem d_X_personOf_19 : decode mi_X_personOf.2.1 19 = .ok (.bipush (-32), 2) := by decide +kernel
theorem d_X_personOf_21 : decode mi_X_personOf.2.1 21 = .ok (.invokevirtual 75, 3) := by decide +kernel
theorem d_X_personOf_24 : decode mi_X_personOf.2.1 24 = .ok (.ireturn, 1) := by decide +kernel
theorem d_X_personOf_25 : decode mi_X_personOf.2.1 25 = .ok (.aload_n 0, 1) := by decide +kernel
theorem d_X_personOf_26 : decode mi_X_personOf.2.1 26 = .ok (.getfield 12, 3) := by decide +kernel
theorem d_X_personOf_29 : decode mi_X_personOf.2.1 29 = .ok (.getfield 179, 3) := by decide +kernel
theorem d_X_personOf_32 : decode mi_X_personOf.2.1 32 = .ok (.getfield 202, 3) := by decide +kernel
theorem d_X_personOf_35 : decode mi_X_personOf.2.1 35 = .ok (.iload_n 1, 1) := by decide +kernel
theorem d_X_personOf_36 : decode mi_X_personOf.2.1 36 = .ok (.iaload, 1) := by decide +kernel
theorem d_X_personOf_37 : decode mi_X_personOf.2.1 37 = .ok (.ireturn, 1) := by decide +kernel
theorem d_X_attributes_0 : decode mi_X_attributes.2.1 0 = .ok (.aload_n 0, 1) := by decide +kernel
theorem d_X_attributes_1 : decode mi_X_attributes.2.1 1 = .ok (.getfield 12, 3) := by decide +kernel
theorem d_X_attributes_4 : decode mi_X_attributes.2.1 4 = .ok (.getfield 179, 3) := by decide +kernel
theorem d_X_attributes_7 : decode mi_X_attributes.2.1 7 = .ok (.iload_n 1, 1) := by decide +kernel
theorem d_X_attributes_8 : decode mi_X_attributes.2.1 8 = .ok (.i2l, 1) := by decide +kernel
theorem d_X_attributes_9 : decode mi_X_attributes.2.1 9 = .ok (.invokevirtual 183, 3) := by decide +kernel
theorem d_X_attributes_12 : decode mi_X_attributes.2.1 12 = .ok (.istore_n 2, 1) := by decide +kernel
theorem d_X_attributes_13 : decode mi_X_attributes.2.1 13 = .ok (.iload_n 2, 1) := by decide +kernel
theorem d_X_attributes_14 : decode mi_X_attributes.2.1 14 = .ok (.iconst (-1), 1) := by decide +kernel
theorem d_X_attributes_15 : decode mi_X_attributes.2.1 15 = .ok (.if_icmp .ne 10, 3) := by decide +kernel
theorem d_X_attributes_18 : decode mi_X_attributes.2.1 18 = .ok (.aload_n 0, 1) := by decide +kernel
theorem d_X_attributes_19 : decode mi_X_attributes.2.1 19 = .ok (.bipush (-32), 2) := by decide +kernel
theorem d_X_attributes_21 : decode mi_X_attributes.2.1 21 = .ok (.invokevirtual 75, 3) := by decide +kernel
theorem d_X_attributes_24 : decode mi_X_attributes.2.1 24 = .ok (.ireturn, 1) := by decide +kernel
theorem d_X_attributes_25 : decode mi_X_attributes.2.1 25 = .ok (.aload_n 0, 1) := by decide +kernel
theorem d_X_attributes_26 : decode mi_X_attributes.2.1 26 = .ok (.getfield 12, 3) := by decide +kernel
theorem d_X_attributes_29 : decode mi_X_attributes.2.1 29 = .ok (.getfield 179, 3) := by decide +kernel
theorem d_X_attributes_32 : decode mi_X_attributes.2.1 32 = .ok (.getfield 195, 3) := by decide +kernel
theorem d_X_attributes_35 : decode mi_X_attributes.2.1 35 = .ok (.iload_n 2, 1) := by decide +kernel
theorem d_X_attributes_36 : decode mi_X_attributes.2.1 36 = .ok (.iaload, 1) := by decide +kernel
theorem d_X_attributes_37 : decode mi_X_attributes.2.1 37 = .ok (.ireturn, 1) := by decide +kernel
theorem d_X_bucket_0 : decode mi_X_bucket.2.1 0 = .ok (.iload_n 1, 1) := by decide +kernel
theorem d_X_bucket_1 : decode mi_X_bucket.2.1 1 = .ok (.ifCond .lt 18, 3) := by decide +kernel
theorem d_X_bucket_4 : decode mi_X_bucket.2.1 4 = .ok (.iload_n 1, 1) := by decide +kernel
theorem d_X_bucket_5 : decode mi_X_bucket.2.1 5 = .ok (.sipush 200, 3) := by decide +kernel
theorem d_X_bucket_8 : decode mi_X_bucket.2.1 8 = .ok (.if_icmp .gt 11, 3) := by decide +kernel
theorem d_X_bucket_11 : decode mi_X_bucket.2.1 11 = .ok (.aload_n 0, 1) := by decide +kernel
theorem d_X_bucket_12 : decode mi_X_bucket.2.1 12 = .ok (.iload_n 2, 1) := by decide +kernel
theorem d_X_bucket_13 : decode mi_X_bucket.2.1 13 = .ok (.invokevirtual 176, 3) := by decide +kernel
theorem d_X_bucket_16 : decode mi_X_bucket.2.1 16 = .ok (.ifCond .ne 10, 3) := by decide +kernel
theorem d_X_bucket_19 : decode mi_X_bucket.2.1 19 = .ok (.aload_n 0, 1) := by decide +kernel
theorem d_X_bucket_20 : decode mi_X_bucket.2.1 20 = .ok (.bipush (-32), 2) := by decide +kernel
theorem d_X_bucket_22 : decode mi_X_bucket.2.1 22 = .ok (.invokevirtual 75, 3) := by decide +kernel
theorem d_X_bucket_25 : decode mi_X_bucket.2.1 25 = .ok (.ireturn, 1) := by decide +kernel
theorem d_X_bucket_26 : decode mi_X_bucket.2.1 26 = .ok (.iload_n 1, 1) := by decide +kernel
theorem d_X_bucket_27 : decode mi_X_bucket.2.1 27 = .ok (.iload_n 2, 1) := by decide +kernel
theorem d_X_bucket_28 : decode mi_X_bucket.2.1 28 = .ok (.invokestatic 205, 3) := by decide +kernel
theorem d_X_bucket_31 : decode mi_X_bucket.2.1 31 = .ok (.ireturn, 1) := by decide +kernel
theorem d_X_bucketBy_0 : decode mi_X_bucketBy.2.1 0 = .ok (.iload_n 1, 1) := by decide +kernel
theorem d_X_bucketBy_1 : decode mi_X_bucketBy.2.1 1 = .ok (.bipush 101, 2) := by decide +kernel
theorem d_X_bucketBy_3 : decode mi_X_bucketBy.2.1 3 = .ok (.iload_n 0, 1) := by decide +kernel
theorem d_X_bucketBy_4 : decode mi_X_bucketBy.2.1 4 = .ok (.imul, 1) := by decide +kernel
theorem d_X_bucketBy_5 : decode mi_X_bucketBy.2.1 5 = .ok (.iadd, 1) := by decide +kernel
theorem d_X_bucketBy_6 : decode mi_X_bucketBy.2.1 6 = .ok (.istore_n 2, 1) := by decide +kernel
theorem d_X_bucketBy_7 : decode mi_X_bucketBy.2.1 7 = .ok (.iload_n 2, 1) := by decide +kernel
theorem d_X_bucketBy_8 : decode mi_X_bucketBy.2.1 8 = .ok (.iload_n 2, 1) := by decide +kernel
theorem d_X_bucketBy_9 : decode mi_X_bucketBy.2.1 9 = .ok (.bipush 16, 2) := by decide +kernel
theorem d_X_bucketBy_11 : decode mi_X_bucketBy.2.1 11 = .ok (.iushr, 1) := by decide +kernel
theorem d_X_bucketBy_12 : decode mi_X_bucketBy.2.1 12 = .ok (.ixor, 1) := by decide +kernel
theorem d_X_bucketBy_13 : decode mi_X_bucketBy.2.1 13 = .ok (.ldc_w 447, 3) := by decide +kernel
theorem d_X_bucketBy_16 : decode mi_X_bucketBy.2.1 16 = .ok (.imul, 1) := by decide +kernel
theorem d_X_bucketBy_17 : decode mi_X_bucketBy.2.1 17 = .ok (.istore_n 2, 1) := by decide +kernel
theorem d_X_bucketBy_18 : decode mi_X_bucketBy.2.1 18 = .ok (.iload_n 2, 1) := by decide +kernel
theorem d_X_bucketBy_19 : decode mi_X_bucketBy.2.1 19 = .ok (.iload_n 2, 1) := by decide +kernel
theorem d_X_bucketBy_20 : decode mi_X_bucketBy.2.1 20 = .ok (.bipush 16, 2) := by decide +kernel
theorem d_X_bucketBy_22 : decode mi_X_bucketBy.2.1 22 = .ok (.iushr, 1) := by decide +kernel
theorem d_X_bucketBy_23 : decode mi_X_bucketBy.2.1 23 = .ok (.ixor, 1) := by decide +kernel
theorem d_X_bucketBy_24 : decode mi_X_bucketBy.2.1 24 = .ok (.ldc_w 447, 3) := by decide +kernel
theorem d_X_bucketBy_27 : decode mi_X_bucketBy.2.1 27 = .ok (.imul, 1) := by decide +kernel
theorem d_X_bucketBy_28 : decode mi_X_bucketBy.2.1 28 = .ok (.istore_n 2, 1) := by decide +kernel
theorem d_X_bucketBy_29 : decode mi_X_bucketBy.2.1 29 = .ok (.iload_n 2, 1) := by decide +kernel
theorem d_X_bucketBy_30 : decode mi_X_bucketBy.2.1 30 = .ok (.iload_n 2, 1) := by decide +kernel
theorem d_X_bucketBy_31 : decode mi_X_bucketBy.2.1 31 = .ok (.bipush 16, 2) := by decide +kernel
theorem d_X_bucketBy_33 : decode mi_X_bucketBy.2.1 33 = .ok (.iushr, 1) := by decide +kernel
theorem d_X_bucketBy_34 : decode mi_X_bucketBy.2.1 34 = .ok (.ixor, 1) := by decide +kernel
theorem d_X_bucketBy_35 : decode mi_X_bucketBy.2.1 35 = .ok (.istore_n 2, 1) := by decide +kernel
theorem d_X_bucketBy_36 : decode mi_X_bucketBy.2.1 36 = .ok (.iload_n 2, 1) := by decide +kernel
theorem d_X_bucketBy_37 : decode mi_X_bucketBy.2.1 37 = .ok (.iconst 1, 1) := by decide +kernel
theorem d_X_bucketBy_38 : decode mi_X_bucketBy.2.1 38 = .ok (.iushr, 1) := by decide +kernel
theorem d_X_bucketBy_39 : decode mi_X_bucketBy.2.1 39 = .ok (.sipush 1000, 3) := by decide +kernel
theorem d_X_bucketBy_42 : decode mi_X_bucketBy.2.1 42 = .ok (.irem, 1) := by decide +kernel
theorem d_X_bucketBy_43 : decode mi_X_bucketBy.2.1 43 = .ok (.ireturn, 1) := by decide +kernel
theorem d_X_feature_0 : decode mi_X_feature.2.1 0 = .ok (.iload_n 1, 1) := by decide +kernel
theorem d_X_feature_1 : decode mi_X_feature.2.1 1 = .ok (.iconst 1, 1) := by decide +kernel
theorem d_X_feature_2 : decode mi_X_feature.2.1 2 = .ok (.if_icmp .lt 8, 3) := by decide +kernel
theorem d_X_feature_5 : decode mi_X_feature.2.1 5 = .ok (.iload_n 1, 1) := by decide +kernel
theorem d_X_feature_6 : decode mi_X_feature.2.1 6 = .ok (.iconst 3, 1) := by decide +kernel
theorem d_X_feature_7 : decode mi_X_feature.2.1 7 = .ok (.if_icmp .le 10, 3) := by decide +kernel
theorem d_X_feature_10 : decode mi_X_feature.2.1 10 = .ok (.aload_n 0, 1) := by decide +kernel
theorem d_X_feature_11 : decode mi_X_feature.2.1 11 = .ok (.bipush (-32), 2) := by decide +kernel
theorem d_X_feature_13 : decode mi_X_feature.2.1 13 = .ok (.invokevirtual 75, 3) := by decide +kernel
theorem d_X_feature_16 : decode mi_X_feature.2.1 16 = .ok (.ireturn, 1) := by decide +kernel
theorem d_X_feature_17 : decode mi_X_feature.2.1 17 = .ok (.aload_n 0, 1) := by decide +kernel
theorem d_X_feature_18 : decode mi_X_feature.2.1 18 = .ok (.getfield 12, 3) := by decide +kernel
theorem d_X_feature_21 : decode mi_X_feature.2.1 21 = .ok (.getfield 208, 3) := by decide +kernel
theorem d_X_feature_24 : decode mi_X_feature.2.1 24 = .ok (.bipush 12, 2) := by decide +kernel
theorem d_X_feature_26 : decode mi_X_feature.2.1 26 = .ok (.if_icmp .lt 10, 3) := by decide +kernel
theorem d_X_feature_29 : decode mi_X_feature.2.1 29 = .ok (.aload_n 0, 1) := by decide +kernel
theorem d_X_feature_30 : decode mi_X_feature.2.1 30 = .ok (.bipush (-36), 2) := by decide +kernel
theorem d_X_feature_32 : decode mi_X_feature.2.1 32 = .ok (.invokevirtual 75, 3) := by decide +kernel
theorem d_X_feature_35 : decode mi_X_feature.2.1 35 = .ok (.ireturn, 1) := by decide +kernel
theorem d_X_feature_36 : decode mi_X_feature.2.1 36 = .ok (.aload_n 0, 1) := by decide +kernel
theorem d_X_feature_37 : decode mi_X_feature.2.1 37 = .ok (.getfield 12, 3) := by decide +kernel
theorem d_X_feature_40 : decode mi_X_feature.2.1 40 = .ok (.getfield 208, 3) := by decide +kernel
theorem d_X_feature_43 : decode mi_X_feature.2.1 43 = .ok (.istore_n 2, 1) := by decide +kernel
theorem d_X_feature_44 : decode mi_X_feature.2.1 44 = .ok (.aload_n 0, 1) := by decide +kernel
theorem d_X_feature_45 : decode mi_X_feature.2.1 45 = .ok (.getfield 12, 3) := by decide +kernel
theorem d_X_feature_48 : decode mi_X_feature.2.1 48 = .ok (.getfield 211, 3) := by decide +kernel
theorem d_X_feature_51 : decode mi_X_feature.2.1 51 = .ok (.iload_n 2, 1) := by decide +kernel
theorem d_X_feature_52 : decode mi_X_feature.2.1 52 = .ok (.aaload, 1) := by decide +kernel
theorem d_X_feature_53 : decode mi_X_feature.2.1 53 = .ok (.iload_n 1, 1) := by decide +kernel
theorem d_X_feature_54 : decode mi_X_feature.2.1 54 = .ok (.putfield 215, 3) := by decide +kernel
theorem d_X_feature_57 : decode mi_X_feature.2.1 57 = .ok (.aload_n 0, 1) := by decide +kernel
theorem d_X_feature_58 : decode mi_X_feature.2.1 58 = .ok (.getfield 12, 3) := by decide +kernel
theorem d_X_feature_61 : decode mi_X_feature.2.1 61 = .ok (.dup, 1) := by decide +kernel
theorem d_X_feature_62 : decode mi_X_feature.2.1 62 = .ok (.getfield 208, 3) := by decide +kernel
theorem d_X_feature_65 : decode mi_X_feature.2.1 65 = .ok (.iconst 1, 1) := by decide +kernel
theorem d_X_feature_66 : decode mi_X_feature.2.1 66 = .ok (.iadd, 1) := by decide +kernel
theorem d_X_feature_67 : decode mi_X_feature.2.1 67 = .ok (.putfield 208, 3) := by decide +kernel
theorem d_X_feature_70 : decode mi_X_feature.2.1 70 = .ok (.iload_n 2, 1) := by decide +kernel
theorem d_X_feature_71 : decode mi_X_feature.2.1 71 = .ok (.ireturn, 1) := by decide +kernel
theorem d_X_tell_0 : decode mi_X_tell.2.1 0 = .ok (.aload_n 0, 1) := by decide +kernel
theorem d_X_tell_1 : decode mi_X_tell.2.1 1 = .ok (.iload_n 1, 1) := by decide +kernel
theorem d_X_tell_2 : decode mi_X_tell.2.1 2 = .ok (.invokevirtual 220, 3) := by decide +kernel
theorem d_X_tell_5 : decode mi_X_tell.2.1 5 = .ok (.ifCond .eq 12, 3) := by decide +kernel
theorem d_X_tell_8 : decode mi_X_tell.2.1 8 = .ok (.iload_n 2, 1) := by decide +kernel
theorem d_X_tell_9 : decode mi_X_tell.2.1 9 = .ok (.ifCond .lt 8, 3) := by decide +kernel
theorem d_X_tell_12 : decode mi_X_tell.2.1 12 = .ok (.iload_n 2, 1) := by decide +kernel
theorem d_X_tell_13 : decode mi_X_tell.2.1 13 = .ok (.iconst 2, 1) := by decide +kernel
theorem d_X_tell_14 : decode mi_X_tell.2.1 14 = .ok (.if_icmp .le 10, 3) := by decide +kernel
theorem d_X_tell_17 : decode mi_X_tell.2.1 17 = .ok (.aload_n 0, 1) := by decide +kernel
theorem d_X_tell_18 : decode mi_X_tell.2.1 18 = .ok (.bipush (-32), 2) := by decide +kernel
theorem d_X_tell_20 : decode mi_X_tell.2.1 20 = .ok (.invokevirtual 75, 3) := by decide +kernel
theorem d_X_tell_23 : decode mi_X_tell.2.1 23 = .ok (.ireturn, 1) := by decide +kernel
theorem d_X_tell_24 : decode mi_X_tell.2.1 24 = .ok (.aload_n 0, 1) := by decide +kernel
theorem d_X_tell_25 : decode mi_X_tell.2.1 25 = .ok (.getfield 12, 3) := by decide +kernel
theorem d_X_tell_28 : decode mi_X_tell.2.1 28 = .ok (.getfield 211, 3) := by decide +kernel
theorem d_X_tell_31 : decode mi_X_tell.2.1 31 = .ok (.iload_n 1, 1) := by decide +kernel
theorem d_X_tell_32 : decode mi_X_tell.2.1 32 = .ok (.aaload, 1) := by decide +kernel
theorem d_X_tell_33 : decode mi_X_tell.2.1 33 = .ok (.astore 4, 2) := by decide +kernel
theorem d_X_tell_35 : decode mi_X_tell.2.1 35 = .ok (.iload_n 2, 1) := by decide +kernel
theorem d_X_tell_36 : decode mi_X_tell.2.1 36 = .ok (.iconst 2, 1) := by decide +kernel
theorem d_X_tell_37 : decode mi_X_tell.2.1 37 = .ok (.if_icmp .ne 11, 3) := by decide +kernel
theorem d_X_tell_40 : decode mi_X_tell.2.1 40 = .ok (.aload 4, 2) := by decide +kernel
theorem d_X_tell_42 : decode mi_X_tell.2.1 42 = .ok (.getfield 215, 3) := by decide +kernel
theorem d_X_tell_45 : decode mi_X_tell.2.1 45 = .ok (.goto 4, 3) := by decide +kernel
theorem d_X_tell_48 : decode mi_X_tell.2.1 48 = .ok (.iconst 1, 1) := by decide +kernel
theorem d_X_tell_49 : decode mi_X_tell.2.1 49 = .ok (.istore 5, 2) := by decide +kernel
theorem d_X_tell_51 : decode mi_X_tell.2.1 51 = .ok (.iload_n 3, 1) := by decide +kernel
theorem d_X_tell_52 : decode mi_X_tell.2.1 52 = .ok (.ifCond .lt 9, 3) := by decide +kernel
theorem d_X_tell_55 : decode mi_X_tell.2.1 55 = .ok (.iload_n 3, 1) := by decide +kernel
theorem d_X_tell_56 : decode mi_X_tell.2.1 56 = .ok (.iload 5, 2) := by decide +kernel
theorem d_X_tell_58 : decode mi_X_tell.2.1 58 = .ok (.if_icmp .le 10, 3) := by decide +kernel
theorem d_X_tell_61 : decode mi_X_tell.2.1 61 = .ok (.aload_n 0, 1) := by decide +kernel
theorem d_X_tell_62 : decode mi_X_tell.2.1 62 = .ok (.bipush (-32), 2) := by decide +kernel
theorem d_X_tell_64 : decode mi_X_tell.2.1 64 = .ok (.invokevirtual 75, 3) := by decide +kernel
theorem d_X_tell_67 : decode mi_X_tell.2.1 67 = .ok (.ireturn, 1) := by decide +kernel
theorem d_X_tell_68 : decode mi_X_tell.2.1 68 = .ok (.iload_n 2, 1) := by decide +kernel
theorem d_X_tell_69 : decode mi_X_tell.2.1 69 = .ok (.ifCond .ne 19, 3) := by decide +kernel
theorem d_X_tell_72 : decode mi_X_tell.2.1 72 = .ok (.aload 4, 2) := by decide +kernel
theorem d_X_tell_74 : decode mi_X_tell.2.1 74 = .ok (.getfield 223, 3) := by decide +kernel
theorem d_X_tell_77 : decode mi_X_tell.2.1 77 = .ok (.istore 6, 2) := by decide +kernel
theorem d_X_tell_79 : decode mi_X_tell.2.1 79 = .ok (.aload 4, 2) := by decide +kernel
theorem d_X_tell_81 : decode mi_X_tell.2.1 81 = .ok (.iload_n 3, 1) := by decide +kernel
theorem d_X_tell_82 : decode mi_X_tell.2.1 82 = .ok (.putfield 223, 3) := by decide +kernel
theorem d_X_tell_85 : decode mi_X_tell.2.1 85 = .ok (.goto 37, 3) := by decide +kernel
theorem d_X_tell_88 : decode mi_X_tell.2.1 88 = .ok (.iload_n 2, 1) := by decide +kernel
theorem d_X_tell_89 : decode mi_X_tell.2.1 89 = .ok (.iconst 1, 1) := by decide +kernel
theorem d_X_tell_90 : decode mi_X_tell.2.1 90 = .ok (.if_icmp .ne 19, 3) := by decide +kernel
theorem d_X_tell_93 : decode mi_X_tell.2.1 93 = .ok (.aload 4, 2) := by decide +kernel
theorem d_X_tell_95 : decode mi_X_tell.2.1 95 = .ok (.getfield 226, 3) := by decide +kernel
theorem d_X_tell_98 : decode mi_X_tell.2.1 98 = .ok (.istore 6, 2) := by decide +kernel
theorem d_X_tell_100 : decode mi_X_tell.2.1 100 = .ok (.aload 4, 2) := by decide +kernel
theorem d_X_tell_102 : decode mi_X_tell.2.1 102 = .ok (.iload_n 3, 1) := by decide +kernel
theorem d_X_tell_103 : decode mi_X_tell.2.1 103 = .ok (.putfield 226, 3) := by decide +kernel
theorem d_X_tell_106 : decode mi_X_tell.2.1 106 = .ok (.goto 16, 3) := by decide +kernel
theorem d_X_tell_109 : decode mi_X_tell.2.1 109 = .ok (.aload 4, 2) := by decide +kernel
theorem d_X_tell_111 : decode mi_X_tell.2.1 111 = .ok (.getfield 229, 3) := by decide +kernel
theorem d_X_tell_114 : decode mi_X_tell.2.1 114 = .ok (.istore 6, 2) := by decide +kernel
theorem d_X_tell_116 : decode mi_X_tell.2.1 116 = .ok (.aload 4, 2) := by decide +kernel
theorem d_X_tell_118 : decode mi_X_tell.2.1 118 = .ok (.iload_n 3, 1) := by decide +kernel
theorem d_X_tell_119 : decode mi_X_tell.2.1 119 = .ok (.putfield 229, 3) := by decide +kernel
theorem d_X_tell_122 : decode mi_X_tell.2.1 122 = .ok (.iload 6, 2) := by decide +kernel
theorem d_X_tell_124 : decode mi_X_tell.2.1 124 = .ok (.ireturn, 1) := by decide +kernel
theorem d_X_rule_0 : decode mi_X_rule.2.1 0 = .ok (.aload_n 0, 1) := by decide +kernel
theorem d_X_rule_1 : decode mi_X_rule.2.1 1 = .ok (.getfield 49, 3) := by decide +kernel
theorem d_X_rule_4 : decode mi_X_rule.2.1 4 = .ok (.istore_n 2, 1) := by decide +kernel
theorem d_X_rule_5 : decode mi_X_rule.2.1 5 = .ok (.aload_n 0, 1) := by decide +kernel
theorem d_X_rule_6 : decode mi_X_rule.2.1 6 = .ok (.iconst 0, 1) := by decide +kernel
theorem d_X_rule_7 : decode mi_X_rule.2.1 7 = .ok (.putfield 49, 3) := by decide +kernel
theorem d_X_rule_10 : decode mi_X_rule.2.1 10 = .ok (.aload_n 0, 1) := by decide +kernel
theorem d_X_rule_11 : decode mi_X_rule.2.1 11 = .ok (.iload_n 1, 1) := by decide +kernel
theorem d_X_rule_12 : decode mi_X_rule.2.1 12 = .ok (.invokevirtual 220, 3) := by decide +kernel
theorem d_X_rule_15 : decode mi_X_rule.2.1 15 = .ok (.ifCond .ne 10, 3) := by decide +kernel
theorem d_X_rule_18 : decode mi_X_rule.2.1 18 = .ok (.aload_n 0, 1) := by decide +kernel
theorem d_X_rule_19 : decode mi_X_rule.2.1 19 = .ok (.bipush (-32), 2) := by decide +kernel
theorem d_X_rule_21 : decode mi_X_rule.2.1 21 = .ok (.invokevirtual 75, 3) := by decide +kernel
theorem d_X_rule_24 : decode mi_X_rule.2.1 24 = .ok (.ireturn, 1) := by decide +kernel
theorem d_X_rule_25 : decode mi_X_rule.2.1 25 = .ok (.aload_n 0, 1) := by decide +kernel
theorem d_X_rule_26 : decode mi_X_rule.2.1 26 = .ok (.getfield 12, 3) := by decide +kernel
theorem d_X_rule_29 : decode mi_X_rule.2.1 29 = .ok (.getfield 211, 3) := by decide +kernel
theorem d_X_rule_32 : decode mi_X_rule.2.1 32 = .ok (.iload_n 1, 1) := by decide +kernel
theorem d_X_rule_33 : decode mi_X_rule.2.1 33 = .ok (.aaload, 1) := by decide +kernel
theorem d_X_rule_34 : decode mi_X_rule.2.1 34 = .ok (.astore_n 3, 1) := by decide +kernel
theorem d_X_rule_35 : decode mi_X_rule.2.1 35 = .ok (.aload_n 0, 1) := by decide +kernel
theorem d_X_rule_36 : decode mi_X_rule.2.1 36 = .ok (.getfield 56, 3) := by decide +kernel
theorem d_X_rule_39 : decode mi_X_rule.2.1 39 = .ok (.aload_n 0, 1) := by decide +kernel
theorem d_X_rule_40 : decode mi_X_rule.2.1 40 = .ok (.getfield 46, 3) := by decide +kernel
theorem d_X_rule_43 : decode mi_X_rule.2.1 43 = .ok (.iload_n 2, 1) := by decide +kernel
theorem d_X_rule_44 : decode mi_X_rule.2.1 44 = .ok (.aload_n 3, 1) := by decide +kernel
theorem d_X_rule_45 : decode mi_X_rule.2.1 45 = .ok (.getfield 215, 3) := by decide +kernel
theorem d_X_rule_48 : decode mi_X_rule.2.1 48 = .ok (.invokevirtual 232, 3) := by decide +kernel
theorem d_X_rule_51 : decode mi_X_rule.2.1 51 = .ok (.istore 4, 2) := by decide +kernel
theorem d_X_rule_53 : decode mi_X_rule.2.1 53 = .ok (.iload 4, 2) := by decide +kernel
theorem d_X_rule_55 : decode mi_X_rule.2.1 55 = .ok (.iconst (-1), 1) := by decide +kernel
theorem d_X_rule_56 : decode mi_X_rule.2.1 56 = .ok (.if_icmp .eq 17, 3) := by decide +kernel
theorem d_X_rule_59 : decode mi_X_rule.2.1 59 = .ok (.aload_n 0, 1) := by decide +kernel
theorem d_X_rule_60 : decode mi_X_rule.2.1 60 = .ok (.bipush (-32), 2) := by decide +kernel
theorem d_X_rule_62 : decode mi_X_rule.2.1 62 = .ok (.invokevirtual 75, 3) := by decide +kernel
theorem d_X_rule_65 : decode mi_X_rule.2.1 65 = .ok (.pop, 1) := by decide +kernel
theorem d_X_rule_66 : decode mi_X_rule.2.1 66 = .ok (.sipush (-500), 3) := by decide +kernel
theorem d_X_rule_69 : decode mi_X_rule.2.1 69 = .ok (.iload 4, 2) := by decide +kernel
theorem d_X_rule_71 : decode mi_X_rule.2.1 71 = .ok (.isub, 1) := by decide +kernel
theorem d_X_rule_72 : decode mi_X_rule.2.1 72 = .ok (.ireturn, 1) := by decide +kernel
theorem d_X_rule_73 : decode mi_X_rule.2.1 73 = .ok (.aload_n 3, 1) := by decide +kernel
theorem d_X_rule_74 : decode mi_X_rule.2.1 74 = .ok (.getfield 236, 3) := by decide +kernel
theorem d_X_rule_77 : decode mi_X_rule.2.1 77 = .ok (.bipush 6, 2) := by decide +kernel
theorem d_X_rule_79 : decode mi_X_rule.2.1 79 = .ok (.if_icmp .lt 10, 3) := by decide +kernel
theorem d_X_rule_82 : decode mi_X_rule.2.1 82 = .ok (.aload_n 0, 1) := by decide +kernel
theorem d_X_rule_83 : decode mi_X_rule.2.1 83 = .ok (.bipush (-36), 2) := by decide +kernel
theorem d_X_rule_85 : decode mi_X_rule.2.1 85 = .ok (.invokevirtual 75, 3) := by decide +kernel
theorem d_X_rule_88 : decode mi_X_rule.2.1 88 = .ok (.ireturn, 1) := by decide +kernel
theorem d_X_rule_89 : decode mi_X_rule.2.1 89 = .ok (.aload_n 3, 1) := by decide +kernel
theorem d_X_rule_90 : decode mi_X_rule.2.1 90 = .ok (.getfield 236, 3) := by decide +kernel
theorem d_X_rule_93 : decode mi_X_rule.2.1 93 = .ok (.istore 5, 2) := by decide +kernel
theorem d_X_rule_95 : decode mi_X_rule.2.1 95 = .ok (.aload_n 3, 1) := by decide +kernel
theorem d_X_rule_96 : decode mi_X_rule.2.1 96 = .ok (.getfield 239, 3) := by decide +kernel
theorem d_X_rule_99 : decode mi_X_rule.2.1 99 = .ok (.iload 5, 2) := by decide +kernel
theorem d_X_rule_101 : decode mi_X_rule.2.1 101 = .ok (.aaload, 1) := by decide +kernel
theorem d_X_rule_102 : decode mi_X_rule.2.1 102 = .ok (.aload_n 0, 1) := by decide +kernel
theorem d_X_rule_103 : decode mi_X_rule.2.1 103 = .ok (.getfield 56, 3) := by decide +kernel
theorem d_X_rule_106 : decode mi_X_rule.2.1 106 = .ok (.invokevirtual 243, 3) := by decide +kernel
theorem d_X_rule_109 : decode mi_X_rule.2.1 109 = .ok (.aload_n 0, 1) := by decide +kernel
theorem d_X_rule_110 : decode mi_X_rule.2.1 110 = .ok (.getfield 56, 3) := by decide +kernel
theorem d_X_rule_113 : decode mi_X_rule.2.1 113 = .ok (.getfield 247, 3) := by decide +kernel
theorem d_X_rule_116 : decode mi_X_rule.2.1 116 = .ok (.aload_n 0, 1) := by decide +kernel
theorem d_X_rule_117 : decode mi_X_rule.2.1 117 = .ok (.getfield 56, 3) := by decide +kernel
theorem d_X_rule_120 : decode mi_X_rule.2.1 120 = .ok (.getfield 250, 3) := by decide +kernel
theorem d_X_rule_123 : decode mi_X_rule.2.1 123 = .ok (.invokevirtual 253, 3) := by decide +kernel
theorem d_X_rule_126 : decode mi_X_rule.2.1 126 = .ok (.aload_n 3, 1) := by decide +kernel
theorem d_X_rule_127 : decode mi_X_rule.2.1 127 = .ok (.dup, 1) := by decide +kernel
theorem d_X_rule_128 : decode mi_X_rule.2.1 128 = .ok (.getfield 236, 3) := by decide +kernel
theorem d_X_rule_131 : decode mi_X_rule.2.1 131 = .ok (.iconst 1, 1) := by decide +kernel
theorem d_X_rule_132 : decode mi_X_rule.2.1 132 = .ok (.iadd, 1) := by decide +kernel
theorem d_X_rule_133 : decode mi_X_rule.2.1 133 = .ok (.putfield 236, 3) := by decide +kernel
theorem d_X_rule_136 : decode mi_X_rule.2.1 136 = .ok (.iload 5, 2) := by decide +kernel
theorem d_X_rule_138 : decode mi_X_rule.2.1 138 = .ok (.ireturn, 1) := by decide +kernel
theorem d_X_drop_0 : decode mi_X_drop.2.1 0 = .ok (.aload_n 0, 1) := by decide +kernel
theorem d_X_drop_1 : decode mi_X_drop.2.1 1 = .ok (.iload_n 1, 1) := by decide +kernel
theorem d_X_drop_2 : decode mi_X_drop.2.1 2 = .ok (.iload_n 2, 1) := by decide +kernel
theorem d_X_drop_3 : decode mi_X_drop.2.1 3 = .ok (.invokevirtual 122, 3) := by decide +kernel
theorem d_X_drop_6 : decode mi_X_drop.2.1 6 = .ok (.ifCond .ne 10, 3) := by decide +kernel
theorem d_X_drop_9 : decode mi_X_drop.2.1 9 = .ok (.aload_n 0, 1) := by decide +kernel
theorem d_X_drop_10 : decode mi_X_drop.2.1 10 = .ok (.bipush (-32), 2) := by decide +kernel
theorem d_X_drop_12 : decode mi_X_drop.2.1 12 = .ok (.invokevirtual 75, 3) := by decide +kernel
theorem d_X_drop_15 : decode mi_X_drop.2.1 15 = .ok (.ireturn, 1) := by decide +kernel
theorem d_X_drop_16 : decode mi_X_drop.2.1 16 = .ok (.aload_n 0, 1) := by decide +kernel
theorem d_X_drop_17 : decode mi_X_drop.2.1 17 = .ok (.getfield 12, 3) := by decide +kernel
theorem d_X_drop_20 : decode mi_X_drop.2.1 20 = .ok (.getfield 211, 3) := by decide +kernel
theorem d_X_drop_23 : decode mi_X_drop.2.1 23 = .ok (.iload_n 1, 1) := by decide +kernel
theorem d_X_drop_24 : decode mi_X_drop.2.1 24 = .ok (.aaload, 1) := by decide +kernel
theorem d_X_drop_25 : decode mi_X_drop.2.1 25 = .ok (.astore_n 3, 1) := by decide +kernel
theorem d_X_drop_26 : decode mi_X_drop.2.1 26 = .ok (.aload_n 3, 1) := by decide +kernel
theorem d_X_drop_27 : decode mi_X_drop.2.1 27 = .ok (.iload_n 2, 1) := by decide +kernel
theorem d_X_drop_28 : decode mi_X_drop.2.1 28 = .ok (.invokevirtual 257, 3) := by decide +kernel
theorem d_X_drop_31 : decode mi_X_drop.2.1 31 = .ok (.aload_n 3, 1) := by decide +kernel
theorem d_X_drop_32 : decode mi_X_drop.2.1 32 = .ok (.getfield 236, 3) := by decide +kernel
theorem d_X_drop_35 : decode mi_X_drop.2.1 35 = .ok (.ireturn, 1) := by decide +kernel
theorem d_X_part_0 : decode mi_X_part.2.1 0 = .ok (.aload_n 0, 1) := by decide +kernel
theorem d_X_part_1 : decode mi_X_part.2.1 1 = .ok (.iload_n 1, 1) := by decide +kernel
theorem d_X_part_2 : decode mi_X_part.2.1 2 = .ok (.iload_n 2, 1) := by decide +kernel
theorem d_X_part_3 : decode mi_X_part.2.1 3 = .ok (.iload_n 3, 1) := by decide +kernel
theorem d_X_part_4 : decode mi_X_part.2.1 4 = .ok (.invokevirtual 260, 3) := by decide +kernel
theorem d_X_part_7 : decode mi_X_part.2.1 7 = .ok (.ifCond .eq 12, 3) := by decide +kernel
theorem d_X_part_10 : decode mi_X_part.2.1 10 = .ok (.aload_n 0, 1) := by decide +kernel
theorem d_X_part_11 : decode mi_X_part.2.1 11 = .ok (.iload 4, 2) := by decide +kernel
theorem d_X_part_13 : decode mi_X_part.2.1 13 = .ok (.invokevirtual 264, 3) := by decide +kernel
theorem d_X_part_16 : decode mi_X_part.2.1 16 = .ok (.ifCond .ne 10, 3) := by decide +kernel
theorem d_X_part_19 : decode mi_X_part.2.1 19 = .ok (.aload_n 0, 1) := by decide +kernel
theorem d_X_part_20 : decode mi_X_part.2.1 20 = .ok (.bipush (-32), 2) := by decide +kernel
theorem d_X_part_22 : decode mi_X_part.2.1 22 = .ok (.invokevirtual 75, 3) := by decide +kernel
theorem d_X_part_25 : decode mi_X_part.2.1 25 = .ok (.ireturn, 1) := by decide +kernel
theorem d_X_part_26 : decode mi_X_part.2.1 26 = .ok (.aload_n 0, 1) := by decide +kernel
theorem d_X_part_27 : decode mi_X_part.2.1 27 = .ok (.iload_n 1, 1) := by decide +kernel
theorem d_X_part_28 : decode mi_X_part.2.1 28 = .ok (.iload_n 2, 1) := by decide +kernel
theorem d_X_part_29 : decode mi_X_part.2.1 29 = .ok (.invokevirtual 125, 3) := by decide +kernel
theorem d_X_part_32 : decode mi_X_part.2.1 32 = .ok (.astore 5, 2) := by decide +kernel
theorem d_X_part_34 : decode mi_X_part.2.1 34 = .ok (.aload 5, 2) := by decide +kernel
theorem d_X_part_36 : decode mi_X_part.2.1 36 = .ok (.invokevirtual 267, 3) := by decide +kernel
theorem d_X_part_39 : decode mi_X_part.2.1 39 = .ok (.ifCond .eq 10, 3) := by decide +kernel
theorem d_X_part_42 : decode mi_X_part.2.1 42 = .ok (.aload_n 0, 1) := by decide +kernel
theorem d_X_part_43 : decode mi_X_part.2.1 43 = .ok (.bipush (-35), 2) := by decide +kernel
theorem d_X_part_45 : decode mi_X_part.2.1 45 = .ok (.invokevirtual 75, 3) := by decide +kernel
theorem d_X_part_48 : decode mi_X_part.2.1 48 = .ok (.ireturn, 1) := by decide +kernel
theorem d_X_part_49 : decode mi_X_part.2.1 49 = .ok (.aload 5, 2) := by decide +kernel
theorem d_X_part_51 : decode mi_X_part.2.1 51 = .ok (.getfield 270, 3) := by decide +kernel
theorem d_X_part_54 : decode mi_X_part.2.1 54 = .ok (.iload_n 3, 1) := by decide +kernel
theorem d_X_part_55 : decode mi_X_part.2.1 55 = .ok (.iconst 1, 1) := by decide +kernel
theorem d_X_part_56 : decode mi_X_part.2.1 56 = .ok (.isub, 1) := by decide +kernel
theorem d_X_part_57 : decode mi_X_part.2.1 57 = .ok (.iaload, 1) := by decide +kernel
theorem d_X_part_58 : decode mi_X_part.2.1 58 = .ok (.istore 6, 2) := by decide +kernel
theorem d_X_part_60 : decode mi_X_part.2.1 60 = .ok (.aload 5, 2) := by decide +kernel
theorem d_X_part_62 : decode mi_X_part.2.1 62 = .ok (.getfield 270, 3) := by decide +kernel
theorem d_X_part_65 : decode mi_X_part.2.1 65 = .ok (.iload_n 3, 1) := by decide +kernel
theorem d_X_part_66 : decode mi_X_part.2.1 66 = .ok (.iconst 1, 1) := by decide +kernel
theorem d_X_part_67 : decode mi_X_part.2.1 67 = .ok (.isub, 1) := by decide +kernel
theorem d_X_part_68 : decode mi_X_part.2.1 68 = .ok (.iload 4, 2) := by decide +kernel
theorem d_X_part_70 : decode mi_X_part.2.1 70 = .ok (.iastore, 1) := by decide +kernel
theorem d_X_part_71 : decode mi_X_part.2.1 71 = .ok (.iload 6, 2) := by decide +kernel
theorem d_X_part_73 : decode mi_X_part.2.1 73 = .ok (.ireturn, 1) := by decide +kernel
theorem d_X_isPlaceOfPart_0 : decode mi_X_isPlaceOfPart.2.1 0 = .ok (.aload_n 0, 1) := by decide +kernel
theorem d_X_isPlaceOfPart_1 : decode mi_X_isPlaceOfPart.2.1 1 = .ok (.iload_n 1, 1) := by decide +kernel
theorem d_X_isPlaceOfPart_2 : decode mi_X_isPlaceOfPart.2.1 2 = .ok (.iload_n 2, 1) := by decide +kernel
theorem d_X_isPlaceOfPart_3 : decode mi_X_isPlaceOfPart.2.1 3 = .ok (.invokevirtual 122, 3) := by decide +kernel
theorem d_X_isPlaceOfPart_6 : decode mi_X_isPlaceOfPart.2.1 6 = .ok (.ifCond .eq 20, 3) := by decide +kernel
theorem d_X_isPlaceOfPart_9 : decode mi_X_isPlaceOfPart.2.1 9 = .ok (.aload_n 0, 1) := by decide +kernel
theorem d_X_isPlaceOfPart_10 : decode mi_X_isPlaceOfPart.2.1 10 = .ok (.iload_n 1, 1) := by decide +kernel
theorem d_X_isPlaceOfPart_11 : decode mi_X_isPlaceOfPart.2.1 11 = .ok (.iload_n 3, 1) := by decide +kernel
theorem d_X_isPlaceOfPart_12 : decode mi_X_isPlaceOfPart.2.1 12 = .ok (.invokevirtual 271, 3) := by decide +kernel
theorem d_X_isPlaceOfPart_15 : decode mi_X_isPlaceOfPart.2.1 15 = .ok (.ifCond .eq 11, 3) := by decide +kernel
theorem d_X_isPlaceOfPart_18 : decode mi_X_isPlaceOfPart.2.1 18 = .ok (.iload_n 3, 1) := by decide +kernel
theorem d_X_isPlaceOfPart_19 : decode mi_X_isPlaceOfPart.2.1 19 = .ok (.ifCond .le 7, 3) := by decide +kernel
theorem d_X_isPlaceOfPart_22 : decode mi_X_isPlaceOfPart.2.1 22 = .ok (.iconst 1, 1) := by decide +kernel
theorem d_X_isPlaceOfPart_23 : decode mi_X_isPlaceOfPart.2.1 23 = .ok (.goto 4, 3) := by decide +kernel
theorem d_X_isPlaceOfPart_26 : decode mi_X_isPlaceOfPart.2.1 26 = .ok (.iconst 0, 1) := by decide +kernel
theorem d_X_isPlaceOfPart_27 : decode mi_X_isPlaceOfPart.2.1 27 = .ok (.ireturn, 1) := by decide +kernel
theorem d_X_isVariant_0 : decode mi_X_isVariant.2.1 0 = .ok (.aload_n 0, 1) := by decide +kernel
theorem d_X_isVariant_1 : decode mi_X_isVariant.2.1 1 = .ok (.iload_n 1, 1) := by decide +kernel
theorem d_X_isVariant_2 : decode mi_X_isVariant.2.1 2 = .ok (.invokevirtual 220, 3) := by decide +kernel
theorem d_X_isVariant_5 : decode mi_X_isVariant.2.1 5 = .ok (.ifCond .eq 27, 3) := by decide +kernel
theorem d_X_isVariant_8 : decode mi_X_isVariant.2.1 8 = .ok (.iload_n 2, 1) := by decide +kernel
theorem d_X_isVariant_9 : decode mi_X_isVariant.2.1 9 = .ok (.ifCond .lt 23, 3) := by decide +kernel
theorem d_X_isVariant_12 : decode mi_X_isVariant.2.1 12 = .ok (.iload_n 2, 1) := by decide +kernel
theorem d_X_isVariant_13 : decode mi_X_isVariant.2.1 13 = .ok (.aload_n 0, 1) := by decide +kernel
theorem d_X_isVariant_14 : decode mi_X_isVariant.2.1 14 = .ok (.getfield 12, 3) := by decide +kernel
theorem d_X_isVariant_17 : decode mi_X_isVariant.2.1 17 = .ok (.getfield 211, 3) := by decide +kernel
theorem d_X_isVariant_20 : decode mi_X_isVariant.2.1 20 = .ok (.iload_n 1, 1) := by decide +kernel
theorem d_X_isVariant_21 : decode mi_X_isVariant.2.1 21 = .ok (.aaload, 1) := by decide +kernel
theorem d_X_isVariant_22 : decode mi_X_isVariant.2.1 22 = .ok (.getfield 215, 3) := by decide +kernel
theorem d_X_isVariant_25 : decode mi_X_isVariant.2.1 25 = .ok (.if_icmp .gt 7, 3) := by decide +kernel
theorem d_X_isVariant_28 : decode mi_X_isVariant.2.1 28 = .ok (.iconst 1, 1) := by decide +kernel
theorem d_X_isVariant_29 : decode mi_X_isVariant.2.1 29 = .ok (.goto 4, 3) := by decide +kernel
theorem d_X_isVariant_32 : decode mi_X_isVariant.2.1 32 = .ok (.iconst 0, 1) := by decide +kernel
theorem d_X_isVariant_33 : decode mi_X_isVariant.2.1 33 = .ok (.ireturn, 1) := by decide +kernel
theorem d_X_isPart_0 : decode mi_X_isPart.2.1 0 = .ok (.iload_n 1, 1) := by decide +kernel
theorem d_X_isPart_1 : decode mi_X_isPart.2.1 1 = .ok (.ifCond .lt 14, 3) := by decide +kernel
theorem d_X_isPart_4 : decode mi_X_isPart.2.1 4 = .ok (.iload_n 1, 1) := by decide +kernel
theorem d_X_isPart_5 : decode mi_X_isPart.2.1 5 = .ok (.sipush 333, 3) := by decide +kernel
theorem d_X_isPart_8 : decode mi_X_isPart.2.1 8 = .ok (.if_icmp .gt 7, 3) := by decide +kernel
theorem d_X_isPart_11 : decode mi_X_isPart.2.1 11 = .ok (.iconst 1, 1) := by decide +kernel
theorem d_X_isPart_12 : decode mi_X_isPart.2.1 12 = .ok (.goto 4, 3) := by decide +kernel
theorem d_X_isPart_15 : decode mi_X_isPart.2.1 15 = .ok (.iconst 0, 1) := by decide +kernel
theorem d_X_isPart_16 : decode mi_X_isPart.2.1 16 = .ok (.ireturn, 1) := by decide +kernel
theorem d_X_needs_0 : decode mi_X_needs.2.1 0 = .ok (.aload_n 0, 1) := by decide +kernel
theorem d_X_needs_1 : decode mi_X_needs.2.1 1 = .ok (.iload_n 1, 1) := by decide +kernel
theorem d_X_needs_2 : decode mi_X_needs.2.1 2 = .ok (.invokevirtual 220, 3) := by decide +kernel
theorem d_X_needs_5 : decode mi_X_needs.2.1 5 = .ok (.ifCond .eq 12, 3) := by decide +kernel
theorem d_X_needs_8 : decode mi_X_needs.2.1 8 = .ok (.aload_n 0, 1) := by decide +kernel
theorem d_X_needs_9 : decode mi_X_needs.2.1 9 = .ok (.iload_n 2, 1) := by decide +kernel
theorem d_X_needs_10 : decode mi_X_needs.2.1 10 = .ok (.iload_n 3, 1) := by decide +kernel
theorem d_X_needs_11 : decode mi_X_needs.2.1 11 = .ok (.invokevirtual 271, 3) := by decide +kernel
theorem d_X_needs_14 : decode mi_X_needs.2.1 14 = .ok (.ifCond .ne 10, 3) := by decide +kernel
theorem d_X_needs_17 : decode mi_X_needs.2.1 17 = .ok (.aload_n 0, 1) := by decide +kernel
theorem d_X_needs_18 : decode mi_X_needs.2.1 18 = .ok (.bipush (-32), 2) := by decide +kernel
theorem d_X_needs_20 : decode mi_X_needs.2.1 20 = .ok (.invokevirtual 75, 3) := by decide +kernel
theorem d_X_needs_23 : decode mi_X_needs.2.1 23 = .ok (.ireturn, 1) := by decide +kernel
theorem d_X_needs_24 : decode mi_X_needs.2.1 24 = .ok (.iload_n 1, 1) := by decide +kernel
theorem d_X_needs_25 : decode mi_X_needs.2.1 25 = .ok (.iload_n 2, 1) := by decide +kernel
theorem d_X_needs_26 : decode mi_X_needs.2.1 26 = .ok (.if_icmp .eq 18, 3) := by decide +kernel
theorem d_X_needs_29 : decode mi_X_needs.2.1 29 = .ok (.aload_n 0, 1) := by decide +kernel
theorem d_X_needs_30 : decode mi_X_needs.2.1 30 = .ok (.getfield 12, 3) := by decide +kernel
theorem d_X_needs_33 : decode mi_X_needs.2.1 33 = .ok (.iload_n 2, 1) := by decide +kernel
theorem d_X_needs_34 : decode mi_X_needs.2.1 34 = .ok (.invokevirtual 274, 3) := by decide +kernel
theorem d_X_needs_37 : decode mi_X_needs.2.1 37 = .ok (.iload_n 1, 1) := by decide +kernel
theorem d_X_needs_38 : decode mi_X_needs.2.1 38 = .ok (.invokestatic 277, 3) := by decide +kernel
theorem d_X_needs_41 : decode mi_X_needs.2.1 41 = .ok (.ifCond .eq 10, 3) := by decide +kernel
theorem d_X_needs_44 : decode mi_X_needs.2.1 44 = .ok (.aload_n 0, 1) := by decide +kernel
theorem d_X_needs_45 : decode mi_X_needs.2.1 45 = .ok (.bipush (-35), 2) := by decide +kernel
theorem d_X_needs_47 : decode mi_X_needs.2.1 47 = .ok (.invokevirtual 75, 3) := by decide +kernel
theorem d_X_needs_50 : decode mi_X_needs.2.1 50 = .ok (.ireturn, 1) := by decide +kernel
theorem d_X_needs_51 : decode mi_X_needs.2.1 51 = .ok (.aload_n 0, 1) := by decide +kernel
theorem d_X_needs_52 : decode mi_X_needs.2.1 52 = .ok (.getfield 12, 3) := by decide +kernel
theorem d_X_needs_55 : decode mi_X_needs.2.1 55 = .ok (.getfield 211, 3) := by decide +kernel
theorem d_X_needs_58 : decode mi_X_needs.2.1 58 = .ok (.iload_n 1, 1) := by decide +kernel
theorem d_X_needs_59 : decode mi_X_needs.2.1 59 = .ok (.aaload, 1) := by decide +kernel
theorem d_X_needs_60 : decode mi_X_needs.2.1 60 = .ok (.astore 4, 2) := by decide +kernel
theorem d_X_needs_62 : decode mi_X_needs.2.1 62 = .ok (.aload 4, 2) := by decide +kernel
theorem d_X_needs_64 : decode mi_X_needs.2.1 64 = .ok (.getfield 280, 3) := by decide +kernel
theorem d_X_needs_67 : decode mi_X_needs.2.1 67 = .ok (.iconst 3, 1) := by decide +kernel
theorem d_X_needs_68 : decode mi_X_needs.2.1 68 = .ok (.if_icmp .lt 10, 3) := by decide +kernel
theorem d_X_needs_71 : decode mi_X_needs.2.1 71 = .ok (.aload_n 0, 1) := by decide +kernel
theorem d_X_needs_72 : decode mi_X_needs.2.1 72 = .ok (.bipush (-36), 2) := by decide +kernel
theorem d_X_needs_74 : decode mi_X_needs.2.1 74 = .ok (.invokevirtual 75, 3) := by decide +kernel
theorem d_X_needs_77 : decode mi_X_needs.2.1 77 = .ok (.ireturn, 1) := by decide +kernel
theorem d_X_needs_78 : decode mi_X_needs.2.1 78 = .ok (.aload 4, 2) := by decide +kernel
theorem d_X_needs_80 : decode mi_X_needs.2.1 80 = .ok (.iload_n 2, 1) := by decide +kernel
theorem d_X_needs_81 : decode mi_X_needs.2.1 81 = .ok (.iload_n 3, 1) := by decide +kernel
theorem d_X_needs_82 : decode mi_X_needs.2.1 82 = .ok (.invokevirtual 283, 3) := by decide +kernel
theorem d_X_needs_85 : decode mi_X_needs.2.1 85 = .ok (.aload 4, 2) := by decide +kernel
theorem d_X_needs_87 : decode mi_X_needs.2.1 87 = .ok (.getfield 280, 3) := by decide +kernel
theorem d_X_needs_90 : decode mi_X_needs.2.1 90 = .ok (.ireturn, 1) := by decide +kernel
theorem d_X_hasBit_0 : decode mi_X_hasBit.2.1 0 = .ok (.iload_n 0, 1) := by decide +kernel
theorem d_X_hasBit_1 : decode mi_X_hasBit.2.1 1 = .ok (.iload_n 1, 1) := by decide +kernel
theorem d_X_hasBit_2 : decode mi_X_hasBit.2.1 2 = .ok (.iushr, 1) := by decide +kernel
theorem d_X_hasBit_3 : decode mi_X_hasBit.2.1 3 = .ok (.iconst 1, 1) := by decide +kernel
theorem d_X_hasBit_4 : decode mi_X_hasBit.2.1 4 = .ok (.iand, 1) := by decide +kernel
theorem d_X_hasBit_5 : decode mi_X_hasBit.2.1 5 = .ok (.iconst 1, 1) := by decide +kernel
theorem d_X_hasBit_6 : decode mi_X_hasBit.2.1 6 = .ok (.if_icmp .ne 7, 3) := by decide +kernel
theorem d_X_hasBit_9 : decode mi_X_hasBit.2.1 9 = .ok (.iconst 1, 1) := by decide +kernel
theorem d_X_hasBit_10 : decode mi_X_hasBit.2.1 10 = .ok (.goto 4, 3) := by decide +kernel
theorem d_X_hasBit_13 : decode mi_X_hasBit.2.1 13 = .ok (.iconst 0, 1) := by decide +kernel
theorem d_X_hasBit_14 : decode mi_X_hasBit.2.1 14 = .ok (.ireturn, 1) := by decide +kernel
theorem d_X_free_0 : decode mi_X_free.2.1 0 = .ok (.aload_n 0, 1) := by decide +kernel
theorem d_X_free_1 : decode mi_X_free.2.1 1 = .ok (.iload_n 1, 1) := by decide +kernel
theorem d_X_free_2 : decode mi_X_free.2.1 2 = .ok (.invokevirtual 220, 3) := by decide +kernel
theorem d_X_free_5 : decode mi_X_free.2.1 5 = .ok (.ifCond .ne 10, 3) := by decide +kernel
theorem d_X_free_8 : decode mi_X_free.2.1 8 = .ok (.aload_n 0, 1) := by decide +kernel
theorem d_X_free_9 : decode mi_X_free.2.1 9 = .ok (.bipush (-32), 2) := by decide +kernel
theorem d_X_free_11 : decode mi_X_free.2.1 11 = .ok (.invokevirtual 75, 3) := by decide +kernel
theorem d_X_free_14 : decode mi_X_free.2.1 14 = .ok (.ireturn, 1) := by decide +kernel
theorem d_X_free_15 : decode mi_X_free.2.1 15 = .ok (.aload_n 0, 1) := by decide +kernel
theorem d_X_free_16 : decode mi_X_free.2.1 16 = .ok (.getfield 12, 3) := by decide +kernel
theorem d_X_free_19 : decode mi_X_free.2.1 19 = .ok (.getfield 211, 3) := by decide +kernel
theorem d_X_free_22 : decode mi_X_free.2.1 22 = .ok (.iload_n 1, 1) := by decide +kernel
theorem d_X_free_23 : decode mi_X_free.2.1 23 = .ok (.aaload, 1) := by decide +kernel
theorem d_X_free_24 : decode mi_X_free.2.1 24 = .ok (.getfield 280, 3) := by decide +kernel
theorem d_X_free_27 : decode mi_X_free.2.1 27 = .ok (.istore_n 2, 1) := by decide +kernel
theorem d_X_free_28 : decode mi_X_free.2.1 28 = .ok (.aload_n 0, 1) := by decide +kernel
theorem d_X_free_29 : decode mi_X_free.2.1 29 = .ok (.getfield 12, 3) := by decide +kernel
theorem d_X_free_32 : decode mi_X_free.2.1 32 = .ok (.getfield 211, 3) := by decide +kernel
theorem d_X_free_35 : decode mi_X_free.2.1 35 = .ok (.iload_n 1, 1) := by decide +kernel
theorem d_X_free_36 : decode mi_X_free.2.1 36 = .ok (.aaload, 1) := by decide +kernel
theorem d_X_free_37 : decode mi_X_free.2.1 37 = .ok (.iconst 0, 1) := by decide +kernel
theorem d_X_free_38 : decode mi_X_free.2.1 38 = .ok (.putfield 280, 3) := by decide +kernel
theorem d_X_free_41 : decode mi_X_free.2.1 41 = .ok (.iload_n 2, 1) := by decide +kernel
theorem d_X_free_42 : decode mi_X_free.2.1 42 = .ok (.ireturn, 1) := by decide +kernel
theorem d_X_override_0 : decode mi_X_override.2.1 0 = .ok (.aload_n 0, 1) := by decide +kernel
theorem d_X_override_1 : decode mi_X_override.2.1 1 = .ok (.getfield 12, 3) := by decide +kernel
theorem d_X_override_4 : decode mi_X_override.2.1 4 = .ok (.getfield 179, 3) := by decide +kernel
theorem d_X_override_7 : decode mi_X_override.2.1 7 = .ok (.iload_n 2, 1) := by decide +kernel
theorem d_X_override_8 : decode mi_X_override.2.1 8 = .ok (.i2l, 1) := by decide +kernel
theorem d_X_override_9 : decode mi_X_override.2.1 9 = .ok (.invokevirtual 183, 3) := by decide +kernel
theorem d_X_override_12 : decode mi_X_override.2.1 12 = .ok (.istore 4, 2) := by decide +kernel
theorem d_X_override_14 : decode mi_X_override.2.1 14 = .ok (.iload 4, 2) := by decide +kernel
theorem d_X_override_16 : decode mi_X_override.2.1 16 = .ok (.iconst (-1), 1) := by decide +kernel
theorem d_X_override_17 : decode mi_X_override.2.1 17 = .ok (.if_icmp .eq 11, 3) := by decide +kernel
theorem d_X_override_20 : decode mi_X_override.2.1 20 = .ok (.aload_n 0, 1) := by decide +kernel
theorem d_X_override_21 : decode mi_X_override.2.1 21 = .ok (.iload_n 1, 1) := by decide +kernel
theorem d_X_override_22 : decode mi_X_override.2.1 22 = .ok (.invokevirtual 220, 3) := by decide +kernel
theorem d_X_override_25 : decode mi_X_override.2.1 25 = .ok (.ifCond .ne 10, 3) := by decide +kernel
theorem d_X_override_28 : decode mi_X_override.2.1 28 = .ok (.aload_n 0, 1) := by decide +kernel
theorem d_X_override_29 : decode mi_X_override.2.1 29 = .ok (.bipush (-32), 2) := by decide +kernel
theorem d_X_override_31 : decode mi_X_override.2.1 31 = .ok (.invokevirtual 75, 3) := by decide +kernel
theorem d_X_override_34 : decode mi_X_override.2.1 34 = .ok (.ireturn, 1) := by decide +kernel
theorem d_X_override_35 : decode mi_X_override.2.1 35 = .ok (.iload_n 3, 1) := by decide +kernel
theorem d_X_override_36 : decode mi_X_override.2.1 36 = .ok (.iconst (-1), 1) := by decide +kernel
theorem d_X_override_37 : decode mi_X_override.2.1 37 = .ok (.if_icmp .eq 19, 3) := by decide +kernel
theorem d_X_override_40 : decode mi_X_override.2.1 40 = .ok (.aload_n 0, 1) := by decide +kernel
theorem d_X_override_41 : decode mi_X_override.2.1 41 = .ok (.iload_n 1, 1) := by decide +kernel
theorem d_X_override_42 : decode mi_X_override.2.1 42 = .ok (.iload_n 3, 1) := by decide +kernel
theorem d_X_override_43 : decode mi_X_override.2.1 43 = .ok (.invokevirtual 271, 3) := by decide +kernel
theorem d_X_override_46 : decode mi_X_override.2.1 46 = .ok (.ifCond .ne 10, 3) := by decide +kernel
theorem d_X_override_49 : decode mi_X_override.2.1 49 = .ok (.aload_n 0, 1) := by decide +kernel
theorem d_X_override_50 : decode mi_X_override.2.1 50 = .ok (.bipush (-32), 2) := by decide +kernel
theorem d_X_override_52 : decode mi_X_override.2.1 52 = .ok (.invokevirtual 75, 3) := by decide +kernel
theorem d_X_override_55 : decode mi_X_override.2.1 55 = .ok (.ireturn, 1) := by decide +kernel
theorem d_X_override_56 : decode mi_X_override.2.1 56 = .ok (.aload_n 0, 1) := by decide +kernel
theorem d_X_override_57 : decode mi_X_override.2.1 57 = .ok (.getfield 12, 3) := by decide +kernel
theorem d_X_override_60 : decode mi_X_override.2.1 60 = .ok (.getfield 211, 3) := by decide +kernel
theorem d_X_override_63 : decode mi_X_override.2.1 63 = .ok (.iload_n 1, 1) := by decide +kernel
theorem d_X_override_64 : decode mi_X_override.2.1 64 = .ok (.aaload, 1) := by decide +kernel
theorem d_X_override_65 : decode mi_X_override.2.1 65 = .ok (.astore 5, 2) := by decide +kernel
theorem d_X_override_67 : decode mi_X_override.2.1 67 = .ok (.aload 5, 2) := by decide +kernel
theorem d_X_override_69 : decode mi_X_override.2.1 69 = .ok (.getfield 286, 3) := by decide +kernel
theorem d_X_override_72 : decode mi_X_override.2.1 72 = .ok (.iload 4, 2) := by decide +kernel
theorem d_X_override_74 : decode mi_X_override.2.1 74 = .ok (.iaload, 1) := by decide +kernel
theorem d_X_override_75 : decode mi_X_override.2.1 75 = .ok (.istore 6, 2) := by decide +kernel
theorem d_X_override_77 : decode mi_X_override.2.1 77 = .ok (.iload 6, 2) := by decide +kernel
theorem d_X_override_79 : decode mi_X_override.2.1 79 = .ok (.iconst (-1), 1) := by decide +kernel
theorem d_X_override_80 : decode mi_X_override.2.1 80 = .ok (.if_icmp .ne 28, 3) := by decide +kernel
theorem d_X_override_83 : decode mi_X_override.2.1 83 = .ok (.iload_n 3, 1) := by decide +kernel
theorem d_X_override_84 : decode mi_X_override.2.1 84 = .ok (.iconst (-1), 1) := by decide +kernel
theorem d_X_override_85 : decode mi_X_override.2.1 85 = .ok (.if_icmp .eq 23, 3) := by decide +kernel
theorem d_X_override_88 : decode mi_X_override.2.1 88 = .ok (.aload 5, 2) := by decide +kernel
theorem d_X_override_90 : decode mi_X_override.2.1 90 = .ok (.getfield 286, 3) := by decide +kernel
theorem d_X_override_93 : decode mi_X_override.2.1 93 = .ok (.invokestatic 289, 3) := by decide +kernel
theorem d_X_override_96 : decode mi_X_override.2.1 96 = .ok (.bipush 8, 2) := by decide +kernel
theorem d_X_override_98 : decode mi_X_override.2.1 98 = .ok (.if_icmp .lt 10, 3) := by decide +kernel
theorem d_X_override_101 : decode mi_X_override.2.1 101 = .ok (.aload_n 0, 1) := by decide +kernel
theorem d_X_override_102 : decode mi_X_override.2.1 102 = .ok (.bipush (-36), 2) := by decide +kernel
theorem d_X_override_104 : decode mi_X_override.2.1 104 = .ok (.invokevirtual 75, 3) := by decide +kernel
theorem d_X_override_107 : decode mi_X_override.2.1 107 = .ok (.ireturn, 1) := by decide +kernel
theorem d_X_override_108 : decode mi_X_override.2.1 108 = .ok (.aload 5, 2) := by decide +kernel
theorem d_X_override_110 : decode mi_X_override.2.1 110 = .ok (.getfield 286, 3) := by decide +kernel
theorem d_X_override_113 : decode mi_X_override.2.1 113 = .ok (.iload 4, 2) := by decide +kernel
theorem d_X_override_115 : decode mi_X_override.2.1 115 = .ok (.iload_n 3, 1) := by decide +kernel
theorem d_X_override_116 : decode mi_X_override.2.1 116 = .ok (.iastore, 1) := by decide +kernel
theorem d_X_override_117 : decode mi_X_override.2.1 117 = .ok (.iload 6, 2) := by decide +kernel
theorem d_X_override_119 : decode mi_X_override.2.1 119 = .ok (.ireturn, 1) := by decide +kernel
theorem d_X_countSome_0 : decode mi_X_countSome.2.1 0 = .ok (.iconst 0, 1) := by decide +kernel
theorem d_X_countSome_1 : decode mi_X_countSome.2.1 1 = .ok (.istore_n 1, 1) := by decide +kernel
theorem d_X_countSome_2 : decode mi_X_countSome.2.1 2 = .ok (.aload_n 0, 1) := by decide +kernel
theorem d_X_countSome_3 : decode mi_X_countSome.2.1 3 = .ok (.astore_n 2, 1) := by decide +kernel
theorem d_X_countSome_4 : decode mi_X_countSome.2.1 4 = .ok (.aload_n 2, 1) := by decide +kernel
theorem d_X_countSome_5 : decode mi_X_countSome.2.1 5 = .ok (.arraylength, 1) := by decide +kernel
theorem d_X_countSome_6 : decode mi_X_countSome.2.1 6 = .ok (.istore_n 3, 1) := by decide +kernel
theorem d_X_countSome_7 : decode mi_X_countSome.2.1 7 = .ok (.iconst 0, 1) := by decide +kernel
theorem d_X_countSome_8 : decode mi_X_countSome.2.1 8 = .ok (.istore 4, 2) := by decide +kernel
theorem d_X_countSome_10 : decode mi_X_countSome.2.1 10 = .ok (.iload 4, 2) := by decide +kernel
theorem d_X_countSome_12 : decode mi_X_countSome.2.1 12 = .ok (.iload_n 3, 1) := by decide +kernel
theorem d_X_countSome_13 : decode mi_X_countSome.2.1 13 = .ok (.if_icmp .ge 24, 3) := by decide +kernel
theorem d_X_countSome_16 : decode mi_X_countSome.2.1 16 = .ok (.aload_n 2, 1) := by decide +kernel
theorem d_X_countSome_17 : decode mi_X_countSome.2.1 17 = .ok (.iload 4, 2) := by decide +kernel
theorem d_X_countSome_19 : decode mi_X_countSome.2.1 19 = .ok (.iaload, 1) := by decide +kernel
theorem d_X_countSome_20 : decode mi_X_countSome.2.1 20 = .ok (.istore 5, 2) := by decide +kernel
theorem d_X_countSome_22 : decode mi_X_countSome.2.1 22 = .ok (.iload 5, 2) := by decide +kernel
theorem d_X_countSome_24 : decode mi_X_countSome.2.1 24 = .ok (.iconst (-1), 1) := by decide +kernel
theorem d_X_countSome_25 : decode mi_X_countSome.2.1 25 = .ok (.if_icmp .eq 6, 3) := by decide +kernel
theorem d_X_countSome_28 : decode mi_X_countSome.2.1 28 = .ok (.iinc 1 1, 3) := by decide +kernel
theorem d_X_countSome_31 : decode mi_X_countSome.2.1 31 = .ok (.iinc 4 1, 3) := by decide +kernel
theorem d_X_countSome_34 : decode mi_X_countSome.2.1 34 = .ok (.goto (-24), 3) := by decide +kernel
theorem d_X_countSome_37 : decode mi_X_countSome.2.1 37 = .ok (.iload_n 1, 1) := by decide +kernel
theorem d_X_countSome_38 : decode mi_X_countSome.2.1 38 = .ok (.ireturn, 1) := by decide +kernel
theorem d_X_layer_0 : decode mi_X_layer.2.1 0 = .ok (.aload_n 0, 1) := by decide +kernel
theorem d_X_layer_1 : decode mi_X_layer.2.1 1 = .ok (.iload_n 1, 1) := by decide +kernel
theorem d_X_layer_2 : decode mi_X_layer.2.1 2 = .ok (.invokevirtual 220, 3) := by decide +kernel
theorem d_X_layer_5 : decode mi_X_layer.2.1 5 = .ok (.ifCond .ne 10, 3) := by decide +kernel
theorem d_X_layer_8 : decode mi_X_layer.2.1 8 = .ok (.aload_n 0, 1) := by decide +kernel
theorem d_X_layer_9 : decode mi_X_layer.2.1 9 = .ok (.bipush (-32), 2) := by decide +kernel
theorem d_X_layer_11 : decode mi_X_layer.2.1 11 = .ok (.invokevirtual 75, 3) := by decide +kernel
theorem d_X_layer_14 : decode mi_X_layer.2.1 14 = .ok (.ireturn, 1) := by decide +kernel
theorem d_X_layer_15 : decode mi_X_layer.2.1 15 = .ok (.iload_n 2, 1) := by decide +kernel
theorem d_X_layer_16 : decode mi_X_layer.2.1 16 = .ok (.iconst (-1), 1) := by decide +kernel
theorem d_X_layer_17 : decode mi_X_layer.2.1 17 = .ok (.if_icmp .ne 20, 3) := by decide +kernel
theorem d_X_layer_20 : decode mi_X_layer.2.1 20 = .ok (.aload_n 0, 1) := by decide +kernel
theorem d_X_layer_21 : decode mi_X_layer.2.1 21 = .ok (.getfield 12, 3) := by decide +kernel
theorem d_X_layer_24 : decode mi_X_layer.2.1 24 = .ok (.getfield 211, 3) := by decide +kernel
theorem d_X_layer_27 : decode mi_X_layer.2.1 27 = .ok (.iload_n 1, 1) := by decide +kernel
theorem d_X_layer_28 : decode mi_X_layer.2.1 28 = .ok (.aaload, 1) := by decide +kernel
theorem d_X_layer_29 : decode mi_X_layer.2.1 29 = .ok (.iconst (-1), 1) := by decide +kernel
theorem d_X_layer_30 : decode mi_X_layer.2.1 30 = .ok (.iconst 0, 1) := by decide +kernel
theorem d_X_layer_31 : decode mi_X_layer.2.1 31 = .ok (.iconst 0, 1) := by decide +kernel
theorem d_X_layer_32 : decode mi_X_layer.2.1 32 = .ok (.invokevirtual 293, 3) := by decide +kernel
theorem d_X_layer_35 : decode mi_X_layer.2.1 35 = .ok (.iconst 1, 1) := by decide +kernel
theorem d_X_layer_36 : decode mi_X_layer.2.1 36 = .ok (.ireturn, 1) := by decide +kernel
theorem d_X_layer_37 : decode mi_X_layer.2.1 37 = .ok (.iload_n 2, 1) := by decide +kernel
theorem d_X_layer_38 : decode mi_X_layer.2.1 38 = .ok (.ifCond .lt 26, 3) := by decide +kernel
theorem d_X_layer_41 : decode mi_X_layer.2.1 41 = .ok (.iload_n 2, 1) := by decide +kernel
theorem d_X_layer_42 : decode mi_X_layer.2.1 42 = .ok (.iconst 3, 1) := by decide +kernel
theorem d_X_layer_43 : decode mi_X_layer.2.1 43 = .ok (.if_icmp .gt 21, 3) := by decide +kernel
theorem d_X_layer_46 : decode mi_X_layer.2.1 46 = .ok (.iload_n 3, 1) := by decide +kernel
theorem d_X_layer_47 : decode mi_X_layer.2.1 47 = .ok (.ifCond .lt 17, 3) := by decide +kernel
theorem d_X_layer_50 : decode mi_X_layer.2.1 50 = .ok (.iload_n 3, 1) := by decide +kernel
theorem d_X_layer_51 : decode mi_X_layer.2.1 51 = .ok (.iload 4, 2) := by decide +kernel
theorem d_X_layer_53 : decode mi_X_layer.2.1 53 = .ok (.if_icmp .gt 11, 3) := by decide +kernel
theorem d_X_layer_56 : decode mi_X_layer.2.1 56 = .ok (.iload 4, 2) := by decide +kernel
theorem d_X_layer_58 : decode mi_X_layer.2.1 58 = .ok (.sipush 1000, 3) := by decide +kernel
theorem d_X_layer_61 : decode mi_X_layer.2.1 61 = .ok (.if_icmp .lt 10, 3) := by decide +kernel
theorem d_X_layer_64 : decode mi_X_layer.2.1 64 = .ok (.aload_n 0, 1) := by decide +kernel
theorem d_X_layer_65 : decode mi_X_layer.2.1 65 = .ok (.bipush (-32), 2) := by decide +kernel
theorem d_X_layer_67 : decode mi_X_layer.2.1 67 = .ok (.invokevirtual 75, 3) := by decide +kernel
theorem d_X_layer_70 : decode mi_X_layer.2.1 70 = .ok (.ireturn, 1) := by decide +kernel
theorem d_X_layer_71 : decode mi_X_layer.2.1 71 = .ok (.aload_n 0, 1) := by decide +kernel
theorem d_X_layer_72 : decode mi_X_layer.2.1 72 = .ok (.getfield 12, 3) := by decide +kernel
theorem d_X_layer_75 : decode mi_X_layer.2.1 75 = .ok (.iload_n 1, 1) := by decide +kernel
theorem d_X_layer_76 : decode mi_X_layer.2.1 76 = .ok (.iload_n 2, 1) := by decide +kernel
theorem d_X_layer_77 : decode mi_X_layer.2.1 77 = .ok (.iload_n 3, 1) := by decide +kernel
theorem d_X_layer_78 : decode mi_X_layer.2.1 78 = .ok (.iload 4, 2) := by decide +kernel
theorem d_X_layer_80 : decode mi_X_layer.2.1 80 = .ok (.invokevirtual 297, 3) := by decide +kernel
theorem d_X_layer_83 : decode mi_X_layer.2.1 83 = .ok (.ifCond .eq 10, 3) := by decide +kernel
theorem d_X_layer_86 : decode mi_X_layer.2.1 86 = .ok (.aload_n 0, 1) := by decide +kernel
theorem d_X_layer_87 : decode mi_X_layer.2.1 87 = .ok (.bipush (-35), 2) := by decide +kernel
theorem d_X_layer_89 : decode mi_X_layer.2.1 89 = .ok (.invokevirtual 75, 3) := by decide +kernel
theorem d_X_layer_92 : decode mi_X_layer.2.1 92 = .ok (.ireturn, 1) := by decide +kernel
theorem d_X_layer_93 : decode mi_X_layer.2.1 93 = .ok (.aload_n 0, 1) := by decide +kernel
theorem d_X_layer_94 : decode mi_X_layer.2.1 94 = .ok (.getfield 12, 3) := by decide +kernel
theorem d_X_layer_97 : decode mi_X_layer.2.1 97 = .ok (.getfield 211, 3) := by decide +kernel
theorem d_X_layer_100 : decode mi_X_layer.2.1 100 = .ok (.iload_n 1, 1) := by decide +kernel
theorem d_X_layer_101 : decode mi_X_layer.2.1 101 = .ok (.aaload, 1) := by decide +kernel
theorem d_X_layer_102 : decode mi_X_layer.2.1 102 = .ok (.iload_n 2, 1) := by decide +kernel
theorem d_X_layer_103 : decode mi_X_layer.2.1 103 = .ok (.iload_n 3, 1) := by decide +kernel
theorem d_X_layer_104 : decode mi_X_layer.2.1 104 = .ok (.iload 4, 2) := by decide +kernel
theorem d_X_layer_106 : decode mi_X_layer.2.1 106 = .ok (.invokevirtual 293, 3) := by decide +kernel
theorem d_X_layer_109 : decode mi_X_layer.2.1 109 = .ok (.iconst 1, 1) := by decide +kernel
theorem d_X_layer_110 : decode mi_X_layer.2.1 110 = .ok (.ireturn, 1) := by decide +kernel
theorem d_X_step_0 : decode mi_X_step.2.1 0 = .ok (.iload_n 1, 1) := by decide +kernel
theorem d_X_step_1 : decode mi_X_step.2.1 1 = .ok (.aload_n 0, 1) := by decide +kernel
theorem d_X_step_2 : decode mi_X_step.2.1 2 = .ok (.getfield 12, 3) := by decide +kernel
theorem d_X_step_5 : decode mi_X_step.2.1 5 = .ok (.getfield 301, 3) := by decide +kernel
theorem d_X_step_8 : decode mi_X_step.2.1 8 = .ok (.if_icmp .lt 20, 3) := by decide +kernel
theorem d_X_step_11 : decode mi_X_step.2.1 11 = .ok (.iload_n 1, 1) := by decide +kernel
theorem d_X_step_12 : decode mi_X_step.2.1 12 = .ok (.ldc_w 304, 3) := by decide +kernel
theorem d_X_step_15 : decode mi_X_step.2.1 15 = .ok (.if_icmp .gt 13, 3) := by decide +kernel
theorem d_X_step_18 : decode mi_X_step.2.1 18 = .ok (.iload_n 3, 1) := by decide +kernel
theorem d_X_step_19 : decode mi_X_step.2.1 19 = .ok (.ifCond .lt 9, 3) := by decide +kernel
theorem d_X_step_22 : decode mi_X_step.2.1 22 = .ok (.iload_n 3, 1) := by decide +kernel
theorem d_X_step_23 : decode mi_X_step.2.1 23 = .ok (.bipush 6, 2) := by decide +kernel
theorem d_X_step_25 : decode mi_X_step.2.1 25 = .ok (.if_icmp .lt 10, 3) := by decide +kernel
theorem d_X_step_28 : decode mi_X_step.2.1 28 = .ok (.aload_n 0, 1) := by decide +kernel
theorem d_X_step_29 : decode mi_X_step.2.1 29 = .ok (.bipush (-32), 2) := by decide +kernel
theorem d_X_step_31 : decode mi_X_step.2.1 31 = .ok (.invokevirtual 75, 3) := by decide +kernel
theorem d_X_step_34 : decode mi_X_step.2.1 34 = .ok (.ireturn, 1) := by decide +kernel
theorem d_X_step_35 : decode mi_X_step.2.1 35 = .ok (.aload_n 0, 1) := by decide +kernel
theorem d_X_step_36 : decode mi_X_step.2.1 36 = .ok (.iload_n 2, 1) := by decide +kernel
theorem d_X_step_37 : decode mi_X_step.2.1 37 = .ok (.iload 4, 2) := by decide +kernel
theorem d_X_step_39 : decode mi_X_step.2.1 39 = .ok (.invokevirtual 271, 3) := by decide +kernel
theorem d_X_step_42 : decode mi_X_step.2.1 42 = .ok (.ifCond .eq 17, 3) := by decide +kernel
theorem d_X_step_45 : decode mi_X_step.2.1 45 = .ok (.iload 4, 2) := by decide +kernel
theorem d_X_step_47 : decode mi_X_step.2.1 47 = .ok (.ifCond .eq 12, 3) := by decide +kernel
theorem d_X_step_50 : decode mi_X_step.2.1 50 = .ok (.aload_n 0, 1) := by decide +kernel
theorem d_X_step_51 : decode mi_X_step.2.1 51 = .ok (.iload 5, 2) := by decide +kernel
theorem d_X_step_53 : decode mi_X_step.2.1 53 = .ok (.invokevirtual 264, 3) := by decide +kernel
theorem d_X_step_56 : decode mi_X_step.2.1 56 = .ok (.ifCond .ne 10, 3) := by decide +kernel
theorem d_X_step_59 : decode mi_X_step.2.1 59 = .ok (.aload_n 0, 1) := by decide +kernel
theorem d_X_step_60 : decode mi_X_step.2.1 60 = .ok (.bipush (-32), 2) := by decide +kernel
theorem d_X_step_62 : decode mi_X_step.2.1 62 = .ok (.invokevirtual 75, 3) := by decide +kernel
theorem d_X_step_65 : decode mi_X_step.2.1 65 = .ok (.ireturn, 1) := by decide +kernel
theorem d_X_step_66 : decode mi_X_step.2.1 66 = .ok (.aload_n 0, 1) := by decide +kernel
theorem d_X_step_67 : decode mi_X_step.2.1 67 = .ok (.getfield 12, 3) := by decide +kernel
theorem d_X_step_70 : decode mi_X_step.2.1 70 = .ok (.getfield 305, 3) := by decide +kernel
theorem d_X_step_73 : decode mi_X_step.2.1 73 = .ok (.getfield 309, 3) := by decide +kernel
theorem d_X_step_76 : decode mi_X_step.2.1 76 = .ok (.bipush 24, 2) := by decide +kernel
theorem d_X_step_78 : decode mi_X_step.2.1 78 = .ok (.if_icmp .lt 10, 3) := by decide +kernel
theorem d_X_step_81 : decode mi_X_step.2.1 81 = .ok (.aload_n 0, 1) := by decide +kernel
theorem d_X_step_82 : decode mi_X_step.2.1 82 = .ok (.bipush (-36), 2) := by decide +kernel
theorem d_X_step_84 : decode mi_X_step.2.1 84 = .ok (.invokevirtual 75, 3) := by decide +kernel
theorem d_X_step_87 : decode mi_X_step.2.1 87 = .ok (.ireturn, 1) := by decide +kernel
theorem d_X_step_88 : decode mi_X_step.2.1 88 = .ok (.aload_n 0, 1) := by decide +kernel
theorem d_X_step_89 : decode mi_X_step.2.1 89 = .ok (.getfield 12, 3) := by decide +kernel
theorem d_X_step_92 : decode mi_X_step.2.1 92 = .ok (.getfield 305, 3) := by decide +kernel
theorem d_X_step_95 : decode mi_X_step.2.1 95 = .ok (.iload_n 1, 1) := by decide +kernel
theorem d_X_step_96 : decode mi_X_step.2.1 96 = .ok (.iload_n 2, 1) := by decide +kernel
theorem d_X_step_97 : decode mi_X_step.2.1 97 = .ok (.iload_n 3, 1) := by decide +kernel
theorem d_X_step_98 : decode mi_X_step.2.1 98 = .ok (.iload 4, 2) := by decide +kernel
theorem d_X_step_100 : decode mi_X_step.2.1 100 = .ok (.iload 5, 2) := by decide +kernel
theorem d_X_step_102 : decode mi_X_step.2.1 102 = .ok (.invokevirtual 312, 3) := by decide +kernel
theorem d_X_step_105 : decode mi_X_step.2.1 105 = .ok (.aload_n 0, 1) := by decide +kernel
theorem d_X_step_106 : decode mi_X_step.2.1 106 = .ok (.getfield 12, 3) := by decide +kernel
theorem d_X_step_109 : decode mi_X_step.2.1 109 = .ok (.getfield 305, 3) := by decide +kernel
theorem d_X_step_112 : decode mi_X_step.2.1 112 = .ok (.getfield 309, 3) := by decide +kernel
theorem d_X_step_115 : decode mi_X_step.2.1 115 = .ok (.ireturn, 1) := by decide +kernel
theorem d_X_pass_0 : decode mi_X_pass.2.1 0 = .ok (.iload_n 1, 1) := by decide +kernel
theorem d_X_pass_1 : decode mi_X_pass.2.1 1 = .ok (.ifCond .lt 10, 3) := by decide +kernel
theorem d_X_pass_4 : decode mi_X_pass.2.1 4 = .ok (.iload_n 1, 1) := by decide +kernel
theorem d_X_pass_5 : decode mi_X_pass.2.1 5 = .ok (.sipush 999, 3) := by decide +kernel
theorem d_X_pass_8 : decode mi_X_pass.2.1 8 = .ok (.if_icmp .le 10, 3) := by decide +kernel
theorem d_X_pass_11 : decode mi_X_pass.2.1 11 = .ok (.aload_n 0, 1) := by decide +kernel
theorem d_X_pass_12 : decode mi_X_pass.2.1 12 = .ok (.bipush (-32), 2) := by decide +kernel
theorem d_X_pass_14 : decode mi_X_pass.2.1 14 = .ok (.invokevirtual 75, 3) := by decide +kernel
theorem d_X_pass_17 : decode mi_X_pass.2.1 17 = .ok (.ireturn, 1) := by decide +kernel
theorem d_X_pass_18 : decode mi_X_pass.2.1 18 = .ok (.aload_n 0, 1) := by decide +kernel
theorem d_X_pass_19 : decode mi_X_pass.2.1 19 = .ok (.getfield 12, 3) := by decide +kernel
theorem d_X_pass_22 : decode mi_X_pass.2.1 22 = .ok (.iload_n 1, 1) := by decide +kernel
theorem d_X_pass_23 : decode mi_X_pass.2.1 23 = .ok (.invokevirtual 315, 3) := by decide +kernel
theorem d_X_pass_26 : decode mi_X_pass.2.1 26 = .ok (.ireturn, 1) := by decide +kernel
theorem d_X_ask_0 : decode mi_X_ask.2.1 0 = .ok (.aload_n 0, 1) := by decide +kernel
theorem d_X_ask_1 : decode mi_X_ask.2.1 1 = .ok (.getfield 12, 3) := by decide +kernel
theorem d_X_ask_4 : decode mi_X_ask.2.1 4 = .ok (.getfield 179, 3) := by decide +kernel
theorem d_X_ask_7 : decode mi_X_ask.2.1 7 = .ok (.iload_n 2, 1) := by decide +kernel
theorem d_X_ask_8 : decode mi_X_ask.2.1 8 = .ok (.i2l, 1) := by decide +kernel
theorem d_X_ask_9 : decode mi_X_ask.2.1 9 = .ok (.invokevirtual 183, 3) := by decide +kernel
theorem d_X_ask_12 : decode mi_X_ask.2.1 12 = .ok (.istore_n 3, 1) := by decide +kernel
theorem d_X_ask_13 : decode mi_X_ask.2.1 13 = .ok (.iload_n 3, 1) := by decide +kernel
theorem d_X_ask_14 : decode mi_X_ask.2.1 14 = .ok (.iconst (-1), 1) := by decide +kernel
theorem d_X_ask_15 : decode mi_X_ask.2.1 15 = .ok (.if_icmp .eq 11, 3) := by decide +kernel
theorem d_X_ask_18 : decode mi_X_ask.2.1 18 = .ok (.aload_n 0, 1) := by decide +kernel
theorem d_X_ask_19 : decode mi_X_ask.2.1 19 = .ok (.iload_n 1, 1) := by decide +kernel
theorem d_X_ask_20 : decode mi_X_ask.2.1 20 = .ok (.invokevirtual 220, 3) := by decide +kernel
theorem d_X_ask_23 : decode mi_X_ask.2.1 23 = .ok (.ifCond .ne 10, 3) := by decide +kernel
theorem d_X_ask_26 : decode mi_X_ask.2.1 26 = .ok (.aload_n 0, 1) := by decide +kernel
theorem d_X_ask_27 : decode mi_X_ask.2.1 27 = .ok (.bipush (-32), 2) := by decide +kernel
theorem d_X_ask_29 : decode mi_X_ask.2.1 29 = .ok (.invokevirtual 75, 3) := by decide +kernel
theorem d_X_ask_32 : decode mi_X_ask.2.1 32 = .ok (.ireturn, 1) := by decide +kernel
theorem d_X_ask_33 : decode mi_X_ask.2.1 33 = .ok (.aload_n 0, 1) := by decide +kernel
theorem d_X_ask_34 : decode mi_X_ask.2.1 34 = .ok (.iload_n 1, 1) := by decide +kernel
theorem d_X_ask_35 : decode mi_X_ask.2.1 35 = .ok (.iload_n 3, 1) := by decide +kernel
theorem d_X_ask_36 : decode mi_X_ask.2.1 36 = .ok (.invokevirtual 318, 3) := by decide +kernel
theorem d_X_ask_39 : decode mi_X_ask.2.1 39 = .ok (.ireturn, 1) := by decide +kernel
theorem d_X_askInTruth_0 : decode mi_X_askInTruth.2.1 0 = .ok (.aload_n 0, 1) := by decide +kernel
theorem d_X_askInTruth_1 : decode mi_X_askInTruth.2.1 1 = .ok (.iload_n 1, 1) := by decide +kernel
theorem d_X_askInTruth_2 : decode mi_X_askInTruth.2.1 2 = .ok (.iload_n 2, 1) := by decide +kernel
theorem d_X_askInTruth_3 : decode mi_X_askInTruth.2.1 3 = .ok (.invokevirtual 321, 3) := by decide +kernel
theorem d_X_askInTruth_6 : decode mi_X_askInTruth.2.1 6 = .ok (.istore_n 3, 1) := by decide +kernel
theorem d_X_askInTruth_7 : decode mi_X_askInTruth.2.1 7 = .ok (.aload_n 0, 1) := by decide +kernel
theorem d_X_askInTruth_8 : decode mi_X_askInTruth.2.1 8 = .ok (.getfield 12, 3) := by decide +kernel
theorem d_X_askInTruth_11 : decode mi_X_askInTruth.2.1 11 = .ok (.getfield 211, 3) := by decide +kernel
theorem d_X_askInTruth_14 : decode mi_X_askInTruth.2.1 14 = .ok (.iload_n 1, 1) := by decide +kernel
theorem d_X_askInTruth_15 : decode mi_X_askInTruth.2.1 15 = .ok (.aaload, 1) := by decide +kernel
theorem d_X_askInTruth_16 : decode mi_X_askInTruth.2.1 16 = .ok (.astore 4, 2) := by decide +kernel
theorem d_X_askInTruth_18 : decode mi_X_askInTruth.2.1 18 = .ok (.aload 4, 2) := by decide +kernel
theorem d_X_askInTruth_20 : decode mi_X_askInTruth.2.1 20 = .ok (.iload_n 3, 1) := by decide +kernel
theorem d_X_askInTruth_21 : decode mi_X_askInTruth.2.1 21 = .ok (.invokevirtual 439, 3) := by decide +kernel
theorem d_X_askInTruth_24 : decode mi_X_askInTruth.2.1 24 = .ok (.aload_n 0, 1) := by decide +kernel
theorem d_X_askInTruth_25 : decode mi_X_askInTruth.2.1 25 = .ok (.getfield 12, 3) := by decide +kernel
theorem d_X_askInTruth_28 : decode mi_X_askInTruth.2.1 28 = .ok (.dup, 1) := by decide +kernel
theorem d_X_askInTruth_29 : decode mi_X_askInTruth.2.1 29 = .ok (.getfield 413, 3) := by decide +kernel
theorem d_X_askInTruth_32 : decode mi_X_askInTruth.2.1 32 = .ok (.iconst 1, 1) := by decide +kernel
theorem d_X_askInTruth_33 : decode mi_X_askInTruth.2.1 33 = .ok (.iadd, 1) := by decide +kernel
theorem d_X_askInTruth_34 : decode mi_X_askInTruth.2.1 34 = .ok (.putfield 413, 3) := by decide +kernel
theorem d_X_askInTruth_37 : decode mi_X_askInTruth.2.1 37 = .ok (.aload_n 0, 1) := by decide +kernel
theorem d_X_askInTruth_38 : decode mi_X_askInTruth.2.1 38 = .ok (.getfield 29, 3) := by decide +kernel
theorem d_X_askInTruth_41 : decode mi_X_askInTruth.2.1 41 = .ok (.getfield 327, 3) := by decide +kernel
theorem d_X_askInTruth_44 : decode mi_X_askInTruth.2.1 44 = .ok (.iload_n 1, 1) := by decide +kernel
theorem d_X_askInTruth_45 : decode mi_X_askInTruth.2.1 45 = .ok (.iaload, 1) := by decide +kernel
theorem d_X_askInTruth_46 : decode mi_X_askInTruth.2.1 46 = .ok (.bipush 6, 2) := by decide +kernel
theorem d_X_askInTruth_48 : decode mi_X_askInTruth.2.1 48 = .ok (.if_icmp .ne 7, 3) := by decide +kernel
theorem d_X_askInTruth_51 : decode mi_X_askInTruth.2.1 51 = .ok (.iconst 1, 1) := by decide +kernel
theorem d_X_askInTruth_52 : decode mi_X_askInTruth.2.1 52 = .ok (.goto 4, 3) := by decide +kernel
theorem d_X_askInTruth_55 : decode mi_X_askInTruth.2.1 55 = .ok (.iconst 0, 1) := by decide +kernel
theorem d_X_askInTruth_56 : decode mi_X_askInTruth.2.1 56 = .ok (.istore 5, 2) := by decide +kernel
theorem d_X_askInTruth_58 : decode mi_X_askInTruth.2.1 58 = .ok (.aload 4, 2) := by decide +kernel
theorem d_X_askInTruth_60 : decode mi_X_askInTruth.2.1 60 = .ok (.getfield 226, 3) := by decide +kernel
theorem d_X_askInTruth_63 : decode mi_X_askInTruth.2.1 63 = .ok (.iconst 1, 1) := by decide +kernel
theorem d_X_askInTruth_64 : decode mi_X_askInTruth.2.1 64 = .ok (.if_icmp .ne 37, 3) := by decide +kernel
theorem d_X_askInTruth_67 : decode mi_X_askInTruth.2.1 67 = .ok (.iload 5, 2) := by decide +kernel
theorem d_X_askInTruth_69 : decode mi_X_askInTruth.2.1 69 = .ok (.ifCond .eq 32, 3) := by decide +kernel
theorem d_X_askInTruth_72 : decode mi_X_askInTruth.2.1 72 = .ok (.iload_n 3, 1) := by decide +kernel
theorem d_X_askInTruth_73 : decode mi_X_askInTruth.2.1 73 = .ok (.ifCond .eq 28, 3) := by decide +kernel
theorem d_X_askInTruth_76 : decode mi_X_askInTruth.2.1 76 = .ok (.aload 4, 2) := by decide +kernel
theorem d_X_askInTruth_78 : decode mi_X_askInTruth.2.1 78 = .ok (.aload_n 0, 1) := by decide +kernel
theorem d_X_askInTruth_79 : decode mi_X_askInTruth.2.1 79 = .ok (.getfield 29, 3) := by decide +kernel
theorem d_X_askInTruth_82 : decode mi_X_askInTruth.2.1 82 = .ok (.getfield 330, 3) := by decide +kernel
theorem d_X_askInTruth_85 : decode mi_X_askInTruth.2.1 85 = .ok (.iload_n 1, 1) := by decide +kernel
theorem d_X_askInTruth_86 : decode mi_X_askInTruth.2.1 86 = .ok (.iaload, 1) := by decide +kernel
theorem d_X_askInTruth_87 : decode mi_X_askInTruth.2.1 87 = .ok (.invokevirtual 441, 3) := by decide +kernel
theorem d_X_askInTruth_90 : decode mi_X_askInTruth.2.1 90 = .ok (.ifCond .eq 11, 3) := by decide +kernel
theorem d_X_askInTruth_93 : decode mi_X_askInTruth.2.1 93 = .ok (.aload 4, 2) := by decide +kernel
theorem d_X_askInTruth_95 : decode mi_X_askInTruth.2.1 95 = .ok (.getfield 365, 3) := by decide +kernel
theorem d_X_askInTruth_98 : decode mi_X_askInTruth.2.1 98 = .ok (.iload_n 2, 1) := by decide +kernel
theorem d_X_askInTruth_99 : decode mi_X_askInTruth.2.1 99 = .ok (.iload_n 3, 1) := by decide +kernel
theorem d_X_askInTruth_100 : decode mi_X_askInTruth.2.1 100 = .ok (.iastore, 1) := by decide +kernel
theorem d_X_askInTruth_101 : decode mi_X_askInTruth.2.1 101 = .ok (.iload_n 3, 1) := by decide +kernel
theorem d_X_askInTruth_102 : decode mi_X_askInTruth.2.1 102 = .ok (.ireturn, 1) := by decide +kernel
theorem d_X_answerOne_0 : decode mi_X_answerOne.2.1 0 = .ok (.aload_n 0, 1) := by decide +kernel
theorem d_X_answerOne_1 : decode mi_X_answerOne.2.1 1 = .ok (.getfield 29, 3) := by decide +kernel
theorem d_X_answerOne_4 : decode mi_X_answerOne.2.1 4 = .ok (.invokevirtual 429, 3) := by decide +kernel
theorem d_X_answerOne_7 : decode mi_X_answerOne.2.1 7 = .ok (.aload_n 0, 1) := by decide +kernel
theorem d_X_answerOne_8 : decode mi_X_answerOne.2.1 8 = .ok (.getfield 12, 3) := by decide +kernel
theorem d_X_answerOne_11 : decode mi_X_answerOne.2.1 11 = .ok (.aload_n 0, 1) := by decide +kernel
theorem d_X_answerOne_12 : decode mi_X_answerOne.2.1 12 = .ok (.getfield 29, 3) := by decide +kernel
theorem d_X_answerOne_15 : decode mi_X_answerOne.2.1 15 = .ok (.iload_n 2, 1) := by decide +kernel
theorem d_X_answerOne_16 : decode mi_X_answerOne.2.1 16 = .ok (.iload_n 1, 1) := by decide +kernel
theorem d_X_answerOne_17 : decode mi_X_answerOne.2.1 17 = .ok (.iconst 0, 1) := by decide +kernel
theorem d_X_answerOne_18 : decode mi_X_answerOne.2.1 18 = .ok (.invokestatic 432, 3) := by decide +kernel
theorem d_X_answerOne_21 : decode mi_X_answerOne.2.1 21 = .ok (.aload_n 0, 1) := by decide +kernel
theorem d_X_answerOne_22 : decode mi_X_answerOne.2.1 22 = .ok (.getfield 29, 3) := by decide +kernel
theorem d_X_answerOne_25 : decode mi_X_answerOne.2.1 25 = .ok (.iload_n 1, 1) := by decide +kernel
theorem d_X_answerOne_26 : decode mi_X_answerOne.2.1 26 = .ok (.invokevirtual 436, 3) := by decide +kernel
theorem d_X_answerOne_29 : decode mi_X_answerOne.2.1 29 = .ok (.ireturn, 1) := by decide +kernel
theorem d_X_decide_0 : decode mi_X_decide.2.1 0 = .ok (.iload 4, 2) := by decide +kernel
theorem d_X_decide_2 : decode mi_X_decide.2.1 2 = .ok (.bipush 12, 2) := by decide +kernel
theorem d_X_decide_4 : decode mi_X_decide.2.1 4 = .ok (.if_icmp .ge 21, 3) := by decide +kernel
theorem d_X_decide_7 : decode mi_X_decide.2.1 7 = .ok (.iload_n 3, 1) := by decide +kernel
theorem d_X_decide_8 : decode mi_X_decide.2.1 8 = .ok (.ifCond .lt 17, 3) := by decide +kernel
theorem d_X_decide_11 : decode mi_X_decide.2.1 11 = .ok (.iload_n 3, 1) := by decide +kernel
theorem d_X_decide_12 : decode mi_X_decide.2.1 12 = .ok (.bipush 12, 2) := by decide +kernel
theorem d_X_decide_14 : decode mi_X_decide.2.1 14 = .ok (.if_icmp .ge 11, 3) := by decide +kernel
theorem d_X_decide_17 : decode mi_X_decide.2.1 17 = .ok (.aload_n 1, 1) := by decide +kernel
theorem d_X_decide_18 : decode mi_X_decide.2.1 18 = .ok (.iload_n 3, 1) := by decide +kernel
theorem d_X_decide_19 : decode mi_X_decide.2.1 19 = .ok (.invokevirtual 448, 3) := by decide +kernel
theorem d_X_decide_22 : decode mi_X_decide.2.1 22 = .ok (.ifCond .eq 4, 3) := by decide +kernel
theorem d_X_decide_25 : decode mi_X_decide.2.1 25 = .ok (.return_, 1) := by decide +kernel
theorem d_X_decide_26 : decode mi_X_decide.2.1 26 = .ok (.aload_n 0, 1) := by decide +kernel
theorem d_X_decide_27 : decode mi_X_decide.2.1 27 = .ok (.getfield 211, 3) := by decide +kernel
theorem d_X_decide_30 : decode mi_X_decide.2.1 30 = .ok (.iload_n 3, 1) := by decide +kernel
theorem d_X_decide_31 : decode mi_X_decide.2.1 31 = .ok (.aaload, 1) := by decide +kernel
theorem d_X_decide_32 : decode mi_X_decide.2.1 32 = .ok (.astore 5, 2) := by decide +kernel
theorem d_X_decide_34 : decode mi_X_decide.2.1 34 = .ok (.aload 5, 2) := by decide +kernel
theorem d_X_decide_36 : decode mi_X_decide.2.1 36 = .ok (.getfield 286, 3) := by decide +kernel
theorem d_X_decide_39 : decode mi_X_decide.2.1 39 = .ok (.iload_n 2, 1) := by decide +kernel
theorem d_X_decide_40 : decode mi_X_decide.2.1 40 = .ok (.iaload, 1) := by decide +kernel
theorem d_X_decide_41 : decode mi_X_decide.2.1 41 = .ok (.iconst (-1), 1) := by decide +kernel
theorem d_X_decide_42 : decode mi_X_decide.2.1 42 = .ok (.if_icmp .eq 18, 3) := by decide +kernel
theorem d_X_decide_45 : decode mi_X_decide.2.1 45 = .ok (.aload_n 1, 1) := by decide +kernel
theorem d_X_decide_46 : decode mi_X_decide.2.1 46 = .ok (.iload_n 3, 1) := by decide +kernel
theorem d_X_decide_47 : decode mi_X_decide.2.1 47 = .ok (.aload 5, 2) := by decide +kernel
theorem d_X_decide_49 : decode mi_X_decide.2.1 49 = .ok (.getfield 286, 3) := by decide +kernel
theorem d_X_decide_52 : decode mi_X_decide.2.1 52 = .ok (.iload_n 2, 1) := by decide +kernel
theorem d_X_decide_53 : decode mi_X_decide.2.1 53 = .ok (.iaload, 1) := by decide +kernel
theorem d_X_decide_54 : decode mi_X_decide.2.1 54 = .ok (.iconst 1, 1) := by decide +kernel
theorem d_X_decide_55 : decode mi_X_decide.2.1 55 = .ok (.iconst (-1), 1) := by decide +kernel
theorem d_X_decide_56 : decode mi_X_decide.2.1 56 = .ok (.invokevirtual 451, 3) := by decide +kernel
theorem d_X_decide_59 : decode mi_X_decide.2.1 59 = .ok (.return_, 1) := by decide +kernel
theorem d_X_decide_60 : decode mi_X_decide.2.1 60 = .ok (.aload 5, 2) := by decide +kernel
theorem d_X_decide_62 : decode mi_X_decide.2.1 62 = .ok (.getfield 223, 3) := by decide +kernel
theorem d_X_decide_65 : decode mi_X_decide.2.1 65 = .ok (.iconst 1, 1) := by decide +kernel
theorem d_X_decide_66 : decode mi_X_decide.2.1 66 = .ok (.if_icmp .ne 12, 3) := by decide +kernel
theorem d_X_decide_69 : decode mi_X_decide.2.1 69 = .ok (.aload_n 1, 1) := by decide +kernel
theorem d_X_decide_70 : decode mi_X_decide.2.1 70 = .ok (.iload_n 3, 1) := by decide +kernel
theorem d_X_decide_71 : decode mi_X_decide.2.1 71 = .ok (.iconst 0, 1) := by decide +kernel
theorem d_X_decide_72 : decode mi_X_decide.2.1 72 = .ok (.iconst 2, 1) := by decide +kernel
theorem d_X_decide_73 : decode mi_X_decide.2.1 73 = .ok (.iconst (-1), 1) := by decide +kernel
theorem d_X_decide_74 : decode mi_X_decide.2.1 74 = .ok (.invokevirtual 451, 3) := by decide +kernel
theorem d_X_decide_77 : decode mi_X_decide.2.1 77 = .ok (.return_, 1) := by decide +kernel
theorem d_X_decide_78 : decode mi_X_decide.2.1 78 = .ok (.iconst 0, 1) := by decide +kernel
theorem d_X_decide_79 : decode mi_X_decide.2.1 79 = .ok (.istore 6, 2) := by decide +kernel
theorem d_X_decide_81 : decode mi_X_decide.2.1 81 = .ok (.iload 6, 2) := by decide +kernel
theorem d_X_decide_83 : decode mi_X_decide.2.1 83 = .ok (.aload 5, 2) := by decide +kernel
theorem d_X_decide_85 : decode mi_X_decide.2.1 85 = .ok (.getfield 280, 3) := by decide +kernel
theorem d_X_decide_88 : decode mi_X_decide.2.1 88 = .ok (.if_icmp .ge 58, 3) := by decide +kernel
theorem d_X_decide_91 : decode mi_X_decide.2.1 91 = .ok (.aload 5, 2) := by decide +kernel
theorem d_X_decide_93 : decode mi_X_decide.2.1 93 = .ok (.getfield 453, 3) := by decide +kernel
theorem d_X_decide_96 : decode mi_X_decide.2.1 96 = .ok (.iload 6, 2) := by decide +kernel
theorem d_X_decide_98 : decode mi_X_decide.2.1 98 = .ok (.iaload, 1) := by decide +kernel
theorem d_X_decide_99 : decode mi_X_decide.2.1 99 = .ok (.istore 7, 2) := by decide +kernel
theorem d_X_decide_101 : decode mi_X_decide.2.1 101 = .ok (.aload_n 0, 1) := by decide +kernel
theorem d_X_decide_102 : decode mi_X_decide.2.1 102 = .ok (.aload_n 1, 1) := by decide +kernel
theorem d_X_decide_103 : decode mi_X_decide.2.1 103 = .ok (.iload_n 2, 1) := by decide +kernel
theorem d_X_decide_104 : decode mi_X_decide.2.1 104 = .ok (.iload 7, 2) := by decide +kernel
theorem d_X_decide_106 : decode mi_X_decide.2.1 106 = .ok (.iload 4, 2) := by decide +kernel
theorem d_X_decide_108 : decode mi_X_decide.2.1 108 = .ok (.iconst 1, 1) := by decide +kernel
theorem d_X_decide_109 : decode mi_X_decide.2.1 109 = .ok (.iadd, 1) := by decide +kernel
theorem d_X_decide_110 : decode mi_X_decide.2.1 110 = .ok (.invokestatic 432, 3) := by decide +kernel
theorem d_X_decide_113 : decode mi_X_decide.2.1 113 = .ok (.aload_n 1, 1) := by decide +kernel
theorem d_X_decide_114 : decode mi_X_decide.2.1 114 = .ok (.iload 7, 2) := by decide +kernel
theorem d_X_decide_116 : decode mi_X_decide.2.1 116 = .ok (.invokevirtual 436, 3) := by decide +kernel
theorem d_X_decide_119 : decode mi_X_decide.2.1 119 = .ok (.aload 5, 2) := by decide +kernel
theorem d_X_decide_121 : decode mi_X_decide.2.1 121 = .ok (.getfield 456, 3) := by decide +kernel
theorem d_X_decide_124 : decode mi_X_decide.2.1 124 = .ok (.iload 6, 2) := by decide +kernel
theorem d_X_decide_126 : decode mi_X_decide.2.1 126 = .ok (.iaload, 1) := by decide +kernel
theorem d_X_decide_127 : decode mi_X_decide.2.1 127 = .ok (.if_icmp .eq 13, 3) := by decide +kernel
theorem d_X_decide_130 : decode mi_X_decide.2.1 130 = .ok (.aload_n 1, 1) := by decide +kernel
theorem d_X_decide_131 : decode mi_X_decide.2.1 131 = .ok (.iload_n 3, 1) := by decide +kernel
theorem d_X_decide_132 : decode mi_X_decide.2.1 132 = .ok (.iconst 0, 1) := by decide +kernel
theorem d_X_decide_133 : decode mi_X_decide.2.1 133 = .ok (.iconst 3, 1) := by decide +kernel
theorem d_X_decide_134 : decode mi_X_decide.2.1 134 = .ok (.iload 7, 2) := by decide +kernel
theorem d_X_decide_136 : decode mi_X_decide.2.1 136 = .ok (.invokevirtual 451, 3) := by decide +kernel
theorem d_X_decide_139 : decode mi_X_decide.2.1 139 = .ok (.return_, 1) := by decide +kernel
theorem d_X_decide_140 : decode mi_X_decide.2.1 140 = .ok (.iinc 6 1, 3) := by decide +kernel
theorem d_X_decide_143 : decode mi_X_decide.2.1 143 = .ok (.goto (-62), 3) := by decide +kernel
theorem d_X_decide_146 : decode mi_X_decide.2.1 146 = .ok (.aload 5, 2) := by decide +kernel
theorem d_X_decide_148 : decode mi_X_decide.2.1 148 = .ok (.iload_n 3, 1) := by decide +kernel
theorem d_X_decide_149 : decode mi_X_decide.2.1 149 = .ok (.aload_n 0, 1) := by decide +kernel
theorem d_X_decide_150 : decode mi_X_decide.2.1 150 = .ok (.getfield 179, 3) := by decide +kernel
theorem d_X_decide_153 : decode mi_X_decide.2.1 153 = .ok (.aload_n 1, 1) := by decide +kernel
theorem d_X_decide_154 : decode mi_X_decide.2.1 154 = .ok (.iload_n 2, 1) := by decide +kernel
theorem d_X_decide_155 : decode mi_X_decide.2.1 155 = .ok (.invokestatic 459, 3) := by decide +kernel
theorem d_X_decide_158 : decode mi_X_decide.2.1 158 = .ok (.return_, 1) := by decide +kernel
theorem d_X_decideAlone_0 : decode mi_X_decideAlone.2.1 0 = .ok (.aload_n 2, 1) := by decide +kernel
theorem d_X_decideAlone_1 : decode mi_X_decideAlone.2.1 1 = .ok (.getfield 202, 3) := by decide +kernel
theorem d_X_decideAlone_4 : decode mi_X_decideAlone.2.1 4 = .ok (.iload 4, 2) := by decide +kernel
theorem d_X_decideAlone_6 : decode mi_X_decideAlone.2.1 6 = .ok (.iaload, 1) := by decide +kernel
theorem d_X_decideAlone_7 : decode mi_X_decideAlone.2.1 7 = .ok (.istore 5, 2) := by decide +kernel
theorem d_X_decideAlone_9 : decode mi_X_decideAlone.2.1 9 = .ok (.aload_n 0, 1) := by decide +kernel
theorem d_X_decideAlone_10 : decode mi_X_decideAlone.2.1 10 = .ok (.getfield 381, 3) := by decide +kernel
theorem d_X_decideAlone_13 : decode mi_X_decideAlone.2.1 13 = .ok (.iconst (-1), 1) := by decide +kernel
theorem d_X_decideAlone_14 : decode mi_X_decideAlone.2.1 14 = .ok (.if_icmp .eq 47, 3) := by decide +kernel
theorem d_X_decideAlone_17 : decode mi_X_decideAlone.2.1 17 = .ok (.aload_n 0, 1) := by decide +kernel
theorem d_X_decideAlone_18 : decode mi_X_decideAlone.2.1 18 = .ok (.getfield 381, 3) := by decide +kernel
theorem d_X_decideAlone_21 : decode mi_X_decideAlone.2.1 21 = .ok (.bipush 100, 2) := by decide +kernel
theorem d_X_decideAlone_23 : decode mi_X_decideAlone.2.1 23 = .ok (.iadd, 1) := by decide +kernel
theorem d_X_decideAlone_24 : decode mi_X_decideAlone.2.1 24 = .ok (.iload 5, 2) := by decide +kernel
theorem d_X_decideAlone_26 : decode mi_X_decideAlone.2.1 26 = .ok (.invokestatic 205, 3) := by decide +kernel
theorem d_X_decideAlone_29 : decode mi_X_decideAlone.2.1 29 = .ok (.istore 6, 2) := by decide +kernel
theorem d_X_decideAlone_31 : decode mi_X_decideAlone.2.1 31 = .ok (.iload 6, 2) := by decide +kernel
theorem d_X_decideAlone_33 : decode mi_X_decideAlone.2.1 33 = .ok (.aload_n 0, 1) := by decide +kernel
theorem d_X_decideAlone_34 : decode mi_X_decideAlone.2.1 34 = .ok (.getfield 387, 3) := by decide +kernel
theorem d_X_decideAlone_37 : decode mi_X_decideAlone.2.1 37 = .ok (.if_icmp .lt 12, 3) := by decide +kernel
theorem d_X_decideAlone_40 : decode mi_X_decideAlone.2.1 40 = .ok (.iload 6, 2) := by decide +kernel
theorem d_X_decideAlone_42 : decode mi_X_decideAlone.2.1 42 = .ok (.aload_n 0, 1) := by decide +kernel
theorem d_X_decideAlone_43 : decode mi_X_decideAlone.2.1 43 = .ok (.getfield 384, 3) := by decide +kernel
theorem d_X_decideAlone_46 : decode mi_X_decideAlone.2.1 46 = .ok (.if_icmp .le 15, 3) := by decide +kernel
theorem d_X_decideAlone_49 : decode mi_X_decideAlone.2.1 49 = .ok (.aload_n 3, 1) := by decide +kernel
theorem d_X_decideAlone_50 : decode mi_X_decideAlone.2.1 50 = .ok (.iload_n 1, 1) := by decide +kernel
theorem d_X_decideAlone_51 : decode mi_X_decideAlone.2.1 51 = .ok (.iconst 0, 1) := by decide +kernel
theorem d_X_decideAlone_52 : decode mi_X_decideAlone.2.1 52 = .ok (.iconst 4, 1) := by decide +kernel
theorem d_X_decideAlone_53 : decode mi_X_decideAlone.2.1 53 = .ok (.aload_n 0, 1) := by decide +kernel
theorem d_X_decideAlone_54 : decode mi_X_decideAlone.2.1 54 = .ok (.getfield 381, 3) := by decide +kernel
theorem d_X_decideAlone_57 : decode mi_X_decideAlone.2.1 57 = .ok (.invokevirtual 451, 3) := by decide +kernel
theorem d_X_decideAlone_60 : decode mi_X_decideAlone.2.1 60 = .ok (.return_, 1) := by decide +kernel
theorem d_X_decideAlone_61 : decode mi_X_decideAlone.2.1 61 = .ok (.aload_n 0, 1) := by decide +kernel
theorem d_X_decideAlone_62 : decode mi_X_decideAlone.2.1 62 = .ok (.getfield 365, 3) := by decide +kernel
theorem d_X_decideAlone_65 : decode mi_X_decideAlone.2.1 65 = .ok (.iload 4, 2) := by decide +kernel
theorem d_X_decideAlone_67 : decode mi_X_decideAlone.2.1 67 = .ok (.iaload, 1) := by decide +kernel
theorem d_X_decideAlone_68 : decode mi_X_decideAlone.2.1 68 = .ok (.iconst (-1), 1) := by decide +kernel
theorem d_X_decideAlone_69 : decode mi_X_decideAlone.2.1 69 = .ok (.if_icmp .eq 18, 3) := by decide +kernel
theorem d_X_decideAlone_72 : decode mi_X_decideAlone.2.1 72 = .ok (.aload_n 3, 1) := by decide +kernel
theorem d_X_decideAlone_73 : decode mi_X_decideAlone.2.1 73 = .ok (.iload_n 1, 1) := by decide +kernel
theorem d_X_decideAlone_74 : decode mi_X_decideAlone.2.1 74 = .ok (.aload_n 0, 1) := by decide +kernel
theorem d_X_decideAlone_75 : decode mi_X_decideAlone.2.1 75 = .ok (.getfield 365, 3) := by decide +kernel
theorem d_X_decideAlone_78 : decode mi_X_decideAlone.2.1 78 = .ok (.iload 4, 2) := by decide +kernel
theorem d_X_decideAlone_80 : decode mi_X_decideAlone.2.1 80 = .ok (.iaload, 1) := by decide +kernel
theorem d_X_decideAlone_81 : decode mi_X_decideAlone.2.1 81 = .ok (.iconst 5, 1) := by decide +kernel
theorem d_X_decideAlone_82 : decode mi_X_decideAlone.2.1 82 = .ok (.iconst (-1), 1) := by decide +kernel
theorem d_X_decideAlone_83 : decode mi_X_decideAlone.2.1 83 = .ok (.invokevirtual 451, 3) := by decide +kernel
theorem d_X_decideAlone_86 : decode mi_X_decideAlone.2.1 86 = .ok (.return_, 1) := by decide +kernel
theorem d_X_decideAlone_87 : decode mi_X_decideAlone.2.1 87 = .ok (.iconst 0, 1) := by decide +kernel
theorem d_X_decideAlone_88 : decode mi_X_decideAlone.2.1 88 = .ok (.istore 6, 2) := by decide +kernel
theorem d_X_decideAlone_90 : decode mi_X_decideAlone.2.1 90 = .ok (.iload 6, 2) := by decide +kernel
theorem d_X_decideAlone_92 : decode mi_X_decideAlone.2.1 92 = .ok (.aload_n 0, 1) := by decide +kernel
theorem d_X_decideAlone_93 : decode mi_X_decideAlone.2.1 93 = .ok (.getfield 236, 3) := by decide +kernel
theorem d_X_decideAlone_96 : decode mi_X_decideAlone.2.1 96 = .ok (.if_icmp .ge 80, 3) := by decide +kernel
theorem d_X_decideAlone_99 : decode mi_X_decideAlone.2.1 99 = .ok (.aload_n 0, 1) := by decide +kernel
theorem d_X_decideAlone_100 : decode mi_X_decideAlone.2.1 100 = .ok (.getfield 239, 3) := by decide +kernel
theorem d_X_decideAlone_103 : decode mi_X_decideAlone.2.1 103 = .ok (.iload 6, 2) := by decide +kernel
theorem d_X_decideAlone_105 : decode mi_X_decideAlone.2.1 105 = .ok (.aaload, 1) := by decide +kernel
theorem d_X_decideAlone_106 : decode mi_X_decideAlone.2.1 106 = .ok (.getfield 129, 3) := by decide +kernel
theorem d_X_decideAlone_109 : decode mi_X_decideAlone.2.1 109 = .ok (.astore 7, 2) := by decide +kernel
theorem d_X_decideAlone_111 : decode mi_X_decideAlone.2.1 111 = .ok (.aload 7, 2) := by decide +kernel
theorem d_X_decideAlone_113 : decode mi_X_decideAlone.2.1 113 = .ok (.ifnull 57, 3) := by decide +kernel
theorem d_X_decideAlone_116 : decode mi_X_decideAlone.2.1 116 = .ok (.aload 7, 2) := by decide +kernel
theorem d_X_decideAlone_118 : decode mi_X_decideAlone.2.1 118 = .ok (.aload 7, 2) := by decide +kernel
theorem d_X_decideAlone_120 : decode mi_X_decideAlone.2.1 120 = .ok (.invokevirtual 135, 3) := by decide +kernel
theorem d_X_decideAlone_123 : decode mi_X_decideAlone.2.1 123 = .ok (.iload 5, 2) := by decide +kernel
theorem d_X_decideAlone_125 : decode mi_X_decideAlone.2.1 125 = .ok (.aload_n 2, 1) := by decide +kernel
theorem d_X_decideAlone_126 : decode mi_X_decideAlone.2.1 126 = .ok (.getfield 195, 3) := by decide +kernel
theorem d_X_decideAlone_129 : decode mi_X_decideAlone.2.1 129 = .ok (.iload 4, 2) := by decide +kernel
theorem d_X_decideAlone_131 : decode mi_X_decideAlone.2.1 131 = .ok (.iaload, 1) := by decide +kernel
theorem d_X_decideAlone_132 : decode mi_X_decideAlone.2.1 132 = .ok (.invokevirtual 426, 3) := by decide +kernel
theorem d_X_decideAlone_135 : decode mi_X_decideAlone.2.1 135 = .ok (.ifCond .eq 35, 3) := by decide +kernel
theorem d_X_decideAlone_138 : decode mi_X_decideAlone.2.1 138 = .ok (.aload_n 0, 1) := by decide +kernel
theorem d_X_decideAlone_139 : decode mi_X_decideAlone.2.1 139 = .ok (.getfield 239, 3) := by decide +kernel
theorem d_X_decideAlone_142 : decode mi_X_decideAlone.2.1 142 = .ok (.iload 6, 2) := by decide +kernel
theorem d_X_decideAlone_144 : decode mi_X_decideAlone.2.1 144 = .ok (.aaload, 1) := by decide +kernel
theorem d_X_decideAlone_145 : decode mi_X_decideAlone.2.1 145 = .ok (.iload_n 1, 1) := by decide +kernel
theorem d_X_decideAlone_146 : decode mi_X_decideAlone.2.1 146 = .ok (.iconst 1, 1) := by decide +kernel
theorem d_X_decideAlone_147 : decode mi_X_decideAlone.2.1 147 = .ok (.iadd, 1) := by decide +kernel
theorem d_X_decideAlone_148 : decode mi_X_decideAlone.2.1 148 = .ok (.iload 5, 2) := by decide +kernel
theorem d_X_decideAlone_150 : decode mi_X_decideAlone.2.1 150 = .ok (.invokestatic 205, 3) := by decide +kernel
theorem d_X_decideAlone_153 : decode mi_X_decideAlone.2.1 153 = .ok (.invokevirtual 463, 3) := by decide +kernel
theorem d_X_decideAlone_156 : decode mi_X_decideAlone.2.1 156 = .ok (.istore 8, 2) := by decide +kernel
theorem d_X_decideAlone_158 : decode mi_X_decideAlone.2.1 158 = .ok (.aload_n 3, 1) := by decide +kernel
theorem d_X_decideAlone_159 : decode mi_X_decideAlone.2.1 159 = .ok (.iload_n 1, 1) := by decide +kernel
theorem d_X_decideAlone_160 : decode mi_X_decideAlone.2.1 160 = .ok (.iload 8, 2) := by decide +kernel
theorem d_X_decideAlone_162 : decode mi_X_decideAlone.2.1 162 = .ok (.bipush 6, 2) := by decide +kernel
theorem d_X_decideAlone_164 : decode mi_X_decideAlone.2.1 164 = .ok (.iload 6, 2) := by decide +kernel
theorem d_X_decideAlone_166 : decode mi_X_decideAlone.2.1 166 = .ok (.invokevirtual 451, 3) := by decide +kernel
theorem d_X_decideAlone_169 : decode mi_X_decideAlone.2.1 169 = .ok (.return_, 1) := by decide +kernel
theorem d_X_decideAlone_170 : decode mi_X_decideAlone.2.1 170 = .ok (.iinc 6 1, 3) := by decide +kernel
theorem d_X_decideAlone_173 : decode mi_X_decideAlone.2.1 173 = .ok (.goto (-83), 3) := by decide +kernel
theorem d_X_decideAlone_176 : decode mi_X_decideAlone.2.1 176 = .ok (.aload_n 3, 1) := by decide +kernel
theorem d_X_decideAlone_177 : decode mi_X_decideAlone.2.1 177 = .ok (.iload_n 1, 1) := by decide +kernel
theorem d_X_decideAlone_178 : decode mi_X_decideAlone.2.1 178 = .ok (.aload_n 0, 1) := by decide +kernel
theorem d_X_decideAlone_179 : decode mi_X_decideAlone.2.1 179 = .ok (.getfield 229, 3) := by decide +kernel
theorem d_X_decideAlone_182 : decode mi_X_decideAlone.2.1 182 = .ok (.bipush 7, 2) := by decide +kernel
theorem d_X_decideAlone_184 : decode mi_X_decideAlone.2.1 184 = .ok (.iconst (-1), 1) := by decide +kernel
theorem d_X_decideAlone_185 : decode mi_X_decideAlone.2.1 185 = .ok (.invokevirtual 451, 3) := by decide +kernel
theorem d_X_decideAlone_188 : decode mi_X_decideAlone.2.1 188 = .ok (.return_, 1) := by decide +kernel
theorem d_X_firstBucket_0 : decode mi_X_firstBucket.2.1 0 = .ok (.sipush 333, 3) := by decide +kernel
theorem d_X_firstBucket_3 : decode mi_X_firstBucket.2.1 3 = .ok (.iload_n 0, 1) := by decide +kernel
theorem d_X_firstBucket_4 : decode mi_X_firstBucket.2.1 4 = .ok (.iconst 1, 1) := by decide +kernel
theorem d_X_firstBucket_5 : decode mi_X_firstBucket.2.1 5 = .ok (.isub, 1) := by decide +kernel
theorem d_X_firstBucket_6 : decode mi_X_firstBucket.2.1 6 = .ok (.imul, 1) := by decide +kernel
theorem d_X_firstBucket_7 : decode mi_X_firstBucket.2.1 7 = .ok (.ireturn, 1) := by decide +kernel
theorem d_X_would_0 : decode mi_X_would.2.1 0 = .ok (.aload_n 0, 1) := by decide +kernel
theorem d_X_would_1 : decode mi_X_would.2.1 1 = .ok (.getfield 12, 3) := by decide +kernel
theorem d_X_would_4 : decode mi_X_would.2.1 4 = .ok (.getfield 179, 3) := by decide +kernel
theorem d_X_would_7 : decode mi_X_would.2.1 7 = .ok (.iload_n 2, 1) := by decide +kernel
theorem d_X_would_8 : decode mi_X_would.2.1 8 = .ok (.i2l, 1) := by decide +kernel
theorem d_X_would_9 : decode mi_X_would.2.1 9 = .ok (.invokevirtual 183, 3) := by decide +kernel
theorem d_X_would_12 : decode mi_X_would.2.1 12 = .ok (.istore 4, 2) := by decide +kernel
theorem d_X_would_14 : decode mi_X_would.2.1 14 = .ok (.iload 4, 2) := by decide +kernel
theorem d_X_would_16 : decode mi_X_would.2.1 16 = .ok (.iconst (-1), 1) := by decide +kernel
theorem d_X_would_17 : decode mi_X_would.2.1 17 = .ok (.if_icmp .eq 20, 3) := by decide +kernel
theorem d_X_would_20 : decode mi_X_would.2.1 20 = .ok (.aload_n 0, 1) := by decide +kernel
theorem d_X_would_21 : decode mi_X_would.2.1 21 = .ok (.iload_n 1, 1) := by decide +kernel
theorem d_X_would_22 : decode mi_X_would.2.1 22 = .ok (.invokevirtual 220, 3) := by decide +kernel
theorem d_X_would_25 : decode mi_X_would.2.1 25 = .ok (.ifCond .eq 12, 3) := by decide +kernel
theorem d_X_would_28 : decode mi_X_would.2.1 28 = .ok (.iload_n 3, 1) := by decide +kernel
theorem d_X_would_29 : decode mi_X_would.2.1 29 = .ok (.ifCond .lt 8, 3) := by decide +kernel
theorem d_X_would_32 : decode mi_X_would.2.1 32 = .ok (.iload_n 3, 1) := by decide +kernel
theorem d_X_would_33 : decode mi_X_would.2.1 33 = .ok (.iconst 3, 1) := by decide +kernel
theorem d_X_would_34 : decode mi_X_would.2.1 34 = .ok (.if_icmp .le 10, 3) := by decide +kernel
theorem d_X_would_37 : decode mi_X_would.2.1 37 = .ok (.aload_n 0, 1) := by decide +kernel
theorem d_X_would_38 : decode mi_X_would.2.1 38 = .ok (.bipush (-32), 2) := by decide +kernel
theorem d_X_would_40 : decode mi_X_would.2.1 40 = .ok (.invokevirtual 75, 3) := by decide +kernel
theorem d_X_would_43 : decode mi_X_would.2.1 43 = .ok (.ireturn, 1) := by decide +kernel
theorem d_X_would_44 : decode mi_X_would.2.1 44 = .ok (.aload_n 0, 1) := by decide +kernel
theorem d_X_would_45 : decode mi_X_would.2.1 45 = .ok (.iload_n 1, 1) := by decide +kernel
theorem d_X_would_46 : decode mi_X_would.2.1 46 = .ok (.iload 4, 2) := by decide +kernel
theorem d_X_would_48 : decode mi_X_would.2.1 48 = .ok (.invokevirtual 321, 3) := by decide +kernel
theorem d_X_would_51 : decode mi_X_would.2.1 51 = .ok (.pop, 1) := by decide +kernel
theorem d_X_would_52 : decode mi_X_would.2.1 52 = .ok (.iload_n 3, 1) := by decide +kernel
theorem d_X_would_53 : decode mi_X_would.2.1 53 = .ok (.tableswitch 57 0 2 #[27, 37, 47], 27) := by decide +kernel
theorem d_X_would_80 : decode mi_X_would.2.1 80 = .ok (.aload_n 0, 1) := by decide +kernel
theorem d_X_would_81 : decode mi_X_would.2.1 81 = .ok (.getfield 29, 3) := by decide +kernel
theorem d_X_would_84 : decode mi_X_would.2.1 84 = .ok (.getfield 324, 3) := by decide +kernel
theorem d_X_would_87 : decode mi_X_would.2.1 87 = .ok (.iload_n 1, 1) := by decide +kernel
theorem d_X_would_88 : decode mi_X_would.2.1 88 = .ok (.iaload, 1) := by decide +kernel
theorem d_X_would_89 : decode mi_X_would.2.1 89 = .ok (.ireturn, 1) := by decide +kernel
theorem d_X_would_90 : decode mi_X_would.2.1 90 = .ok (.aload_n 0, 1) := by decide +kernel
theorem d_X_would_91 : decode mi_X_would.2.1 91 = .ok (.getfield 29, 3) := by decide +kernel
theorem d_X_would_94 : decode mi_X_would.2.1 94 = .ok (.getfield 327, 3) := by decide +kernel
theorem d_X_would_97 : decode mi_X_would.2.1 97 = .ok (.iload_n 1, 1) := by decide +kernel
theorem d_X_would_98 : decode mi_X_would.2.1 98 = .ok (.iaload, 1) := by decide +kernel
theorem d_X_would_99 : decode mi_X_would.2.1 99 = .ok (.ireturn, 1) := by decide +kernel
theorem d_X_would_100 : decode mi_X_would.2.1 100 = .ok (.aload_n 0, 1) := by decide +kernel
theorem d_X_would_101 : decode mi_X_would.2.1 101 = .ok (.getfield 29, 3) := by decide +kernel
theorem d_X_would_104 : decode mi_X_would.2.1 104 = .ok (.getfield 330, 3) := by decide +kernel
theorem d_X_would_107 : decode mi_X_would.2.1 107 = .ok (.iload_n 1, 1) := by decide +kernel
theorem d_X_would_108 : decode mi_X_would.2.1 108 = .ok (.iaload, 1) := by decide +kernel
theorem d_X_would_109 : decode mi_X_would.2.1 109 = .ok (.ireturn, 1) := by decide +kernel
theorem d_X_would_110 : decode mi_X_would.2.1 110 = .ok (.aload_n 0, 1) := by decide +kernel
theorem d_X_would_111 : decode mi_X_would.2.1 111 = .ok (.getfield 29, 3) := by decide +kernel
theorem d_X_would_114 : decode mi_X_would.2.1 114 = .ok (.getfield 333, 3) := by decide +kernel
theorem d_X_would_117 : decode mi_X_would.2.1 117 = .ok (.ireturn, 1) := by decide +kernel
theorem d_X_path_0 : decode mi_X_path.2.1 0 = .ok (.aload_n 0, 1) := by decide +kernel
theorem d_X_path_1 : decode mi_X_path.2.1 1 = .ok (.getfield 12, 3) := by decide +kernel
theorem d_X_path_4 : decode mi_X_path.2.1 4 = .ok (.getfield 179, 3) := by decide +kernel
theorem d_X_path_7 : decode mi_X_path.2.1 7 = .ok (.iload_n 2, 1) := by decide +kernel
theorem d_X_path_8 : decode mi_X_path.2.1 8 = .ok (.i2l, 1) := by decide +kernel
theorem d_X_path_9 : decode mi_X_path.2.1 9 = .ok (.invokevirtual 183, 3) := by decide +kernel
theorem d_X_path_12 : decode mi_X_path.2.1 12 = .ok (.istore 5, 2) := by decide +kernel
theorem d_X_path_14 : decode mi_X_path.2.1 14 = .ok (.iload 5, 2) := by decide +kernel
theorem d_X_path_16 : decode mi_X_path.2.1 16 = .ok (.iconst (-1), 1) := by decide +kernel
theorem d_X_path_17 : decode mi_X_path.2.1 17 = .ok (.if_icmp .eq 22, 3) := by decide +kernel
theorem d_X_path_20 : decode mi_X_path.2.1 20 = .ok (.aload_n 0, 1) := by decide +kernel
theorem d_X_path_21 : decode mi_X_path.2.1 21 = .ok (.iload_n 1, 1) := by decide +kernel
theorem d_X_path_22 : decode mi_X_path.2.1 22 = .ok (.invokevirtual 220, 3) := by decide +kernel
theorem d_X_path_25 : decode mi_X_path.2.1 25 = .ok (.ifCond .eq 14, 3) := by decide +kernel
theorem d_X_path_28 : decode mi_X_path.2.1 28 = .ok (.iload 4, 2) := by decide +kernel
theorem d_X_path_30 : decode mi_X_path.2.1 30 = .ok (.ifCond .lt 9, 3) := by decide +kernel
theorem d_X_path_33 : decode mi_X_path.2.1 33 = .ok (.iload 4, 2) := by decide +kernel
theorem d_X_path_35 : decode mi_X_path.2.1 35 = .ok (.iconst 3, 1) := by decide +kernel
theorem d_X_path_36 : decode mi_X_path.2.1 36 = .ok (.if_icmp .le 10, 3) := by decide +kernel
theorem d_X_path_39 : decode mi_X_path.2.1 39 = .ok (.aload_n 0, 1) := by decide +kernel
theorem d_X_path_40 : decode mi_X_path.2.1 40 = .ok (.bipush (-32), 2) := by decide +kernel
theorem d_X_path_42 : decode mi_X_path.2.1 42 = .ok (.invokevirtual 75, 3) := by decide +kernel
theorem d_X_path_45 : decode mi_X_path.2.1 45 = .ok (.ireturn, 1) := by decide +kernel
theorem d_X_path_46 : decode mi_X_path.2.1 46 = .ok (.aload_n 0, 1) := by decide +kernel
theorem d_X_path_47 : decode mi_X_path.2.1 47 = .ok (.iload_n 1, 1) := by decide +kernel
theorem d_X_path_48 : decode mi_X_path.2.1 48 = .ok (.iload 5, 2) := by decide +kernel
theorem d_X_path_50 : decode mi_X_path.2.1 50 = .ok (.invokevirtual 321, 3) := by decide +kernel
theorem d_X_path_53 : decode mi_X_path.2.1 53 = .ok (.pop, 1) := by decide +kernel
theorem d_X_path_54 : decode mi_X_path.2.1 54 = .ok (.iload_n 3, 1) := by decide +kernel
theorem d_X_path_55 : decode mi_X_path.2.1 55 = .ok (.ifCond .lt 14, 3) := by decide +kernel
theorem d_X_path_58 : decode mi_X_path.2.1 58 = .ok (.iload_n 3, 1) := by decide +kernel
theorem d_X_path_59 : decode mi_X_path.2.1 59 = .ok (.aload_n 0, 1) := by decide +kernel
theorem d_X_path_60 : decode mi_X_path.2.1 60 = .ok (.getfield 29, 3) := by decide +kernel
theorem d_X_path_63 : decode mi_X_path.2.1 63 = .ok (.getfield 333, 3) := by decide +kernel
theorem d_X_path_66 : decode mi_X_path.2.1 66 = .ok (.if_icmp .lt 10, 3) := by decide +kernel
theorem d_X_path_69 : decode mi_X_path.2.1 69 = .ok (.aload_n 0, 1) := by decide +kernel
theorem d_X_path_70 : decode mi_X_path.2.1 70 = .ok (.bipush (-32), 2) := by decide +kernel
theorem d_X_path_72 : decode mi_X_path.2.1 72 = .ok (.invokevirtual 75, 3) := by decide +kernel
theorem d_X_path_75 : decode mi_X_path.2.1 75 = .ok (.ireturn, 1) := by decide +kernel
theorem d_X_path_76 : decode mi_X_path.2.1 76 = .ok (.aload_n 0, 1) := by decide +kernel
theorem d_X_path_77 : decode mi_X_path.2.1 77 = .ok (.getfield 29, 3) := by decide +kernel
theorem d_X_path_80 : decode mi_X_path.2.1 80 = .ok (.getfield 336, 3) := by decide +kernel
theorem d_X_path_83 : decode mi_X_path.2.1 83 = .ok (.iload_n 3, 1) := by decide +kernel
theorem d_X_path_84 : decode mi_X_path.2.1 84 = .ok (.iaload, 1) := by decide +kernel
theorem d_X_path_85 : decode mi_X_path.2.1 85 = .ok (.istore 6, 2) := by decide +kernel
theorem d_X_path_87 : decode mi_X_path.2.1 87 = .ok (.iload 4, 2) := by decide +kernel
theorem d_X_path_89 : decode mi_X_path.2.1 89 = .ok (.tableswitch 52 0 2 #[27, 30, 41], 27) := by decide +kernel
theorem d_X_path_116 : decode mi_X_path.2.1 116 = .ok (.iload 6, 2) := by decide +kernel
theorem d_X_path_118 : decode mi_X_path.2.1 118 = .ok (.ireturn, 1) := by decide +kernel
theorem d_X_path_119 : decode mi_X_path.2.1 119 = .ok (.aload_n 0, 1) := by decide +kernel
theorem d_X_path_120 : decode mi_X_path.2.1 120 = .ok (.getfield 29, 3) := by decide +kernel
theorem d_X_path_123 : decode mi_X_path.2.1 123 = .ok (.getfield 327, 3) := by decide +kernel
theorem d_X_path_126 : decode mi_X_path.2.1 126 = .ok (.iload 6, 2) := by decide +kernel
theorem d_X_path_128 : decode mi_X_path.2.1 128 = .ok (.iaload, 1) := by decide +kernel
theorem d_X_path_129 : decode mi_X_path.2.1 129 = .ok (.ireturn, 1) := by decide +kernel
theorem d_X_path_130 : decode mi_X_path.2.1 130 = .ok (.aload_n 0, 1) := by decide +kernel
theorem d_X_path_131 : decode mi_X_path.2.1 131 = .ok (.getfield 29, 3) := by decide +kernel
theorem d_X_path_134 : decode mi_X_path.2.1 134 = .ok (.getfield 330, 3) := by decide +kernel
theorem d_X_path_137 : decode mi_X_path.2.1 137 = .ok (.iload 6, 2) := by decide +kernel
theorem d_X_path_139 : decode mi_X_path.2.1 139 = .ok (.iaload, 1) := by decide +kernel
theorem d_X_path_140 : decode mi_X_path.2.1 140 = .ok (.ireturn, 1) := by decide +kernel
theorem d_X_path_141 : decode mi_X_path.2.1 141 = .ok (.aload_n 0, 1) := by decide +kernel
theorem d_X_path_142 : decode mi_X_path.2.1 142 = .ok (.getfield 29, 3) := by decide +kernel
theorem d_X_path_145 : decode mi_X_path.2.1 145 = .ok (.getfield 324, 3) := by decide +kernel
theorem d_X_path_148 : decode mi_X_path.2.1 148 = .ok (.iload 6, 2) := by decide +kernel
theorem d_X_path_150 : decode mi_X_path.2.1 150 = .ok (.iaload, 1) := by decide +kernel
theorem d_X_path_151 : decode mi_X_path.2.1 151 = .ok (.ireturn, 1) := by decide +kernel
theorem d_X_later_0 : decode mi_X_later.2.1 0 = .ok (.aload_n 0, 1) := by decide +kernel
theorem d_X_later_1 : decode mi_X_later.2.1 1 = .ok (.getfield 12, 3) := by decide +kernel
theorem d_X_later_4 : decode mi_X_later.2.1 4 = .ok (.getfield 179, 3) := by decide +kernel
theorem d_X_later_7 : decode mi_X_later.2.1 7 = .ok (.iload_n 2, 1) := by decide +kernel
theorem d_X_later_8 : decode mi_X_later.2.1 8 = .ok (.i2l, 1) := by decide +kernel
theorem d_X_later_9 : decode mi_X_later.2.1 9 = .ok (.invokevirtual 183, 3) := by decide +kernel
theorem d_X_later_12 : decode mi_X_later.2.1 12 = .ok (.istore 4, 2) := by decide +kernel
theorem d_X_later_14 : decode mi_X_later.2.1 14 = .ok (.iload 4, 2) := by decide +kernel
theorem d_X_later_16 : decode mi_X_later.2.1 16 = .ok (.iconst (-1), 1) := by decide +kernel
theorem d_X_later_17 : decode mi_X_later.2.1 17 = .ok (.if_icmp .eq 37, 3) := by decide +kernel
theorem d_X_later_20 : decode mi_X_later.2.1 20 = .ok (.aload_n 0, 1) := by decide +kernel
theorem d_X_later_21 : decode mi_X_later.2.1 21 = .ok (.iload_n 1, 1) := by decide +kernel
theorem d_X_later_22 : decode mi_X_later.2.1 22 = .ok (.invokevirtual 220, 3) := by decide +kernel
theorem d_X_later_25 : decode mi_X_later.2.1 25 = .ok (.ifCond .eq 29, 3) := by decide +kernel
theorem d_X_later_28 : decode mi_X_later.2.1 28 = .ok (.iload_n 3, 1) := by decide +kernel
theorem d_X_later_29 : decode mi_X_later.2.1 29 = .ok (.aload_n 0, 1) := by decide +kernel
theorem d_X_later_30 : decode mi_X_later.2.1 30 = .ok (.getfield 12, 3) := by decide +kernel
theorem d_X_later_33 : decode mi_X_later.2.1 33 = .ok (.getfield 301, 3) := by decide +kernel
theorem d_X_later_36 : decode mi_X_later.2.1 36 = .ok (.if_icmp .lt 18, 3) := by decide +kernel
theorem d_X_later_39 : decode mi_X_later.2.1 39 = .ok (.iload_n 3, 1) := by decide +kernel
theorem d_X_later_40 : decode mi_X_later.2.1 40 = .ok (.aload_n 0, 1) := by decide +kernel
theorem d_X_later_41 : decode mi_X_later.2.1 41 = .ok (.getfield 12, 3) := by decide +kernel
theorem d_X_later_44 : decode mi_X_later.2.1 44 = .ok (.getfield 301, 3) := by decide +kernel
theorem d_X_later_47 : decode mi_X_later.2.1 47 = .ok (.isub, 1) := by decide +kernel
theorem d_X_later_48 : decode mi_X_later.2.1 48 = .ok (.sipush 9999, 3) := by decide +kernel
theorem d_X_later_51 : decode mi_X_later.2.1 51 = .ok (.if_icmp .le 10, 3) := by decide +kernel
theorem d_X_later_54 : decode mi_X_later.2.1 54 = .ok (.aload_n 0, 1) := by decide +kernel
theorem d_X_later_55 : decode mi_X_later.2.1 55 = .ok (.bipush (-32), 2) := by decide +kernel
theorem d_X_later_57 : decode mi_X_later.2.1 57 = .ok (.invokevirtual 75, 3) := by decide +kernel
theorem d_X_later_60 : decode mi_X_later.2.1 60 = .ok (.ireturn, 1) := by decide +kernel
theorem d_X_later_61 : decode mi_X_later.2.1 61 = .ok (.aload_n 0, 1) := by decide +kernel
theorem d_X_later_62 : decode mi_X_later.2.1 62 = .ok (.getfield 19, 3) := by decide +kernel
theorem d_X_later_65 : decode mi_X_later.2.1 65 = .ok (.aload_n 0, 1) := by decide +kernel
theorem d_X_later_66 : decode mi_X_later.2.1 66 = .ok (.getfield 12, 3) := by decide +kernel
theorem d_X_later_69 : decode mi_X_later.2.1 69 = .ok (.invokevirtual 339, 3) := by decide +kernel
theorem d_X_later_72 : decode mi_X_later.2.1 72 = .ok (.aload_n 0, 1) := by decide +kernel
theorem d_X_later_73 : decode mi_X_later.2.1 73 = .ok (.getfield 19, 3) := by decide +kernel
theorem d_X_later_76 : decode mi_X_later.2.1 76 = .ok (.iload_n 3, 1) := by decide +kernel
theorem d_X_later_77 : decode mi_X_later.2.1 77 = .ok (.invokevirtual 343, 3) := by decide +kernel
theorem d_X_later_80 : decode mi_X_later.2.1 80 = .ok (.pop, 1) := by decide +kernel
theorem d_X_later_81 : decode mi_X_later.2.1 81 = .ok (.aload_n 0, 1) := by decide +kernel
theorem d_X_later_82 : decode mi_X_later.2.1 82 = .ok (.iload_n 1, 1) := by decide +kernel
theorem d_X_later_83 : decode mi_X_later.2.1 83 = .ok (.iload 4, 2) := by decide +kernel
theorem d_X_later_85 : decode mi_X_later.2.1 85 = .ok (.invokevirtual 346, 3) := by decide +kernel
theorem d_X_later_88 : decode mi_X_later.2.1 88 = .ok (.ireturn, 1) := by decide +kernel
theorem d_X_answerInTrial_0 : decode mi_X_answerInTrial.2.1 0 = .ok (.aload_n 0, 1) := by decide +kernel
theorem d_X_answerInTrial_1 : decode mi_X_answerInTrial.2.1 1 = .ok (.getfield 33, 3) := by decide +kernel
theorem d_X_answerInTrial_4 : decode mi_X_answerInTrial.2.1 4 = .ok (.invokevirtual 429, 3) := by decide +kernel
theorem d_X_answerInTrial_7 : decode mi_X_answerInTrial.2.1 7 = .ok (.aload_n 0, 1) := by decide +kernel
theorem d_X_answerInTrial_8 : decode mi_X_answerInTrial.2.1 8 = .ok (.getfield 19, 3) := by decide +kernel
theorem d_X_answerInTrial_11 : decode mi_X_answerInTrial.2.1 11 = .ok (.aload_n 0, 1) := by decide +kernel
theorem d_X_answerInTrial_12 : decode mi_X_answerInTrial.2.1 12 = .ok (.getfield 33, 3) := by decide +kernel
theorem d_X_answerInTrial_15 : decode mi_X_answerInTrial.2.1 15 = .ok (.iload_n 2, 1) := by decide +kernel
theorem d_X_answerInTrial_16 : decode mi_X_answerInTrial.2.1 16 = .ok (.iload_n 1, 1) := by decide +kernel
theorem d_X_answerInTrial_17 : decode mi_X_answerInTrial.2.1 17 = .ok (.iconst 0, 1) := by decide +kernel
theorem d_X_answerInTrial_18 : decode mi_X_answerInTrial.2.1 18 = .ok (.invokestatic 432, 3) := by decide +kernel
theorem d_X_answerInTrial_21 : decode mi_X_answerInTrial.2.1 21 = .ok (.aload_n 0, 1) := by decide +kernel
theorem d_X_answerInTrial_22 : decode mi_X_answerInTrial.2.1 22 = .ok (.getfield 33, 3) := by decide +kernel
theorem d_X_answerInTrial_25 : decode mi_X_answerInTrial.2.1 25 = .ok (.iload_n 1, 1) := by decide +kernel
theorem d_X_answerInTrial_26 : decode mi_X_answerInTrial.2.1 26 = .ok (.invokevirtual 436, 3) := by decide +kernel
theorem d_X_answerInTrial_29 : decode mi_X_answerInTrial.2.1 29 = .ok (.ireturn, 1) := by decide +kernel
theorem d_X_reach_0 : decode mi_X_reach.2.1 0 = .ok (.aload_n 0, 1) := by decide +kernel
theorem d_X_reach_1 : decode mi_X_reach.2.1 1 = .ok (.iload_n 1, 1) := by decide +kernel
theorem d_X_reach_2 : decode mi_X_reach.2.1 2 = .ok (.iload_n 2, 1) := by decide +kernel
theorem d_X_reach_3 : decode mi_X_reach.2.1 3 = .ok (.invokevirtual 271, 3) := by decide +kernel
theorem d_X_reach_6 : decode mi_X_reach.2.1 6 = .ok (.ifCond .ne 10, 3) := by decide +kernel
theorem d_X_reach_9 : decode mi_X_reach.2.1 9 = .ok (.aload_n 0, 1) := by decide +kernel
theorem d_X_reach_10 : decode mi_X_reach.2.1 10 = .ok (.bipush (-32), 2) := by decide +kernel
theorem d_X_reach_12 : decode mi_X_reach.2.1 12 = .ok (.invokevirtual 75, 3) := by decide +kernel
theorem d_X_reach_15 : decode mi_X_reach.2.1 15 = .ok (.ireturn, 1) := by decide +kernel
theorem d_X_reach_16 : decode mi_X_reach.2.1 16 = .ok (.iconst 0, 1) := by decide +kernel
theorem d_X_reach_17 : decode mi_X_reach.2.1 17 = .ok (.istore_n 3, 1) := by decide +kernel
theorem d_X_reach_18 : decode mi_X_reach.2.1 18 = .ok (.iconst 0, 1) := by decide +kernel
theorem d_X_reach_19 : decode mi_X_reach.2.1 19 = .ok (.istore 4, 2) := by decide +kernel
theorem d_X_reach_21 : decode mi_X_reach.2.1 21 = .ok (.iload 4, 2) := by decide +kernel
theorem d_X_reach_23 : decode mi_X_reach.2.1 23 = .ok (.aload_n 0, 1) := by decide +kernel
theorem d_X_reach_24 : decode mi_X_reach.2.1 24 = .ok (.getfield 12, 3) := by decide +kernel
theorem d_X_reach_27 : decode mi_X_reach.2.1 27 = .ok (.getfield 179, 3) := by decide +kernel
theorem d_X_reach_30 : decode mi_X_reach.2.1 30 = .ok (.getfield 189, 3) := by decide +kernel
theorem d_X_reach_33 : decode mi_X_reach.2.1 33 = .ok (.if_icmp .ge 23, 3) := by decide +kernel
theorem d_X_reach_36 : decode mi_X_reach.2.1 36 = .ok (.aload_n 0, 1) := by decide +kernel
theorem d_X_reach_37 : decode mi_X_reach.2.1 37 = .ok (.iload_n 1, 1) := by decide +kernel
theorem d_X_reach_38 : decode mi_X_reach.2.1 38 = .ok (.iload 4, 2) := by decide +kernel
theorem d_X_reach_40 : decode mi_X_reach.2.1 40 = .ok (.invokevirtual 321, 3) := by decide +kernel
theorem d_X_reach_43 : decode mi_X_reach.2.1 43 = .ok (.iload_n 2, 1) := by decide +kernel
theorem d_X_reach_44 : decode mi_X_reach.2.1 44 = .ok (.if_icmp .ne 6, 3) := by decide +kernel
theorem d_X_reach_47 : decode mi_X_reach.2.1 47 = .ok (.iinc 3 1, 3) := by decide +kernel
theorem d_X_reach_50 : decode mi_X_reach.2.1 50 = .ok (.iinc 4 1, 3) := by decide +kernel
theorem d_X_reach_53 : decode mi_X_reach.2.1 53 = .ok (.goto (-32), 3) := by decide +kernel
theorem d_X_reach_56 : decode mi_X_reach.2.1 56 = .ok (.iload_n 3, 1) := by decide +kernel
theorem d_X_reach_57 : decode mi_X_reach.2.1 57 = .ok (.ireturn, 1) := by decide +kernel
theorem d_X_counted_0 : decode mi_X_counted.2.1 0 = .ok (.aload_n 0, 1) := by decide +kernel
theorem d_X_counted_1 : decode mi_X_counted.2.1 1 = .ok (.iload_n 1, 1) := by decide +kernel
theorem d_X_counted_2 : decode mi_X_counted.2.1 2 = .ok (.iload_n 2, 1) := by decide +kernel
theorem d_X_counted_3 : decode mi_X_counted.2.1 3 = .ok (.invokevirtual 271, 3) := by decide +kernel
theorem d_X_counted_6 : decode mi_X_counted.2.1 6 = .ok (.ifCond .ne 10, 3) := by decide +kernel
theorem d_X_counted_9 : decode mi_X_counted.2.1 9 = .ok (.aload_n 0, 1) := by decide +kernel
theorem d_X_counted_10 : decode mi_X_counted.2.1 10 = .ok (.bipush (-32), 2) := by decide +kernel
theorem d_X_counted_12 : decode mi_X_counted.2.1 12 = .ok (.invokevirtual 75, 3) := by decide +kernel
theorem d_X_counted_15 : decode mi_X_counted.2.1 15 = .ok (.ireturn, 1) := by decide +kernel
theorem d_X_counted_16 : decode mi_X_counted.2.1 16 = .ok (.aload_n 0, 1) := by decide +kernel
theorem d_X_counted_17 : decode mi_X_counted.2.1 17 = .ok (.getfield 12, 3) := by decide +kernel
theorem d_X_counted_20 : decode mi_X_counted.2.1 20 = .ok (.getfield 211, 3) := by decide +kernel
theorem d_X_counted_23 : decode mi_X_counted.2.1 23 = .ok (.iload_n 1, 1) := by decide +kernel
theorem d_X_counted_24 : decode mi_X_counted.2.1 24 = .ok (.aaload, 1) := by decide +kernel
theorem d_X_counted_25 : decode mi_X_counted.2.1 25 = .ok (.getfield 349, 3) := by decide +kernel
theorem d_X_counted_28 : decode mi_X_counted.2.1 28 = .ok (.iload_n 2, 1) := by decide +kernel
theorem d_X_counted_29 : decode mi_X_counted.2.1 29 = .ok (.iaload, 1) := by decide +kernel
theorem d_X_counted_30 : decode mi_X_counted.2.1 30 = .ok (.ireturn, 1) := by decide +kernel
theorem d_X_by_0 : decode mi_X_by.2.1 0 = .ok (.aload_n 0, 1) := by decide +kernel
theorem d_X_by_1 : decode mi_X_by.2.1 1 = .ok (.iload_n 1, 1) := by decide +kernel
theorem d_X_by_2 : decode mi_X_by.2.1 2 = .ok (.invokevirtual 220, 3) := by decide +kernel
theorem d_X_by_5 : decode mi_X_by.2.1 5 = .ok (.ifCond .eq 14, 3) := by decide +kernel
theorem d_X_by_8 : decode mi_X_by.2.1 8 = .ok (.iload_n 2, 1) := by decide +kernel
theorem d_X_by_9 : decode mi_X_by.2.1 9 = .ok (.iconst 1, 1) := by decide +kernel
theorem d_X_by_10 : decode mi_X_by.2.1 10 = .ok (.if_icmp .lt 9, 3) := by decide +kernel
theorem d_X_by_13 : decode mi_X_by.2.1 13 = .ok (.iload_n 2, 1) := by decide +kernel
theorem d_X_by_14 : decode mi_X_by.2.1 14 = .ok (.bipush 7, 2) := by decide +kernel
theorem d_X_by_16 : decode mi_X_by.2.1 16 = .ok (.if_icmp .le 10, 3) := by decide +kernel
theorem d_X_by_19 : decode mi_X_by.2.1 19 = .ok (.aload_n 0, 1) := by decide +kernel
theorem d_X_by_20 : decode mi_X_by.2.1 20 = .ok (.bipush (-32), 2) := by decide +kernel
theorem d_X_by_22 : decode mi_X_by.2.1 22 = .ok (.invokevirtual 75, 3) := by decide +kernel
theorem d_X_by_25 : decode mi_X_by.2.1 25 = .ok (.ireturn, 1) := by decide +kernel
theorem d_X_by_26 : decode mi_X_by.2.1 26 = .ok (.iconst 0, 1) := by decide +kernel
theorem d_X_by_27 : decode mi_X_by.2.1 27 = .ok (.istore_n 3, 1) := by decide +kernel
theorem d_X_by_28 : decode mi_X_by.2.1 28 = .ok (.iconst 0, 1) := by decide +kernel
theorem d_X_by_29 : decode mi_X_by.2.1 29 = .ok (.istore 4, 2) := by decide +kernel
theorem d_X_by_31 : decode mi_X_by.2.1 31 = .ok (.iload 4, 2) := by decide +kernel
theorem d_X_by_33 : decode mi_X_by.2.1 33 = .ok (.aload_n 0, 1) := by decide +kernel
theorem d_X_by_34 : decode mi_X_by.2.1 34 = .ok (.getfield 12, 3) := by decide +kernel
theorem d_X_by_37 : decode mi_X_by.2.1 37 = .ok (.getfield 179, 3) := by decide +kernel
theorem d_X_by_40 : decode mi_X_by.2.1 40 = .ok (.getfield 189, 3) := by decide +kernel
theorem d_X_by_43 : decode mi_X_by.2.1 43 = .ok (.if_icmp .ge 37, 3) := by decide +kernel
theorem d_X_by_46 : decode mi_X_by.2.1 46 = .ok (.aload_n 0, 1) := by decide +kernel
theorem d_X_by_47 : decode mi_X_by.2.1 47 = .ok (.iload_n 1, 1) := by decide +kernel
theorem d_X_by_48 : decode mi_X_by.2.1 48 = .ok (.iload 4, 2) := by decide +kernel
theorem d_X_by_50 : decode mi_X_by.2.1 50 = .ok (.invokevirtual 321, 3) := by decide +kernel
theorem d_X_by_53 : decode mi_X_by.2.1 53 = .ok (.pop, 1) := by decide +kernel
theorem d_X_by_54 : decode mi_X_by.2.1 54 = .ok (.aload_n 0, 1) := by decide +kernel
theorem d_X_by_55 : decode mi_X_by.2.1 55 = .ok (.getfield 29, 3) := by decide +kernel
theorem d_X_by_58 : decode mi_X_by.2.1 58 = .ok (.getfield 327, 3) := by decide +kernel
theorem d_X_by_61 : decode mi_X_by.2.1 61 = .ok (.iload_n 1, 1) := by decide +kernel
theorem d_X_by_62 : decode mi_X_by.2.1 62 = .ok (.iaload, 1) := by decide +kernel
theorem d_X_by_63 : decode mi_X_by.2.1 63 = .ok (.iload_n 2, 1) := by decide +kernel
theorem d_X_by_64 : decode mi_X_by.2.1 64 = .ok (.if_icmp .ne 10, 3) := by decide +kernel
theorem d_X_by_67 : decode mi_X_by.2.1 67 = .ok (.iload_n 3, 1) := by decide +kernel
theorem d_X_by_68 : decode mi_X_by.2.1 68 = .ok (.iconst 1, 1) := by decide +kernel
theorem d_X_by_69 : decode mi_X_by.2.1 69 = .ok (.iload 4, 2) := by decide +kernel
theorem d_X_by_71 : decode mi_X_by.2.1 71 = .ok (.ishl, 1) := by decide +kernel
theorem d_X_by_72 : decode mi_X_by.2.1 72 = .ok (.ior, 1) := by decide +kernel
theorem d_X_by_73 : decode mi_X_by.2.1 73 = .ok (.istore_n 3, 1) := by decide +kernel
theorem d_X_by_74 : decode mi_X_by.2.1 74 = .ok (.iinc 4 1, 3) := by decide +kernel
theorem d_X_by_77 : decode mi_X_by.2.1 77 = .ok (.goto (-46), 3) := by decide +kernel
theorem d_X_by_80 : decode mi_X_by.2.1 80 = .ok (.iload_n 3, 1) := by decide +kernel
theorem d_X_by_81 : decode mi_X_by.2.1 81 = .ok (.ireturn, 1) := by decide +kernel
theorem d_X_so_0 : decode mi_X_so.2.1 0 = .ok (.aload_n 0, 1) := by decide +kernel
theorem d_X_so_1 : decode mi_X_so.2.1 1 = .ok (.iload_n 1, 1) := by decide +kernel
theorem d_X_so_2 : decode mi_X_so.2.1 2 = .ok (.iload_n 2, 1) := by decide +kernel
theorem d_X_so_3 : decode mi_X_so.2.1 3 = .ok (.invokevirtual 122, 3) := by decide +kernel
theorem d_X_so_6 : decode mi_X_so.2.1 6 = .ok (.ifCond .ne 10, 3) := by decide +kernel
theorem d_X_so_9 : decode mi_X_so.2.1 9 = .ok (.aload_n 0, 1) := by decide +kernel
theorem d_X_so_10 : decode mi_X_so.2.1 10 = .ok (.bipush (-32), 2) := by decide +kernel
theorem d_X_so_12 : decode mi_X_so.2.1 12 = .ok (.invokevirtual 75, 3) := by decide +kernel
theorem d_X_so_15 : decode mi_X_so.2.1 15 = .ok (.ireturn, 1) := by decide +kernel
theorem d_X_so_16 : decode mi_X_so.2.1 16 = .ok (.aload_n 0, 1) := by decide +kernel
theorem d_X_so_17 : decode mi_X_so.2.1 17 = .ok (.iload_n 1, 1) := by decide +kernel
theorem d_X_so_18 : decode mi_X_so.2.1 18 = .ok (.iload_n 2, 1) := by decide +kernel
theorem d_X_so_19 : decode mi_X_so.2.1 19 = .ok (.invokevirtual 125, 3) := by decide +kernel
theorem d_X_so_22 : decode mi_X_so.2.1 22 = .ok (.getfield 129, 3) := by decide +kernel
theorem d_X_so_25 : decode mi_X_so.2.1 25 = .ok (.astore_n 3, 1) := by decide +kernel
theorem d_X_so_26 : decode mi_X_so.2.1 26 = .ok (.aload_n 3, 1) := by decide +kernel
theorem d_X_so_27 : decode mi_X_so.2.1 27 = .ok (.ifnonnull 7, 3) := by decide +kernel
theorem d_X_so_30 : decode mi_X_so.2.1 30 = .ok (.iconst 0, 1) := by decide +kernel
theorem d_X_so_31 : decode mi_X_so.2.1 31 = .ok (.goto 12, 3) := by decide +kernel
theorem d_X_so_34 : decode mi_X_so.2.1 34 = .ok (.aload_n 0, 1) := by decide +kernel
theorem d_X_so_35 : decode mi_X_so.2.1 35 = .ok (.aload_n 3, 1) := by decide +kernel
theorem d_X_so_36 : decode mi_X_so.2.1 36 = .ok (.aload_n 3, 1) := by decide +kernel
theorem d_X_so_37 : decode mi_X_so.2.1 37 = .ok (.invokevirtual 135, 3) := by decide +kernel
theorem d_X_so_40 : decode mi_X_so.2.1 40 = .ok (.invokevirtual 161, 3) := by decide +kernel
theorem d_X_so_43 : decode mi_X_so.2.1 43 = .ok (.ireturn, 1) := by decide +kernel
theorem d_X_grow_0 : decode mi_X_grow.2.1 0 = .ok (.aload_n 0, 1) := by decide +kernel
theorem d_X_grow_1 : decode mi_X_grow.2.1 1 = .ok (.iload_n 1, 1) := by decide +kernel
theorem d_X_grow_2 : decode mi_X_grow.2.1 2 = .ok (.iload_n 2, 1) := by decide +kernel
theorem d_X_grow_3 : decode mi_X_grow.2.1 3 = .ok (.iload_n 3, 1) := by decide +kernel
theorem d_X_grow_4 : decode mi_X_grow.2.1 4 = .ok (.invokevirtual 260, 3) := by decide +kernel
theorem d_X_grow_7 : decode mi_X_grow.2.1 7 = .ok (.ifCond .eq 15, 3) := by decide +kernel
theorem d_X_grow_10 : decode mi_X_grow.2.1 10 = .ok (.iload 4, 2) := by decide +kernel
theorem d_X_grow_12 : decode mi_X_grow.2.1 12 = .ok (.ifCond .lt 10, 3) := by decide +kernel
theorem d_X_grow_15 : decode mi_X_grow.2.1 15 = .ok (.iload 4, 2) := by decide +kernel
theorem d_X_grow_17 : decode mi_X_grow.2.1 17 = .ok (.bipush 24, 2) := by decide +kernel
theorem d_X_grow_19 : decode mi_X_grow.2.1 19 = .ok (.if_icmp .le 10, 3) := by decide +kernel
theorem d_X_grow_22 : decode mi_X_grow.2.1 22 = .ok (.aload_n 0, 1) := by decide +kernel
theorem d_X_grow_23 : decode mi_X_grow.2.1 23 = .ok (.bipush (-32), 2) := by decide +kernel
theorem d_X_grow_25 : decode mi_X_grow.2.1 25 = .ok (.invokevirtual 75, 3) := by decide +kernel
theorem d_X_grow_28 : decode mi_X_grow.2.1 28 = .ok (.ireturn, 1) := by decide +kernel
theorem d_X_grow_29 : decode mi_X_grow.2.1 29 = .ok (.aload_n 0, 1) := by decide +kernel
theorem d_X_grow_30 : decode mi_X_grow.2.1 30 = .ok (.iload_n 1, 1) := by decide +kernel
theorem d_X_grow_31 : decode mi_X_grow.2.1 31 = .ok (.iload_n 2, 1) := by decide +kernel
theorem d_X_grow_32 : decode mi_X_grow.2.1 32 = .ok (.invokevirtual 125, 3) := by decide +kernel
theorem d_X_grow_35 : decode mi_X_grow.2.1 35 = .ok (.invokevirtual 267, 3) := by decide +kernel
theorem d_X_grow_38 : decode mi_X_grow.2.1 38 = .ok (.ifCond .eq 10, 3) := by decide +kernel
theorem d_X_grow_41 : decode mi_X_grow.2.1 41 = .ok (.aload_n 0, 1) := by decide +kernel
theorem d_X_grow_42 : decode mi_X_grow.2.1 42 = .ok (.bipush (-35), 2) := by decide +kernel
theorem d_X_grow_44 : decode mi_X_grow.2.1 44 = .ok (.invokevirtual 75, 3) := by decide +kernel
theorem d_X_grow_47 : decode mi_X_grow.2.1 47 = .ok (.ireturn, 1) := by decide +kernel
theorem d_X_grow_48 : decode mi_X_grow.2.1 48 = .ok (.aload_n 0, 1) := by decide +kernel
theorem d_X_grow_49 : decode mi_X_grow.2.1 49 = .ok (.iload_n 1, 1) := by decide +kernel
theorem d_X_grow_50 : decode mi_X_grow.2.1 50 = .ok (.iload_n 2, 1) := by decide +kernel
theorem d_X_grow_51 : decode mi_X_grow.2.1 51 = .ok (.iload_n 3, 1) := by decide +kernel
theorem d_X_grow_52 : decode mi_X_grow.2.1 52 = .ok (.invokevirtual 352, 3) := by decide +kernel
theorem d_X_grow_55 : decode mi_X_grow.2.1 55 = .ok (.iconst 0, 1) := by decide +kernel
theorem d_X_grow_56 : decode mi_X_grow.2.1 56 = .ok (.istore 5, 2) := by decide +kernel
theorem d_X_grow_58 : decode mi_X_grow.2.1 58 = .ok (.iload 5, 2) := by decide +kernel
theorem d_X_grow_60 : decode mi_X_grow.2.1 60 = .ok (.sipush 333, 3) := by decide +kernel
theorem d_X_grow_63 : decode mi_X_grow.2.1 63 = .ok (.if_icmp .gt 23, 3) := by decide +kernel
theorem d_X_grow_66 : decode mi_X_grow.2.1 66 = .ok (.aload_n 0, 1) := by decide +kernel
theorem d_X_grow_67 : decode mi_X_grow.2.1 67 = .ok (.iload 5, 2) := by decide +kernel
theorem d_X_grow_69 : decode mi_X_grow.2.1 69 = .ok (.invokevirtual 355, 3) := by decide +kernel
theorem d_X_grow_72 : decode mi_X_grow.2.1 72 = .ok (.iload 4, 2) := by decide +kernel
theorem d_X_grow_74 : decode mi_X_grow.2.1 74 = .ok (.if_icmp .lt 6, 3) := by decide +kernel
theorem d_X_grow_77 : decode mi_X_grow.2.1 77 = .ok (.iload 5, 2) := by decide +kernel
theorem d_X_grow_79 : decode mi_X_grow.2.1 79 = .ok (.ireturn, 1) := by decide +kernel
theorem d_X_grow_80 : decode mi_X_grow.2.1 80 = .ok (.iinc 5 1, 3) := by decide +kernel
theorem d_X_grow_83 : decode mi_X_grow.2.1 83 = .ok (.goto (-25), 3) := by decide +kernel
theorem d_X_grow_86 : decode mi_X_grow.2.1 86 = .ok (.iconst (-1), 1) := by decide +kernel
theorem d_X_grow_87 : decode mi_X_grow.2.1 87 = .ok (.ireturn, 1) := by decide +kernel
theorem d_X_findLeastParts_0 : decode mi_X_findLeastParts.2.1 0 = .ok (.aload_n 0, 1) := by decide +kernel
theorem d_X_findLeastParts_1 : decode mi_X_findLeastParts.2.1 1 = .ok (.getfield 19, 3) := by decide +kernel
theorem d_X_findLeastParts_4 : decode mi_X_findLeastParts.2.1 4 = .ok (.aload_n 0, 1) := by decide +kernel
theorem d_X_findLeastParts_5 : decode mi_X_findLeastParts.2.1 5 = .ok (.getfield 12, 3) := by decide +kernel
theorem d_X_findLeastParts_8 : decode mi_X_findLeastParts.2.1 8 = .ok (.invokevirtual 339, 3) := by decide +kernel
theorem d_X_findLeastParts_11 : decode mi_X_findLeastParts.2.1 11 = .ok (.iconst 0, 1) := by decide +kernel
theorem d_X_findLeastParts_12 : decode mi_X_findLeastParts.2.1 12 = .ok (.istore 4, 2) := by decide +kernel
theorem d_X_findLeastParts_14 : decode mi_X_findLeastParts.2.1 14 = .ok (.iload 4, 2) := by decide +kernel
theorem d_X_findLeastParts_16 : decode mi_X_findLeastParts.2.1 16 = .ok (.aload_n 0, 1) := by decide +kernel
theorem d_X_findLeastParts_17 : decode mi_X_findLeastParts.2.1 17 = .ok (.getfield 12, 3) := by decide +kernel
theorem d_X_findLeastParts_20 : decode mi_X_findLeastParts.2.1 20 = .ok (.getfield 179, 3) := by decide +kernel
theorem d_X_findLeastParts_23 : decode mi_X_findLeastParts.2.1 23 = .ok (.getfield 189, 3) := by decide +kernel
theorem d_X_findLeastParts_26 : decode mi_X_findLeastParts.2.1 26 = .ok (.if_icmp .ge 121, 3) := by decide +kernel
theorem d_X_findLeastParts_29 : decode mi_X_findLeastParts.2.1 29 = .ok (.aload_n 0, 1) := by decide +kernel
theorem d_X_findLeastParts_30 : decode mi_X_findLeastParts.2.1 30 = .ok (.getfield 19, 3) := by decide +kernel
theorem d_X_findLeastParts_33 : decode mi_X_findLeastParts.2.1 33 = .ok (.iload_n 1, 1) := by decide +kernel
theorem d_X_findLeastParts_34 : decode mi_X_findLeastParts.2.1 34 = .ok (.iload_n 2, 1) := by decide +kernel
theorem d_X_findLeastParts_35 : decode mi_X_findLeastParts.2.1 35 = .ok (.iload_n 3, 1) := by decide +kernel
theorem d_X_findLeastParts_36 : decode mi_X_findLeastParts.2.1 36 = .ok (.iconst 0, 1) := by decide +kernel
theorem d_X_findLeastParts_37 : decode mi_X_findLeastParts.2.1 37 = .ok (.invokevirtual 358, 3) := by decide +kernel
theorem d_X_findLeastParts_40 : decode mi_X_findLeastParts.2.1 40 = .ok (.aload_n 0, 1) := by decide +kernel
theorem d_X_findLeastParts_41 : decode mi_X_findLeastParts.2.1 41 = .ok (.iload_n 1, 1) := by decide +kernel
theorem d_X_findLeastParts_42 : decode mi_X_findLeastParts.2.1 42 = .ok (.iload 4, 2) := by decide +kernel
theorem d_X_findLeastParts_44 : decode mi_X_findLeastParts.2.1 44 = .ok (.invokevirtual 346, 3) := by decide +kernel
theorem d_X_findLeastParts_47 : decode mi_X_findLeastParts.2.1 47 = .ok (.iload_n 3, 1) := by decide +kernel
theorem d_X_findLeastParts_48 : decode mi_X_findLeastParts.2.1 48 = .ok (.if_icmp .ne 14, 3) := by decide +kernel
theorem d_X_findLeastParts_51 : decode mi_X_findLeastParts.2.1 51 = .ok (.aload_n 0, 1) := by decide +kernel
theorem d_X_findLeastParts_52 : decode mi_X_findLeastParts.2.1 52 = .ok (.getfield 36, 3) := by decide +kernel
theorem d_X_findLeastParts_55 : decode mi_X_findLeastParts.2.1 55 = .ok (.iload 4, 2) := by decide +kernel
theorem d_X_findLeastParts_57 : decode mi_X_findLeastParts.2.1 57 = .ok (.iconst 0, 1) := by decide +kernel
theorem d_X_findLeastParts_58 : decode mi_X_findLeastParts.2.1 58 = .ok (.iastore, 1) := by decide +kernel
theorem d_X_findLeastParts_59 : decode mi_X_findLeastParts.2.1 59 = .ok (.goto 82, 3) := by decide +kernel
theorem d_X_findLeastParts_62 : decode mi_X_findLeastParts.2.1 62 = .ok (.aload_n 0, 1) := by decide +kernel
theorem d_X_findLeastParts_63 : decode mi_X_findLeastParts.2.1 63 = .ok (.getfield 19, 3) := by decide +kernel
theorem d_X_findLeastParts_66 : decode mi_X_findLeastParts.2.1 66 = .ok (.iload_n 1, 1) := by decide +kernel
theorem d_X_findLeastParts_67 : decode mi_X_findLeastParts.2.1 67 = .ok (.iload_n 2, 1) := by decide +kernel
theorem d_X_findLeastParts_68 : decode mi_X_findLeastParts.2.1 68 = .ok (.iload_n 3, 1) := by decide +kernel
theorem d_X_findLeastParts_69 : decode mi_X_findLeastParts.2.1 69 = .ok (.sipush 333, 3) := by decide +kernel
theorem d_X_findLeastParts_72 : decode mi_X_findLeastParts.2.1 72 = .ok (.invokevirtual 358, 3) := by decide +kernel
theorem d_X_findLeastParts_75 : decode mi_X_findLeastParts.2.1 75 = .ok (.aload_n 0, 1) := by decide +kernel
theorem d_X_findLeastParts_76 : decode mi_X_findLeastParts.2.1 76 = .ok (.iload_n 1, 1) := by decide +kernel
theorem d_X_findLeastParts_77 : decode mi_X_findLeastParts.2.1 77 = .ok (.iload 4, 2) := by decide +kernel
theorem d_X_findLeastParts_79 : decode mi_X_findLeastParts.2.1 79 = .ok (.invokevirtual 346, 3) := by decide +kernel
theorem d_X_findLeastParts_82 : decode mi_X_findLeastParts.2.1 82 = .ok (.iload_n 3, 1) := by decide +kernel
theorem d_X_findLeastParts_83 : decode mi_X_findLeastParts.2.1 83 = .ok (.if_icmp .ne 7, 3) := by decide +kernel
theorem d_X_findLeastParts_86 : decode mi_X_findLeastParts.2.1 86 = .ok (.iconst 1, 1) := by decide +kernel
theorem d_X_findLeastParts_87 : decode mi_X_findLeastParts.2.1 87 = .ok (.goto 4, 3) := by decide +kernel
theorem d_X_findLeastParts_90 : decode mi_X_findLeastParts.2.1 90 = .ok (.iconst 0, 1) := by decide +kernel
theorem d_X_findLeastParts_91 : decode mi_X_findLeastParts.2.1 91 = .ok (.istore 5, 2) := by decide +kernel
theorem d_X_findLeastParts_93 : decode mi_X_findLeastParts.2.1 93 = .ok (.iload_n 1, 1) := by decide +kernel
theorem d_X_findLeastParts_94 : decode mi_X_findLeastParts.2.1 94 = .ok (.iconst 1, 1) := by decide +kernel
theorem d_X_findLeastParts_95 : decode mi_X_findLeastParts.2.1 95 = .ok (.iadd, 1) := by decide +kernel
theorem d_X_findLeastParts_96 : decode mi_X_findLeastParts.2.1 96 = .ok (.aload_n 0, 1) := by decide +kernel
theorem d_X_findLeastParts_97 : decode mi_X_findLeastParts.2.1 97 = .ok (.getfield 12, 3) := by decide +kernel
theorem d_X_findLeastParts_100 : decode mi_X_findLeastParts.2.1 100 = .ok (.getfield 179, 3) := by decide +kernel
theorem d_X_findLeastParts_103 : decode mi_X_findLeastParts.2.1 103 = .ok (.getfield 202, 3) := by decide +kernel
theorem d_X_findLeastParts_106 : decode mi_X_findLeastParts.2.1 106 = .ok (.iload 4, 2) := by decide +kernel
theorem d_X_findLeastParts_108 : decode mi_X_findLeastParts.2.1 108 = .ok (.iaload, 1) := by decide +kernel
theorem d_X_findLeastParts_109 : decode mi_X_findLeastParts.2.1 109 = .ok (.invokestatic 205, 3) := by decide +kernel
theorem d_X_findLeastParts_112 : decode mi_X_findLeastParts.2.1 112 = .ok (.istore 6, 2) := by decide +kernel
theorem d_X_findLeastParts_114 : decode mi_X_findLeastParts.2.1 114 = .ok (.aload_n 0, 1) := by decide +kernel
theorem d_X_findLeastParts_115 : decode mi_X_findLeastParts.2.1 115 = .ok (.getfield 36, 3) := by decide +kernel
theorem d_X_findLeastParts_118 : decode mi_X_findLeastParts.2.1 118 = .ok (.iload 4, 2) := by decide +kernel
theorem d_X_findLeastParts_120 : decode mi_X_findLeastParts.2.1 120 = .ok (.iload 5, 2) := by decide +kernel
theorem d_X_findLeastParts_122 : decode mi_X_findLeastParts.2.1 122 = .ok (.ifCond .eq 15, 3) := by decide +kernel
theorem d_X_findLeastParts_125 : decode mi_X_findLeastParts.2.1 125 = .ok (.iload 6, 2) := by decide +kernel
theorem d_X_findLeastParts_127 : decode mi_X_findLeastParts.2.1 127 = .ok (.iload_n 3, 1) := by decide +kernel
theorem d_X_findLeastParts_128 : decode mi_X_findLeastParts.2.1 128 = .ok (.invokestatic 444, 3) := by decide +kernel
theorem d_X_findLeastParts_131 : decode mi_X_findLeastParts.2.1 131 = .ok (.isub, 1) := by decide +kernel
theorem d_X_findLeastParts_132 : decode mi_X_findLeastParts.2.1 132 = .ok (.iconst 1, 1) := by decide +kernel
theorem d_X_findLeastParts_133 : decode mi_X_findLeastParts.2.1 133 = .ok (.iadd, 1) := by decide +kernel
theorem d_X_findLeastParts_134 : decode mi_X_findLeastParts.2.1 134 = .ok (.goto 6, 3) := by decide +kernel
theorem d_X_findLeastParts_137 : decode mi_X_findLeastParts.2.1 137 = .ok (.sipush 334, 3) := by decide +kernel
theorem d_X_findLeastParts_140 : decode mi_X_findLeastParts.2.1 140 = .ok (.iastore, 1) := by decide +kernel
theorem d_X_findLeastParts_141 : decode mi_X_findLeastParts.2.1 141 = .ok (.iinc 4 1, 3) := by decide +kernel
theorem d_X_findLeastParts_144 : decode mi_X_findLeastParts.2.1 144 = .ok (.goto (-130), 3) := by decide +kernel
theorem d_X_findLeastParts_147 : decode mi_X_findLeastParts.2.1 147 = .ok (.return_, 1) := by decide +kernel
theorem d_X_reachedBy_0 : decode mi_X_reachedBy.2.1 0 = .ok (.iconst 0, 1) := by decide +kernel
theorem d_X_reachedBy_1 : decode mi_X_reachedBy.2.1 1 = .ok (.istore_n 2, 1) := by decide +kernel
theorem d_X_reachedBy_2 : decode mi_X_reachedBy.2.1 2 = .ok (.iconst 0, 1) := by decide +kernel
theorem d_X_reachedBy_3 : decode mi_X_reachedBy.2.1 3 = .ok (.istore_n 3, 1) := by decide +kernel
theorem d_X_reachedBy_4 : decode mi_X_reachedBy.2.1 4 = .ok (.iload_n 3, 1) := by decide +kernel
theorem d_X_reachedBy_5 : decode mi_X_reachedBy.2.1 5 = .ok (.aload_n 0, 1) := by decide +kernel
theorem d_X_reachedBy_6 : decode mi_X_reachedBy.2.1 6 = .ok (.getfield 12, 3) := by decide +kernel
theorem d_X_reachedBy_9 : decode mi_X_reachedBy.2.1 9 = .ok (.getfield 179, 3) := by decide +kernel
theorem d_X_reachedBy_12 : decode mi_X_reachedBy.2.1 12 = .ok (.getfield 189, 3) := by decide +kernel
theorem d_X_reachedBy_15 : decode mi_X_reachedBy.2.1 15 = .ok (.if_icmp .ge 22, 3) := by decide +kernel
theorem d_X_reachedBy_18 : decode mi_X_reachedBy.2.1 18 = .ok (.aload_n 0, 1) := by decide +kernel
theorem d_X_reachedBy_19 : decode mi_X_reachedBy.2.1 19 = .ok (.getfield 36, 3) := by decide +kernel
theorem d_X_reachedBy_22 : decode mi_X_reachedBy.2.1 22 = .ok (.iload_n 3, 1) := by decide +kernel
theorem d_X_reachedBy_23 : decode mi_X_reachedBy.2.1 23 = .ok (.iaload, 1) := by decide +kernel
theorem d_X_reachedBy_24 : decode mi_X_reachedBy.2.1 24 = .ok (.iload_n 1, 1) := by decide +kernel
theorem d_X_reachedBy_25 : decode mi_X_reachedBy.2.1 25 = .ok (.if_icmp .gt 6, 3) := by decide +kernel
theorem d_X_reachedBy_28 : decode mi_X_reachedBy.2.1 28 = .ok (.iinc 2 1, 3) := by decide +kernel
theorem d_X_reachedBy_31 : decode mi_X_reachedBy.2.1 31 = .ok (.iinc 3 1, 3) := by decide +kernel
theorem d_X_reachedBy_34 : decode mi_X_reachedBy.2.1 34 = .ok (.goto (-30), 3) := by decide +kernel
theorem d_X_reachedBy_37 : decode mi_X_reachedBy.2.1 37 = .ok (.iload_n 2, 1) := by decide +kernel
theorem d_X_reachedBy_38 : decode mi_X_reachedBy.2.1 38 = .ok (.ireturn, 1) := by decide +kernel
theorem d_X_moved_0 : decode mi_X_moved.2.1 0 = .ok (.aload_n 0, 1) := by decide +kernel
theorem d_X_moved_1 : decode mi_X_moved.2.1 1 = .ok (.iload_n 1, 1) := by decide +kernel
theorem d_X_moved_2 : decode mi_X_moved.2.1 2 = .ok (.iload_n 2, 1) := by decide +kernel
theorem d_X_moved_3 : decode mi_X_moved.2.1 3 = .ok (.iload_n 3, 1) := by decide +kernel
theorem d_X_moved_4 : decode mi_X_moved.2.1 4 = .ok (.invokevirtual 260, 3) := by decide +kernel
theorem d_X_moved_7 : decode mi_X_moved.2.1 7 = .ok (.ifCond .eq 12, 3) := by decide +kernel
theorem d_X_moved_10 : decode mi_X_moved.2.1 10 = .ok (.aload_n 0, 1) := by decide +kernel
theorem d_X_moved_11 : decode mi_X_moved.2.1 11 = .ok (.iload 4, 2) := by decide +kernel
theorem d_X_moved_13 : decode mi_X_moved.2.1 13 = .ok (.invokevirtual 264, 3) := by decide +kernel
theorem d_X_moved_16 : decode mi_X_moved.2.1 16 = .ok (.ifCond .ne 10, 3) := by decide +kernel
theorem d_X_moved_19 : decode mi_X_moved.2.1 19 = .ok (.aload_n 0, 1) := by decide +kernel
theorem d_X_moved_20 : decode mi_X_moved.2.1 20 = .ok (.bipush (-32), 2) := by decide +kernel
theorem d_X_moved_22 : decode mi_X_moved.2.1 22 = .ok (.invokevirtual 75, 3) := by decide +kernel
theorem d_X_moved_25 : decode mi_X_moved.2.1 25 = .ok (.ireturn, 1) := by decide +kernel
theorem d_X_moved_26 : decode mi_X_moved.2.1 26 = .ok (.aload_n 0, 1) := by decide +kernel
theorem d_X_moved_27 : decode mi_X_moved.2.1 27 = .ok (.iload_n 1, 1) := by decide +kernel
theorem d_X_moved_28 : decode mi_X_moved.2.1 28 = .ok (.iload_n 2, 1) := by decide +kernel
theorem d_X_moved_29 : decode mi_X_moved.2.1 29 = .ok (.invokevirtual 125, 3) := by decide +kernel
theorem d_X_moved_32 : decode mi_X_moved.2.1 32 = .ok (.invokevirtual 267, 3) := by decide +kernel
theorem d_X_moved_35 : decode mi_X_moved.2.1 35 = .ok (.ifCond .eq 10, 3) := by decide +kernel
theorem d_X_moved_38 : decode mi_X_moved.2.1 38 = .ok (.aload_n 0, 1) := by decide +kernel
theorem d_X_moved_39 : decode mi_X_moved.2.1 39 = .ok (.bipush (-35), 2) := by decide +kernel
theorem d_X_moved_41 : decode mi_X_moved.2.1 41 = .ok (.invokevirtual 75, 3) := by decide +kernel
theorem d_X_moved_44 : decode mi_X_moved.2.1 44 = .ok (.ireturn, 1) := by decide +kernel
theorem d_X_moved_45 : decode mi_X_moved.2.1 45 = .ok (.aload_n 0, 1) := by decide +kernel
theorem d_X_moved_46 : decode mi_X_moved.2.1 46 = .ok (.getfield 19, 3) := by decide +kernel
theorem d_X_moved_49 : decode mi_X_moved.2.1 49 = .ok (.aload_n 0, 1) := by decide +kernel
theorem d_X_moved_50 : decode mi_X_moved.2.1 50 = .ok (.getfield 12, 3) := by decide +kernel
theorem d_X_moved_53 : decode mi_X_moved.2.1 53 = .ok (.invokevirtual 339, 3) := by decide +kernel
theorem d_X_moved_56 : decode mi_X_moved.2.1 56 = .ok (.aload_n 0, 1) := by decide +kernel
theorem d_X_moved_57 : decode mi_X_moved.2.1 57 = .ok (.getfield 19, 3) := by decide +kernel
theorem d_X_moved_60 : decode mi_X_moved.2.1 60 = .ok (.iload_n 1, 1) := by decide +kernel
theorem d_X_moved_61 : decode mi_X_moved.2.1 61 = .ok (.iload_n 2, 1) := by decide +kernel
theorem d_X_moved_62 : decode mi_X_moved.2.1 62 = .ok (.iload_n 3, 1) := by decide +kernel
theorem d_X_moved_63 : decode mi_X_moved.2.1 63 = .ok (.iload 4, 2) := by decide +kernel
theorem d_X_moved_65 : decode mi_X_moved.2.1 65 = .ok (.invokevirtual 358, 3) := by decide +kernel
theorem d_X_moved_68 : decode mi_X_moved.2.1 68 = .ok (.iconst 0, 1) := by decide +kernel
theorem d_X_moved_69 : decode mi_X_moved.2.1 69 = .ok (.istore 5, 2) := by decide +kernel
theorem d_X_moved_71 : decode mi_X_moved.2.1 71 = .ok (.iconst 0, 1) := by decide +kernel
theorem d_X_moved_72 : decode mi_X_moved.2.1 72 = .ok (.istore 6, 2) := by decide +kernel
theorem d_X_moved_74 : decode mi_X_moved.2.1 74 = .ok (.iload 6, 2) := by decide +kernel
theorem d_X_moved_76 : decode mi_X_moved.2.1 76 = .ok (.aload_n 0, 1) := by decide +kernel
theorem d_X_moved_77 : decode mi_X_moved.2.1 77 = .ok (.getfield 12, 3) := by decide +kernel
theorem d_X_moved_80 : decode mi_X_moved.2.1 80 = .ok (.getfield 179, 3) := by decide +kernel
theorem d_X_moved_83 : decode mi_X_moved.2.1 83 = .ok (.getfield 189, 3) := by decide +kernel
theorem d_X_moved_86 : decode mi_X_moved.2.1 86 = .ok (.if_icmp .ge 35, 3) := by decide +kernel
theorem d_X_moved_89 : decode mi_X_moved.2.1 89 = .ok (.aload_n 0, 1) := by decide +kernel
theorem d_X_moved_90 : decode mi_X_moved.2.1 90 = .ok (.iload_n 1, 1) := by decide +kernel
theorem d_X_moved_91 : decode mi_X_moved.2.1 91 = .ok (.iload 6, 2) := by decide +kernel
theorem d_X_moved_93 : decode mi_X_moved.2.1 93 = .ok (.invokevirtual 321, 3) := by decide +kernel
theorem d_X_moved_96 : decode mi_X_moved.2.1 96 = .ok (.aload_n 0, 1) := by decide +kernel
theorem d_X_moved_97 : decode mi_X_moved.2.1 97 = .ok (.iload_n 1, 1) := by decide +kernel
theorem d_X_moved_98 : decode mi_X_moved.2.1 98 = .ok (.iload 6, 2) := by decide +kernel
theorem d_X_moved_100 : decode mi_X_moved.2.1 100 = .ok (.invokevirtual 346, 3) := by decide +kernel
theorem d_X_moved_103 : decode mi_X_moved.2.1 103 = .ok (.if_icmp .eq 12, 3) := by decide +kernel
theorem d_X_moved_106 : decode mi_X_moved.2.1 106 = .ok (.iload 5, 2) := by decide +kernel
theorem d_X_moved_108 : decode mi_X_moved.2.1 108 = .ok (.iconst 1, 1) := by decide +kernel
theorem d_X_moved_109 : decode mi_X_moved.2.1 109 = .ok (.iload 6, 2) := by decide +kernel
theorem d_X_moved_111 : decode mi_X_moved.2.1 111 = .ok (.ishl, 1) := by decide +kernel
theorem d_X_moved_112 : decode mi_X_moved.2.1 112 = .ok (.ior, 1) := by decide +kernel
theorem d_X_moved_113 : decode mi_X_moved.2.1 113 = .ok (.istore 5, 2) := by decide +kernel
theorem d_X_moved_115 : decode mi_X_moved.2.1 115 = .ok (.iinc 6 1, 3) := by decide +kernel
theorem d_X_moved_118 : decode mi_X_moved.2.1 118 = .ok (.goto (-44), 3) := by decide +kernel
theorem d_X_moved_121 : decode mi_X_moved.2.1 121 = .ok (.iload 5, 2) := by decide +kernel
theorem d_X_moved_123 : decode mi_X_moved.2.1 123 = .ok (.ireturn, 1) := by decide +kernel
theorem d_X_shakes_0 : decode mi_X_shakes.2.1 0 = .ok (.aload_n 0, 1) := by decide +kernel
theorem d_X_shakes_1 : decode mi_X_shakes.2.1 1 = .ok (.iload_n 1, 1) := by decide +kernel
theorem d_X_shakes_2 : decode mi_X_shakes.2.1 2 = .ok (.invokevirtual 220, 3) := by decide +kernel
theorem d_X_shakes_5 : decode mi_X_shakes.2.1 5 = .ok (.ifCond .ne 10, 3) := by decide +kernel
theorem d_X_shakes_8 : decode mi_X_shakes.2.1 8 = .ok (.aload_n 0, 1) := by decide +kernel
theorem d_X_shakes_9 : decode mi_X_shakes.2.1 9 = .ok (.bipush (-32), 2) := by decide +kernel
theorem d_X_shakes_11 : decode mi_X_shakes.2.1 11 = .ok (.invokevirtual 75, 3) := by decide +kernel
theorem d_X_shakes_14 : decode mi_X_shakes.2.1 14 = .ok (.ireturn, 1) := by decide +kernel
theorem d_X_shakes_15 : decode mi_X_shakes.2.1 15 = .ok (.aload_n 0, 1) := by decide +kernel
theorem d_X_shakes_16 : decode mi_X_shakes.2.1 16 = .ok (.getfield 19, 3) := by decide +kernel
theorem d_X_shakes_19 : decode mi_X_shakes.2.1 19 = .ok (.aload_n 0, 1) := by decide +kernel
theorem d_X_shakes_20 : decode mi_X_shakes.2.1 20 = .ok (.getfield 12, 3) := by decide +kernel
theorem d_X_shakes_23 : decode mi_X_shakes.2.1 23 = .ok (.invokevirtual 339, 3) := by decide +kernel
theorem d_X_shakes_26 : decode mi_X_shakes.2.1 26 = .ok (.aload_n 0, 1) := by decide +kernel
theorem d_X_shakes_27 : decode mi_X_shakes.2.1 27 = .ok (.getfield 19, 3) := by decide +kernel
theorem d_X_shakes_30 : decode mi_X_shakes.2.1 30 = .ok (.getfield 211, 3) := by decide +kernel
theorem d_X_shakes_33 : decode mi_X_shakes.2.1 33 = .ok (.iload_n 1, 1) := by decide +kernel
theorem d_X_shakes_34 : decode mi_X_shakes.2.1 34 = .ok (.aaload, 1) := by decide +kernel
theorem d_X_shakes_35 : decode mi_X_shakes.2.1 35 = .ok (.iconst 1, 1) := by decide +kernel
theorem d_X_shakes_36 : decode mi_X_shakes.2.1 36 = .ok (.aload_n 0, 1) := by decide +kernel
theorem d_X_shakes_37 : decode mi_X_shakes.2.1 37 = .ok (.getfield 19, 3) := by decide +kernel
theorem d_X_shakes_40 : decode mi_X_shakes.2.1 40 = .ok (.getfield 211, 3) := by decide +kernel
theorem d_X_shakes_43 : decode mi_X_shakes.2.1 43 = .ok (.iload_n 1, 1) := by decide +kernel
theorem d_X_shakes_44 : decode mi_X_shakes.2.1 44 = .ok (.aaload, 1) := by decide +kernel
theorem d_X_shakes_45 : decode mi_X_shakes.2.1 45 = .ok (.getfield 223, 3) := by decide +kernel
theorem d_X_shakes_48 : decode mi_X_shakes.2.1 48 = .ok (.isub, 1) := by decide +kernel
theorem d_X_shakes_49 : decode mi_X_shakes.2.1 49 = .ok (.putfield 223, 3) := by decide +kernel
theorem d_X_shakes_52 : decode mi_X_shakes.2.1 52 = .ok (.iconst 0, 1) := by decide +kernel
theorem d_X_shakes_53 : decode mi_X_shakes.2.1 53 = .ok (.istore_n 2, 1) := by decide +kernel
theorem d_X_shakes_54 : decode mi_X_shakes.2.1 54 = .ok (.iconst 0, 1) := by decide +kernel
theorem d_X_shakes_55 : decode mi_X_shakes.2.1 55 = .ok (.istore_n 3, 1) := by decide +kernel
theorem d_X_shakes_56 : decode mi_X_shakes.2.1 56 = .ok (.iload_n 3, 1) := by decide +kernel
theorem d_X_shakes_57 : decode mi_X_shakes.2.1 57 = .ok (.aload_n 0, 1) := by decide +kernel
theorem d_X_shakes_58 : decode mi_X_shakes.2.1 58 = .ok (.getfield 12, 3) := by decide +kernel
theorem d_X_shakes_61 : decode mi_X_shakes.2.1 61 = .ok (.getfield 179, 3) := by decide +kernel
theorem d_X_shakes_64 : decode mi_X_shakes.2.1 64 = .ok (.getfield 189, 3) := by decide +kernel
theorem d_X_shakes_67 : decode mi_X_shakes.2.1 67 = .ok (.if_icmp .ge 17, 3) := by decide +kernel
theorem d_X_shakes_70 : decode mi_X_shakes.2.1 70 = .ok (.iload_n 2, 1) := by decide +kernel
theorem d_X_shakes_71 : decode mi_X_shakes.2.1 71 = .ok (.aload_n 0, 1) := by decide +kernel
theorem d_X_shakes_72 : decode mi_X_shakes.2.1 72 = .ok (.iload_n 3, 1) := by decide +kernel
theorem d_X_shakes_73 : decode mi_X_shakes.2.1 73 = .ok (.invokevirtual 362, 3) := by decide +kernel
theorem d_X_shakes_76 : decode mi_X_shakes.2.1 76 = .ok (.ior, 1) := by decide +kernel
theorem d_X_shakes_77 : decode mi_X_shakes.2.1 77 = .ok (.istore_n 2, 1) := by decide +kernel
theorem d_X_shakes_78 : decode mi_X_shakes.2.1 78 = .ok (.iinc 3 1, 3) := by decide +kernel
theorem d_X_shakes_81 : decode mi_X_shakes.2.1 81 = .ok (.goto (-25), 3) := by decide +kernel
theorem d_X_shakes_84 : decode mi_X_shakes.2.1 84 = .ok (.iload_n 2, 1) := by decide +kernel
theorem d_X_shakes_85 : decode mi_X_shakes.2.1 85 = .ok (.ireturn, 1) := by decide +kernel
theorem d_X_changedFeatures_0 : decode mi_X_changedFeatures.2.1 0 = .ok (.aload_n 0, 1) := by decide +kernel
theorem d_X_changedFeatures_1 : decode mi_X_changedFeatures.2.1 1 = .ok (.getfield 29, 3) := by decide +kernel
theorem d_X_changedFeatures_4 : decode mi_X_changedFeatures.2.1 4 = .ok (.invokevirtual 429, 3) := by decide +kernel
theorem d_X_changedFeatures_7 : decode mi_X_changedFeatures.2.1 7 = .ok (.aload_n 0, 1) := by decide +kernel
theorem d_X_changedFeatures_8 : decode mi_X_changedFeatures.2.1 8 = .ok (.getfield 33, 3) := by decide +kernel
theorem d_X_changedFeatures_11 : decode mi_X_changedFeatures.2.1 11 = .ok (.invokevirtual 429, 3) := by decide +kernel
theorem d_X_changedFeatures_14 : decode mi_X_changedFeatures.2.1 14 = .ok (.iconst 0, 1) := by decide +kernel
theorem d_X_changedFeatures_15 : decode mi_X_changedFeatures.2.1 15 = .ok (.istore_n 2, 1) := by decide +kernel
theorem d_X_changedFeatures_16 : decode mi_X_changedFeatures.2.1 16 = .ok (.iconst 0, 1) := by decide +kernel
theorem d_X_changedFeatures_17 : decode mi_X_changedFeatures.2.1 17 = .ok (.istore_n 3, 1) := by decide +kernel
theorem d_X_changedFeatures_18 : decode mi_X_changedFeatures.2.1 18 = .ok (.iload_n 3, 1) := by decide +kernel
theorem d_X_changedFeatures_19 : decode mi_X_changedFeatures.2.1 19 = .ok (.aload_n 0, 1) := by decide +kernel
theorem d_X_changedFeatures_20 : decode mi_X_changedFeatures.2.1 20 = .ok (.getfield 12, 3) := by decide +kernel
theorem d_X_changedFeatures_23 : decode mi_X_changedFeatures.2.1 23 = .ok (.getfield 208, 3) := by decide +kernel
theorem d_X_changedFeatures_26 : decode mi_X_changedFeatures.2.1 26 = .ok (.if_icmp .ge 64, 3) := by decide +kernel
theorem d_X_changedFeatures_29 : decode mi_X_changedFeatures.2.1 29 = .ok (.aload_n 0, 1) := by decide +kernel
theorem d_X_changedFeatures_30 : decode mi_X_changedFeatures.2.1 30 = .ok (.getfield 12, 3) := by decide +kernel
theorem d_X_changedFeatures_33 : decode mi_X_changedFeatures.2.1 33 = .ok (.aload_n 0, 1) := by decide +kernel
theorem d_X_changedFeatures_34 : decode mi_X_changedFeatures.2.1 34 = .ok (.getfield 29, 3) := by decide +kernel
theorem d_X_changedFeatures_37 : decode mi_X_changedFeatures.2.1 37 = .ok (.iload_n 1, 1) := by decide +kernel
theorem d_X_changedFeatures_38 : decode mi_X_changedFeatures.2.1 38 = .ok (.iload_n 3, 1) := by decide +kernel
theorem d_X_changedFeatures_39 : decode mi_X_changedFeatures.2.1 39 = .ok (.iconst 0, 1) := by decide +kernel
theorem d_X_changedFeatures_40 : decode mi_X_changedFeatures.2.1 40 = .ok (.invokestatic 432, 3) := by decide +kernel
theorem d_X_changedFeatures_43 : decode mi_X_changedFeatures.2.1 43 = .ok (.aload_n 0, 1) := by decide +kernel
theorem d_X_changedFeatures_44 : decode mi_X_changedFeatures.2.1 44 = .ok (.getfield 19, 3) := by decide +kernel
theorem d_X_changedFeatures_47 : decode mi_X_changedFeatures.2.1 47 = .ok (.aload_n 0, 1) := by decide +kernel
theorem d_X_changedFeatures_48 : decode mi_X_changedFeatures.2.1 48 = .ok (.getfield 33, 3) := by decide +kernel
theorem d_X_changedFeatures_51 : decode mi_X_changedFeatures.2.1 51 = .ok (.iload_n 1, 1) := by decide +kernel
theorem d_X_changedFeatures_52 : decode mi_X_changedFeatures.2.1 52 = .ok (.iload_n 3, 1) := by decide +kernel
theorem d_X_changedFeatures_53 : decode mi_X_changedFeatures.2.1 53 = .ok (.iconst 0, 1) := by decide +kernel
theorem d_X_changedFeatures_54 : decode mi_X_changedFeatures.2.1 54 = .ok (.invokestatic 432, 3) := by decide +kernel
theorem d_X_changedFeatures_57 : decode mi_X_changedFeatures.2.1 57 = .ok (.aload_n 0, 1) := by decide +kernel
theorem d_X_changedFeatures_58 : decode mi_X_changedFeatures.2.1 58 = .ok (.getfield 29, 3) := by decide +kernel
theorem d_X_changedFeatures_61 : decode mi_X_changedFeatures.2.1 61 = .ok (.getfield 324, 3) := by decide +kernel
theorem d_X_changedFeatures_64 : decode mi_X_changedFeatures.2.1 64 = .ok (.iload_n 3, 1) := by decide +kernel
theorem d_X_changedFeatures_65 : decode mi_X_changedFeatures.2.1 65 = .ok (.iaload, 1) := by decide +kernel
theorem d_X_changedFeatures_66 : decode mi_X_changedFeatures.2.1 66 = .ok (.aload_n 0, 1) := by decide +kernel
theorem d_X_changedFeatures_67 : decode mi_X_changedFeatures.2.1 67 = .ok (.getfield 33, 3) := by decide +kernel
theorem d_X_changedFeatures_70 : decode mi_X_changedFeatures.2.1 70 = .ok (.getfield 324, 3) := by decide +kernel
theorem d_X_changedFeatures_73 : decode mi_X_changedFeatures.2.1 73 = .ok (.iload_n 3, 1) := by decide +kernel
theorem d_X_changedFeatures_74 : decode mi_X_changedFeatures.2.1 74 = .ok (.iaload, 1) := by decide +kernel
theorem d_X_changedFeatures_75 : decode mi_X_changedFeatures.2.1 75 = .ok (.if_icmp .eq 9, 3) := by decide +kernel
theorem d_X_changedFeatures_78 : decode mi_X_changedFeatures.2.1 78 = .ok (.iload_n 2, 1) := by decide +kernel
theorem d_X_changedFeatures_79 : decode mi_X_changedFeatures.2.1 79 = .ok (.iconst 1, 1) := by decide +kernel
theorem d_X_changedFeatures_80 : decode mi_X_changedFeatures.2.1 80 = .ok (.iload_n 3, 1) := by decide +kernel
theorem d_X_changedFeatures_81 : decode mi_X_changedFeatures.2.1 81 = .ok (.ishl, 1) := by decide +kernel
theorem d_X_changedFeatures_82 : decode mi_X_changedFeatures.2.1 82 = .ok (.ior, 1) := by decide +kernel
theorem d_X_changedFeatures_83 : decode mi_X_changedFeatures.2.1 83 = .ok (.istore_n 2, 1) := by decide +kernel
theorem d_X_changedFeatures_84 : decode mi_X_changedFeatures.2.1 84 = .ok (.iinc 3 1, 3) := by decide +kernel
theorem d_X_changedFeatures_87 : decode mi_X_changedFeatures.2.1 87 = .ok (.goto (-69), 3) := by decide +kernel
theorem d_X_changedFeatures_90 : decode mi_X_changedFeatures.2.1 90 = .ok (.iload_n 2, 1) := by decide +kernel
theorem d_X_changedFeatures_91 : decode mi_X_changedFeatures.2.1 91 = .ok (.ireturn, 1) := by decide +kernel
theorem d_X_overlap_0 : decode mi_X_overlap.2.1 0 = .ok (.aload_n 0, 1) := by decide +kernel
theorem d_X_overlap_1 : decode mi_X_overlap.2.1 1 = .ok (.iload_n 1, 1) := by decide +kernel
theorem d_X_overlap_2 : decode mi_X_overlap.2.1 2 = .ok (.invokevirtual 220, 3) := by decide +kernel
theorem d_X_overlap_5 : decode mi_X_overlap.2.1 5 = .ok (.ifCond .eq 11, 3) := by decide +kernel
theorem d_X_overlap_8 : decode mi_X_overlap.2.1 8 = .ok (.aload_n 0, 1) := by decide +kernel
theorem d_X_overlap_9 : decode mi_X_overlap.2.1 9 = .ok (.iload_n 2, 1) := by decide +kernel
theorem d_X_overlap_10 : decode mi_X_overlap.2.1 10 = .ok (.invokevirtual 220, 3) := by decide +kernel
theorem d_X_overlap_13 : decode mi_X_overlap.2.1 13 = .ok (.ifCond .ne 10, 3) := by decide +kernel
theorem d_X_overlap_16 : decode mi_X_overlap.2.1 16 = .ok (.aload_n 0, 1) := by decide +kernel
theorem d_X_overlap_17 : decode mi_X_overlap.2.1 17 = .ok (.bipush (-32), 2) := by decide +kernel
theorem d_X_overlap_19 : decode mi_X_overlap.2.1 19 = .ok (.invokevirtual 75, 3) := by decide +kernel
theorem d_X_overlap_22 : decode mi_X_overlap.2.1 22 = .ok (.ireturn, 1) := by decide +kernel
theorem d_X_overlap_23 : decode mi_X_overlap.2.1 23 = .ok (.iconst 0, 1) := by decide +kernel
theorem d_X_overlap_24 : decode mi_X_overlap.2.1 24 = .ok (.istore_n 3, 1) := by decide +kernel
theorem d_X_overlap_25 : decode mi_X_overlap.2.1 25 = .ok (.iconst 0, 1) := by decide +kernel
theorem d_X_overlap_26 : decode mi_X_overlap.2.1 26 = .ok (.istore 4, 2) := by decide +kernel
theorem d_X_overlap_28 : decode mi_X_overlap.2.1 28 = .ok (.iload 4, 2) := by decide +kernel
theorem d_X_overlap_30 : decode mi_X_overlap.2.1 30 = .ok (.aload_n 0, 1) := by decide +kernel
theorem d_X_overlap_31 : decode mi_X_overlap.2.1 31 = .ok (.getfield 12, 3) := by decide +kernel
theorem d_X_overlap_34 : decode mi_X_overlap.2.1 34 = .ok (.getfield 179, 3) := by decide +kernel
theorem d_X_overlap_37 : decode mi_X_overlap.2.1 37 = .ok (.getfield 189, 3) := by decide +kernel
theorem d_X_overlap_40 : decode mi_X_overlap.2.1 40 = .ok (.if_icmp .ge 36, 3) := by decide +kernel
theorem d_X_overlap_43 : decode mi_X_overlap.2.1 43 = .ok (.aload_n 0, 1) := by decide +kernel
theorem d_X_overlap_44 : decode mi_X_overlap.2.1 44 = .ok (.iload_n 1, 1) := by decide +kernel
theorem d_X_overlap_45 : decode mi_X_overlap.2.1 45 = .ok (.iload 4, 2) := by decide +kernel
theorem d_X_overlap_47 : decode mi_X_overlap.2.1 47 = .ok (.invokevirtual 321, 3) := by decide +kernel
theorem d_X_overlap_50 : decode mi_X_overlap.2.1 50 = .ok (.ifCond .eq 20, 3) := by decide +kernel
theorem d_X_overlap_53 : decode mi_X_overlap.2.1 53 = .ok (.aload_n 0, 1) := by decide +kernel
theorem d_X_overlap_54 : decode mi_X_overlap.2.1 54 = .ok (.iload_n 2, 1) := by decide +kernel
theorem d_X_overlap_55 : decode mi_X_overlap.2.1 55 = .ok (.iload 4, 2) := by decide +kernel
theorem d_X_overlap_57 : decode mi_X_overlap.2.1 57 = .ok (.invokevirtual 321, 3) := by decide +kernel
theorem d_X_overlap_60 : decode mi_X_overlap.2.1 60 = .ok (.ifCond .eq 10, 3) := by decide +kernel
theorem d_X_overlap_63 : decode mi_X_overlap.2.1 63 = .ok (.iload_n 3, 1) := by decide +kernel
theorem d_X_overlap_64 : decode mi_X_overlap.2.1 64 = .ok (.iconst 1, 1) := by decide +kernel
theorem d_X_overlap_65 : decode mi_X_overlap.2.1 65 = .ok (.iload 4, 2) := by decide +kernel
theorem d_X_overlap_67 : decode mi_X_overlap.2.1 67 = .ok (.ishl, 1) := by decide +kernel
theorem d_X_overlap_68 : decode mi_X_overlap.2.1 68 = .ok (.ior, 1) := by decide +kernel
theorem d_X_overlap_69 : decode mi_X_overlap.2.1 69 = .ok (.istore_n 3, 1) := by decide +kernel
theorem d_X_overlap_70 : decode mi_X_overlap.2.1 70 = .ok (.iinc 4 1, 3) := by decide +kernel
theorem d_X_overlap_73 : decode mi_X_overlap.2.1 73 = .ok (.goto (-45), 3) := by decide +kernel
theorem d_X_overlap_76 : decode mi_X_overlap.2.1 76 = .ok (.iload_n 3, 1) := by decide +kernel
theorem d_X_overlap_77 : decode mi_X_overlap.2.1 77 = .ok (.ireturn, 1) := by decide +kernel
theorem d_X_needed_0 : decode mi_X_needed.2.1 0 = .ok (.aload_n 0, 1) := by decide +kernel
theorem d_X_needed_1 : decode mi_X_needed.2.1 1 = .ok (.iload_n 1, 1) := by decide +kernel
theorem d_X_needed_2 : decode mi_X_needed.2.1 2 = .ok (.invokevirtual 220, 3) := by decide +kernel
theorem d_X_needed_5 : decode mi_X_needed.2.1 5 = .ok (.ifCond .eq 14, 3) := by decide +kernel
theorem d_X_needed_8 : decode mi_X_needed.2.1 8 = .ok (.aload_n 0, 1) := by decide +kernel
theorem d_X_needed_9 : decode mi_X_needed.2.1 9 = .ok (.getfield 12, 3) := by decide +kernel
theorem d_X_needed_12 : decode mi_X_needed.2.1 12 = .ok (.iload_n 1, 1) := by decide +kernel
theorem d_X_needed_13 : decode mi_X_needed.2.1 13 = .ok (.invokevirtual 274, 3) := by decide +kernel
theorem d_X_needed_16 : decode mi_X_needed.2.1 16 = .ok (.goto 9, 3) := by decide +kernel
theorem d_X_needed_19 : decode mi_X_needed.2.1 19 = .ok (.aload_n 0, 1) := by decide +kernel
theorem d_X_needed_20 : decode mi_X_needed.2.1 20 = .ok (.bipush (-32), 2) := by decide +kernel
theorem d_X_needed_22 : decode mi_X_needed.2.1 22 = .ok (.invokevirtual 75, 3) := by decide +kernel
theorem d_X_needed_25 : decode mi_X_needed.2.1 25 = .ok (.ireturn, 1) := by decide +kernel
theorem d_X_kept_0 : decode mi_X_kept.2.1 0 = .ok (.aload_n 0, 1) := by decide +kernel
theorem d_X_kept_1 : decode mi_X_kept.2.1 1 = .ok (.getfield 12, 3) := by decide +kernel
theorem d_X_kept_4 : decode mi_X_kept.2.1 4 = .ok (.getfield 179, 3) := by decide +kernel
theorem d_X_kept_7 : decode mi_X_kept.2.1 7 = .ok (.iload_n 2, 1) := by decide +kernel
theorem d_X_kept_8 : decode mi_X_kept.2.1 8 = .ok (.i2l, 1) := by decide +kernel
theorem d_X_kept_9 : decode mi_X_kept.2.1 9 = .ok (.invokevirtual 183, 3) := by decide +kernel
theorem d_X_kept_12 : decode mi_X_kept.2.1 12 = .ok (.istore_n 3, 1) := by decide +kernel
theorem d_X_kept_13 : decode mi_X_kept.2.1 13 = .ok (.iload_n 3, 1) := by decide +kernel
theorem d_X_kept_14 : decode mi_X_kept.2.1 14 = .ok (.iconst (-1), 1) := by decide +kernel
theorem d_X_kept_15 : decode mi_X_kept.2.1 15 = .ok (.if_icmp .eq 11, 3) := by decide +kernel
theorem d_X_kept_18 : decode mi_X_kept.2.1 18 = .ok (.aload_n 0, 1) := by decide +kernel
theorem d_X_kept_19 : decode mi_X_kept.2.1 19 = .ok (.iload_n 1, 1) := by decide +kernel
theorem d_X_kept_20 : decode mi_X_kept.2.1 20 = .ok (.invokevirtual 220, 3) := by decide +kernel
theorem d_X_kept_23 : decode mi_X_kept.2.1 23 = .ok (.ifCond .ne 10, 3) := by decide +kernel
theorem d_X_kept_26 : decode mi_X_kept.2.1 26 = .ok (.aload_n 0, 1) := by decide +kernel
theorem d_X_kept_27 : decode mi_X_kept.2.1 27 = .ok (.bipush (-32), 2) := by decide +kernel
theorem d_X_kept_29 : decode mi_X_kept.2.1 29 = .ok (.invokevirtual 75, 3) := by decide +kernel
theorem d_X_kept_32 : decode mi_X_kept.2.1 32 = .ok (.ireturn, 1) := by decide +kernel
theorem d_X_kept_33 : decode mi_X_kept.2.1 33 = .ok (.aload_n 0, 1) := by decide +kernel
theorem d_X_kept_34 : decode mi_X_kept.2.1 34 = .ok (.getfield 12, 3) := by decide +kernel
theorem d_X_kept_37 : decode mi_X_kept.2.1 37 = .ok (.getfield 211, 3) := by decide +kernel
theorem d_X_kept_40 : decode mi_X_kept.2.1 40 = .ok (.iload_n 1, 1) := by decide +kernel
theorem d_X_kept_41 : decode mi_X_kept.2.1 41 = .ok (.aaload, 1) := by decide +kernel
theorem d_X_kept_42 : decode mi_X_kept.2.1 42 = .ok (.getfield 365, 3) := by decide +kernel
theorem d_X_kept_45 : decode mi_X_kept.2.1 45 = .ok (.iload_n 3, 1) := by decide +kernel
theorem d_X_kept_46 : decode mi_X_kept.2.1 46 = .ok (.iaload, 1) := by decide +kernel
theorem d_X_kept_47 : decode mi_X_kept.2.1 47 = .ok (.ireturn, 1) := by decide +kernel
theorem d_X_forget_0 : decode mi_X_forget.2.1 0 = .ok (.aload_n 0, 1) := by decide +kernel
theorem d_X_forget_1 : decode mi_X_forget.2.1 1 = .ok (.iload_n 1, 1) := by decide +kernel
theorem d_X_forget_2 : decode mi_X_forget.2.1 2 = .ok (.invokevirtual 220, 3) := by decide +kernel
theorem d_X_forget_5 : decode mi_X_forget.2.1 5 = .ok (.ifCond .ne 10, 3) := by decide +kernel
theorem d_X_forget_8 : decode mi_X_forget.2.1 8 = .ok (.aload_n 0, 1) := by decide +kernel
theorem d_X_forget_9 : decode mi_X_forget.2.1 9 = .ok (.bipush (-32), 2) := by decide +kernel
theorem d_X_forget_11 : decode mi_X_forget.2.1 11 = .ok (.invokevirtual 75, 3) := by decide +kernel
theorem d_X_forget_14 : decode mi_X_forget.2.1 14 = .ok (.ireturn, 1) := by decide +kernel
theorem d_X_forget_15 : decode mi_X_forget.2.1 15 = .ok (.aload_n 0, 1) := by decide +kernel
theorem d_X_forget_16 : decode mi_X_forget.2.1 16 = .ok (.getfield 12, 3) := by decide +kernel
theorem d_X_forget_19 : decode mi_X_forget.2.1 19 = .ok (.getfield 211, 3) := by decide +kernel
theorem d_X_forget_22 : decode mi_X_forget.2.1 22 = .ok (.iload_n 1, 1) := by decide +kernel
theorem d_X_forget_23 : decode mi_X_forget.2.1 23 = .ok (.aaload, 1) := by decide +kernel
theorem d_X_forget_24 : decode mi_X_forget.2.1 24 = .ok (.getfield 365, 3) := by decide +kernel
theorem d_X_forget_27 : decode mi_X_forget.2.1 27 = .ok (.invokestatic 289, 3) := by decide +kernel
theorem d_X_forget_30 : decode mi_X_forget.2.1 30 = .ok (.istore_n 2, 1) := by decide +kernel
theorem d_X_forget_31 : decode mi_X_forget.2.1 31 = .ok (.aload_n 0, 1) := by decide +kernel
theorem d_X_forget_32 : decode mi_X_forget.2.1 32 = .ok (.getfield 12, 3) := by decide +kernel
theorem d_X_forget_35 : decode mi_X_forget.2.1 35 = .ok (.getfield 211, 3) := by decide +kernel
theorem d_X_forget_38 : decode mi_X_forget.2.1 38 = .ok (.iload_n 1, 1) := by decide +kernel
theorem d_X_forget_39 : decode mi_X_forget.2.1 39 = .ok (.aaload, 1) := by decide +kernel
theorem d_X_forget_40 : decode mi_X_forget.2.1 40 = .ok (.getfield 365, 3) := by decide +kernel
theorem d_X_forget_43 : decode mi_X_forget.2.1 43 = .ok (.iconst (-1), 1) := by decide +kernel
theorem d_X_forget_44 : decode mi_X_forget.2.1 44 = .ok (.invokestatic 368, 3) := by decide +kernel
theorem d_X_forget_47 : decode mi_X_forget.2.1 47 = .ok (.iload_n 2, 1) := by decide +kernel
theorem d_X_forget_48 : decode mi_X_forget.2.1 48 = .ok (.ireturn, 1) := by decide +kernel
theorem d_X_spelled_0 : decode mi_X_spelled.2.1 0 = .ok (.aload_n 0, 1) := by decide +kernel
theorem d_X_spelled_1 : decode mi_X_spelled.2.1 1 = .ok (.iload_n 1, 1) := by decide +kernel
theorem d_X_spelled_2 : decode mi_X_spelled.2.1 2 = .ok (.iload_n 2, 1) := by decide +kernel
theorem d_X_spelled_3 : decode mi_X_spelled.2.1 3 = .ok (.invokevirtual 122, 3) := by decide +kernel
theorem d_X_spelled_6 : decode mi_X_spelled.2.1 6 = .ok (.ifCond .ne 10, 3) := by decide +kernel
theorem d_X_spelled_9 : decode mi_X_spelled.2.1 9 = .ok (.aload_n 0, 1) := by decide +kernel
theorem d_X_spelled_10 : decode mi_X_spelled.2.1 10 = .ok (.bipush (-32), 2) := by decide +kernel
theorem d_X_spelled_12 : decode mi_X_spelled.2.1 12 = .ok (.invokevirtual 75, 3) := by decide +kernel
theorem d_X_spelled_15 : decode mi_X_spelled.2.1 15 = .ok (.ireturn, 1) := by decide +kernel
theorem d_X_spelled_16 : decode mi_X_spelled.2.1 16 = .ok (.aload_n 0, 1) := by decide +kernel
theorem d_X_spelled_17 : decode mi_X_spelled.2.1 17 = .ok (.getfield 63, 3) := by decide +kernel
theorem d_X_spelled_20 : decode mi_X_spelled.2.1 20 = .ok (.aload_n 0, 1) := by decide +kernel
theorem d_X_spelled_21 : decode mi_X_spelled.2.1 21 = .ok (.iload_n 1, 1) := by decide +kernel
theorem d_X_spelled_22 : decode mi_X_spelled.2.1 22 = .ok (.iload_n 2, 1) := by decide +kernel
theorem d_X_spelled_23 : decode mi_X_spelled.2.1 23 = .ok (.invokevirtual 125, 3) := by decide +kernel
theorem d_X_spelled_26 : decode mi_X_spelled.2.1 26 = .ok (.invokevirtual 374, 3) := by decide +kernel
theorem d_X_spelled_29 : decode mi_X_spelled.2.1 29 = .ok (.aload_n 0, 1) := by decide +kernel
theorem d_X_spelled_30 : decode mi_X_spelled.2.1 30 = .ok (.getfield 63, 3) := by decide +kernel
theorem d_X_spelled_33 : decode mi_X_spelled.2.1 33 = .ok (.iload_n 3, 1) := by decide +kernel
theorem d_X_spelled_34 : decode mi_X_spelled.2.1 34 = .ok (.invokevirtual 378, 3) := by decide +kernel
theorem d_X_spelled_37 : decode mi_X_spelled.2.1 37 = .ok (.ireturn, 1) := by decide +kernel
theorem d_X_featureOf_0 : decode mi_X_featureOf.2.1 0 = .ok (.aload_n 0, 1) := by decide +kernel
theorem d_X_featureOf_1 : decode mi_X_featureOf.2.1 1 = .ok (.iload_n 1, 1) := by decide +kernel
theorem d_X_featureOf_2 : decode mi_X_featureOf.2.1 2 = .ok (.invokevirtual 220, 3) := by decide +kernel
theorem d_X_featureOf_5 : decode mi_X_featureOf.2.1 5 = .ok (.ifCond .ne 10, 3) := by decide +kernel
theorem d_X_featureOf_8 : decode mi_X_featureOf.2.1 8 = .ok (.aload_n 0, 1) := by decide +kernel
theorem d_X_featureOf_9 : decode mi_X_featureOf.2.1 9 = .ok (.bipush (-32), 2) := by decide +kernel
theorem d_X_featureOf_11 : decode mi_X_featureOf.2.1 11 = .ok (.invokevirtual 75, 3) := by decide +kernel
theorem d_X_featureOf_14 : decode mi_X_featureOf.2.1 14 = .ok (.ireturn, 1) := by decide +kernel
theorem d_X_featureOf_15 : decode mi_X_featureOf.2.1 15 = .ok (.aload_n 0, 1) := by decide +kernel
theorem d_X_featureOf_16 : decode mi_X_featureOf.2.1 16 = .ok (.getfield 12, 3) := by decide +kernel
theorem d_X_featureOf_19 : decode mi_X_featureOf.2.1 19 = .ok (.getfield 211, 3) := by decide +kernel
theorem d_X_featureOf_22 : decode mi_X_featureOf.2.1 22 = .ok (.iload_n 1, 1) := by decide +kernel
theorem d_X_featureOf_23 : decode mi_X_featureOf.2.1 23 = .ok (.aaload, 1) := by decide +kernel
theorem d_X_featureOf_24 : decode mi_X_featureOf.2.1 24 = .ok (.astore_n 3, 1) := by decide +kernel
theorem d_X_featureOf_25 : decode mi_X_featureOf.2.1 25 = .ok (.iload_n 2, 1) := by decide +kernel
theorem d_X_featureOf_26 : decode mi_X_featureOf.2.1 26 = .ok (.tableswitch 129 0 9 #[54, 59, 64, 69, 74, 79, 84, 92, 97, 121], 54) := by decide +kernel
theorem d_X_featureOf_80 : decode mi_X_featureOf.2.1 80 = .ok (.aload_n 3, 1) := by decide +kernel
theorem d_X_featureOf_81 : decode mi_X_featureOf.2.1 81 = .ok (.getfield 215, 3) := by decide +kernel
theorem d_X_featureOf_84 : decode mi_X_featureOf.2.1 84 = .ok (.ireturn, 1) := by decide +kernel
theorem d_X_featureOf_85 : decode mi_X_featureOf.2.1 85 = .ok (.aload_n 3, 1) := by decide +kernel
theorem d_X_featureOf_86 : decode mi_X_featureOf.2.1 86 = .ok (.getfield 223, 3) := by decide +kernel
theorem d_X_featureOf_89 : decode mi_X_featureOf.2.1 89 = .ok (.ireturn, 1) := by decide +kernel
theorem d_X_featureOf_90 : decode mi_X_featureOf.2.1 90 = .ok (.aload_n 3, 1) := by decide +kernel
theorem d_X_featureOf_91 : decode mi_X_featureOf.2.1 91 = .ok (.getfield 226, 3) := by decide +kernel
theorem d_X_featureOf_94 : decode mi_X_featureOf.2.1 94 = .ok (.ireturn, 1) := by decide +kernel
theorem d_X_featureOf_95 : decode mi_X_featureOf.2.1 95 = .ok (.aload_n 3, 1) := by decide +kernel
theorem d_X_featureOf_96 : decode mi_X_featureOf.2.1 96 = .ok (.getfield 229, 3) := by decide +kernel
theorem d_X_featureOf_99 : decode mi_X_featureOf.2.1 99 = .ok (.ireturn, 1) := by decide +kernel
theorem d_X_featureOf_100 : decode mi_X_featureOf.2.1 100 = .ok (.aload_n 3, 1) := by decide +kernel
theorem d_X_featureOf_101 : decode mi_X_featureOf.2.1 101 = .ok (.getfield 236, 3) := by decide +kernel
theorem d_X_featureOf_104 : decode mi_X_featureOf.2.1 104 = .ok (.ireturn, 1) := by decide +kernel
theorem d_X_featureOf_105 : decode mi_X_featureOf.2.1 105 = .ok (.aload_n 3, 1) := by decide +kernel
theorem d_X_featureOf_106 : decode mi_X_featureOf.2.1 106 = .ok (.getfield 280, 3) := by decide +kernel
theorem d_X_featureOf_109 : decode mi_X_featureOf.2.1 109 = .ok (.ireturn, 1) := by decide +kernel
theorem d_X_featureOf_110 : decode mi_X_featureOf.2.1 110 = .ok (.aload_n 3, 1) := by decide +kernel
theorem d_X_featureOf_111 : decode mi_X_featureOf.2.1 111 = .ok (.getfield 286, 3) := by decide +kernel
theorem d_X_featureOf_114 : decode mi_X_featureOf.2.1 114 = .ok (.invokestatic 289, 3) := by decide +kernel
theorem d_X_featureOf_117 : decode mi_X_featureOf.2.1 117 = .ok (.ireturn, 1) := by decide +kernel
theorem d_X_featureOf_118 : decode mi_X_featureOf.2.1 118 = .ok (.aload_n 3, 1) := by decide +kernel
theorem d_X_featureOf_119 : decode mi_X_featureOf.2.1 119 = .ok (.getfield 381, 3) := by decide +kernel
theorem d_X_featureOf_122 : decode mi_X_featureOf.2.1 122 = .ok (.ireturn, 1) := by decide +kernel
theorem d_X_featureOf_123 : decode mi_X_featureOf.2.1 123 = .ok (.aload_n 3, 1) := by decide +kernel
theorem d_X_featureOf_124 : decode mi_X_featureOf.2.1 124 = .ok (.getfield 381, 3) := by decide +kernel
theorem d_X_featureOf_127 : decode mi_X_featureOf.2.1 127 = .ok (.iconst (-1), 1) := by decide +kernel
theorem d_X_featureOf_128 : decode mi_X_featureOf.2.1 128 = .ok (.if_icmp .ne 7, 3) := by decide +kernel
theorem d_X_featureOf_131 : decode mi_X_featureOf.2.1 131 = .ok (.iconst 0, 1) := by decide +kernel
theorem d_X_featureOf_132 : decode mi_X_featureOf.2.1 132 = .ok (.goto 14, 3) := by decide +kernel
theorem d_X_featureOf_135 : decode mi_X_featureOf.2.1 135 = .ok (.aload_n 3, 1) := by decide +kernel
theorem d_X_featureOf_136 : decode mi_X_featureOf.2.1 136 = .ok (.getfield 384, 3) := by decide +kernel
theorem d_X_featureOf_139 : decode mi_X_featureOf.2.1 139 = .ok (.aload_n 3, 1) := by decide +kernel
theorem d_X_featureOf_140 : decode mi_X_featureOf.2.1 140 = .ok (.getfield 387, 3) := by decide +kernel
theorem d_X_featureOf_143 : decode mi_X_featureOf.2.1 143 = .ok (.isub, 1) := by decide +kernel
theorem d_X_featureOf_144 : decode mi_X_featureOf.2.1 144 = .ok (.iconst 1, 1) := by decide +kernel
theorem d_X_featureOf_145 : decode mi_X_featureOf.2.1 145 = .ok (.iadd, 1) := by decide +kernel
theorem d_X_featureOf_146 : decode mi_X_featureOf.2.1 146 = .ok (.ireturn, 1) := by decide +kernel
theorem d_X_featureOf_147 : decode mi_X_featureOf.2.1 147 = .ok (.aload_n 3, 1) := by decide +kernel
theorem d_X_featureOf_148 : decode mi_X_featureOf.2.1 148 = .ok (.getfield 365, 3) := by decide +kernel
theorem d_X_featureOf_151 : decode mi_X_featureOf.2.1 151 = .ok (.invokestatic 289, 3) := by decide +kernel
theorem d_X_featureOf_154 : decode mi_X_featureOf.2.1 154 = .ok (.ireturn, 1) := by decide +kernel
theorem d_X_featureOf_155 : decode mi_X_featureOf.2.1 155 = .ok (.aload_n 0, 1) := by decide +kernel
theorem d_X_featureOf_156 : decode mi_X_featureOf.2.1 156 = .ok (.bipush (-32), 2) := by decide +kernel
theorem d_X_featureOf_158 : decode mi_X_featureOf.2.1 158 = .ok (.invokevirtual 75, 3) := by decide +kernel
theorem d_X_featureOf_161 : decode mi_X_featureOf.2.1 161 = .ok (.ireturn, 1) := by decide +kernel
theorem d_X_judge_0 : decode mi_X_judge.2.1 0 = .ok (.aload_n 0, 1) := by decide +kernel
theorem d_X_judge_1 : decode mi_X_judge.2.1 1 = .ok (.iload_n 1, 1) := by decide +kernel
theorem d_X_judge_2 : decode mi_X_judge.2.1 2 = .ok (.invokevirtual 220, 3) := by decide +kernel
theorem d_X_judge_5 : decode mi_X_judge.2.1 5 = .ok (.ifCond .eq 21, 3) := by decide +kernel
theorem d_X_judge_8 : decode mi_X_judge.2.1 8 = .ok (.aload_n 0, 1) := by decide +kernel
theorem d_X_judge_9 : decode mi_X_judge.2.1 9 = .ok (.iload_n 2, 1) := by decide +kernel
theorem d_X_judge_10 : decode mi_X_judge.2.1 10 = .ok (.invokevirtual 71, 3) := by decide +kernel
theorem d_X_judge_13 : decode mi_X_judge.2.1 13 = .ok (.ifCond .eq 13, 3) := by decide +kernel
theorem d_X_judge_16 : decode mi_X_judge.2.1 16 = .ok (.iload_n 3, 1) := by decide +kernel
theorem d_X_judge_17 : decode mi_X_judge.2.1 17 = .ok (.ifCond .lt 9, 3) := by decide +kernel
theorem d_X_judge_20 : decode mi_X_judge.2.1 20 = .ok (.iload_n 3, 1) := by decide +kernel
theorem d_X_judge_21 : decode mi_X_judge.2.1 21 = .ok (.bipush 20, 2) := by decide +kernel
theorem d_X_judge_23 : decode mi_X_judge.2.1 23 = .ok (.if_icmp .le 10, 3) := by decide +kernel
theorem d_X_judge_26 : decode mi_X_judge.2.1 26 = .ok (.aload_n 0, 1) := by decide +kernel
theorem d_X_judge_27 : decode mi_X_judge.2.1 27 = .ok (.bipush (-32), 2) := by decide +kernel
theorem d_X_judge_29 : decode mi_X_judge.2.1 29 = .ok (.invokevirtual 75, 3) := by decide +kernel
theorem d_X_judge_32 : decode mi_X_judge.2.1 32 = .ok (.ireturn, 1) := by decide +kernel
theorem d_X_judge_33 : decode mi_X_judge.2.1 33 = .ok (.aload_n 0, 1) := by decide +kernel
theorem d_X_judge_34 : decode mi_X_judge.2.1 34 = .ok (.iload_n 2, 1) := by decide +kernel
theorem d_X_judge_35 : decode mi_X_judge.2.1 35 = .ok (.invokevirtual 83, 3) := by decide +kernel
theorem d_X_judge_38 : decode mi_X_judge.2.1 38 = .ok (.istore 4, 2) := by decide +kernel
theorem d_X_judge_40 : decode mi_X_judge.2.1 40 = .ok (.iload 4, 2) := by decide +kernel
theorem d_X_judge_42 : decode mi_X_judge.2.1 42 = .ok (.ifCond .eq 10, 3) := by decide +kernel
theorem d_X_judge_45 : decode mi_X_judge.2.1 45 = .ok (.aload_n 0, 1) := by decide +kernel
theorem d_X_judge_46 : decode mi_X_judge.2.1 46 = .ok (.iload 4, 2) := by decide +kernel
theorem d_X_judge_48 : decode mi_X_judge.2.1 48 = .ok (.invokevirtual 75, 3) := by decide +kernel
theorem d_X_judge_51 : decode mi_X_judge.2.1 51 = .ok (.ireturn, 1) := by decide +kernel
theorem d_X_judge_52 : decode mi_X_judge.2.1 52 = .ok (.aload_n 0, 1) := by decide +kernel
theorem d_X_judge_53 : decode mi_X_judge.2.1 53 = .ok (.getfield 42, 3) := by decide +kernel
theorem d_X_judge_56 : decode mi_X_judge.2.1 56 = .ok (.iload_n 2, 1) := by decide +kernel
theorem d_X_judge_57 : decode mi_X_judge.2.1 57 = .ok (.aaload, 1) := by decide +kernel
theorem d_X_judge_58 : decode mi_X_judge.2.1 58 = .ok (.astore 5, 2) := by decide +kernel
theorem d_X_judge_60 : decode mi_X_judge.2.1 60 = .ok (.aload 5, 2) := by decide +kernel
theorem d_X_judge_62 : decode mi_X_judge.2.1 62 = .ok (.getfield 86, 3) := by decide +kernel
theorem d_X_judge_65 : decode mi_X_judge.2.1 65 = .ok (.iconst 2, 1) := by decide +kernel
theorem d_X_judge_66 : decode mi_X_judge.2.1 66 = .ok (.iload_n 3, 1) := by decide +kernel
theorem d_X_judge_67 : decode mi_X_judge.2.1 67 = .ok (.imul, 1) := by decide +kernel
theorem d_X_judge_68 : decode mi_X_judge.2.1 68 = .ok (.if_icmp .ge 10, 3) := by decide +kernel
theorem d_X_judge_71 : decode mi_X_judge.2.1 71 = .ok (.aload_n 0, 1) := by decide +kernel
theorem d_X_judge_72 : decode mi_X_judge.2.1 72 = .ok (.bipush (-32), 2) := by decide +kernel
theorem d_X_judge_74 : decode mi_X_judge.2.1 74 = .ok (.invokevirtual 75, 3) := by decide +kernel
theorem d_X_judge_77 : decode mi_X_judge.2.1 77 = .ok (.ireturn, 1) := by decide +kernel
theorem d_X_judge_78 : decode mi_X_judge.2.1 78 = .ok (.aload_n 0, 1) := by decide +kernel
theorem d_X_judge_79 : decode mi_X_judge.2.1 79 = .ok (.aload 5, 2) := by decide +kernel
theorem d_X_judge_81 : decode mi_X_judge.2.1 81 = .ok (.iload_n 3, 1) := by decide +kernel
theorem d_X_judge_82 : decode mi_X_judge.2.1 82 = .ok (.invokevirtual 390, 3) := by decide +kernel
theorem d_X_judge_85 : decode mi_X_judge.2.1 85 = .ok (.ifCond .ne 10, 3) := by decide +kernel
theorem d_X_judge_88 : decode mi_X_judge.2.1 88 = .ok (.aload_n 0, 1) := by decide +kernel
theorem d_X_judge_89 : decode mi_X_judge.2.1 89 = .ok (.bipush (-35), 2) := by decide +kernel
theorem d_X_judge_91 : decode mi_X_judge.2.1 91 = .ok (.invokevirtual 75, 3) := by decide +kernel
theorem d_X_judge_94 : decode mi_X_judge.2.1 94 = .ok (.ireturn, 1) := by decide +kernel
theorem d_X_judge_95 : decode mi_X_judge.2.1 95 = .ok (.aload_n 0, 1) := by decide +kernel
theorem d_X_judge_96 : decode mi_X_judge.2.1 96 = .ok (.iload_n 1, 1) := by decide +kernel
theorem d_X_judge_97 : decode mi_X_judge.2.1 97 = .ok (.aload 5, 2) := by decide +kernel
theorem d_X_judge_99 : decode mi_X_judge.2.1 99 = .ok (.iload_n 3, 1) := by decide +kernel
theorem d_X_judge_100 : decode mi_X_judge.2.1 100 = .ok (.invokevirtual 394, 3) := by decide +kernel
theorem d_X_judge_103 : decode mi_X_judge.2.1 103 = .ok (.ireturn, 1) := by decide +kernel
theorem d_X_hasPersons_0 : decode mi_X_hasPersons.2.1 0 = .ok (.iconst 0, 1) := by decide +kernel
theorem d_X_hasPersons_1 : decode mi_X_hasPersons.2.1 1 = .ok (.istore_n 3, 1) := by decide +kernel
theorem d_X_hasPersons_2 : decode mi_X_hasPersons.2.1 2 = .ok (.iload_n 3, 1) := by decide +kernel
theorem d_X_hasPersons_3 : decode mi_X_hasPersons.2.1 3 = .ok (.iload_n 2, 1) := by decide +kernel
theorem d_X_hasPersons_4 : decode mi_X_hasPersons.2.1 4 = .ok (.if_icmp .ge 33, 3) := by decide +kernel
theorem d_X_hasPersons_7 : decode mi_X_hasPersons.2.1 7 = .ok (.aload_n 0, 1) := by decide +kernel
theorem d_X_hasPersons_8 : decode mi_X_hasPersons.2.1 8 = .ok (.getfield 12, 3) := by decide +kernel
theorem d_X_hasPersons_11 : decode mi_X_hasPersons.2.1 11 = .ok (.getfield 179, 3) := by decide +kernel
theorem d_X_hasPersons_14 : decode mi_X_hasPersons.2.1 14 = .ok (.aload_n 1, 1) := by decide +kernel
theorem d_X_hasPersons_15 : decode mi_X_hasPersons.2.1 15 = .ok (.getfield 101, 3) := by decide +kernel
theorem d_X_hasPersons_18 : decode mi_X_hasPersons.2.1 18 = .ok (.iconst 2, 1) := by decide +kernel
theorem d_X_hasPersons_19 : decode mi_X_hasPersons.2.1 19 = .ok (.iload_n 3, 1) := by decide +kernel
theorem d_X_hasPersons_20 : decode mi_X_hasPersons.2.1 20 = .ok (.imul, 1) := by decide +kernel
theorem d_X_hasPersons_21 : decode mi_X_hasPersons.2.1 21 = .ok (.laload, 1) := by decide +kernel
theorem d_X_hasPersons_22 : decode mi_X_hasPersons.2.1 22 = .ok (.invokevirtual 183, 3) := by decide +kernel
theorem d_X_hasPersons_25 : decode mi_X_hasPersons.2.1 25 = .ok (.iconst (-1), 1) := by decide +kernel
theorem d_X_hasPersons_26 : decode mi_X_hasPersons.2.1 26 = .ok (.if_icmp .ne 5, 3) := by decide +kernel
theorem d_X_hasPersons_29 : decode mi_X_hasPersons.2.1 29 = .ok (.iconst 0, 1) := by decide +kernel
theorem d_X_hasPersons_30 : decode mi_X_hasPersons.2.1 30 = .ok (.ireturn, 1) := by decide +kernel
theorem d_X_hasPersons_31 : decode mi_X_hasPersons.2.1 31 = .ok (.iinc 3 1, 3) := by decide +kernel
theorem d_X_hasPersons_34 : decode mi_X_hasPersons.2.1 34 = .ok (.goto (-32), 3) := by decide +kernel
theorem d_X_hasPersons_37 : decode mi_X_hasPersons.2.1 37 = .ok (.iconst 1, 1) := by decide +kernel
theorem d_X_hasPersons_38 : decode mi_X_hasPersons.2.1 38 = .ok (.ireturn, 1) := by decide +kernel
theorem d_X_firstUntrue_0 : decode mi_X_firstUntrue.2.1 0 = .ok (.iconst 0, 1) := by decide +kernel
theorem d_X_firstUntrue_1 : decode mi_X_firstUntrue.2.1 1 = .ok (.istore 4, 2) := by decide +kernel
theorem d_X_firstUntrue_3 : decode mi_X_firstUntrue.2.1 3 = .ok (.iload 4, 2) := by decide +kernel
theorem d_X_firstUntrue_5 : decode mi_X_firstUntrue.2.1 5 = .ok (.iload_n 3, 1) := by decide +kernel
theorem d_X_firstUntrue_6 : decode mi_X_firstUntrue.2.1 6 = .ok (.if_icmp .ge 62, 3) := by decide +kernel
theorem d_X_firstUntrue_9 : decode mi_X_firstUntrue.2.1 9 = .ok (.aload_n 0, 1) := by decide +kernel
theorem d_X_firstUntrue_10 : decode mi_X_firstUntrue.2.1 10 = .ok (.getfield 12, 3) := by decide +kernel
theorem d_X_firstUntrue_13 : decode mi_X_firstUntrue.2.1 13 = .ok (.getfield 179, 3) := by decide +kernel
theorem d_X_firstUntrue_16 : decode mi_X_firstUntrue.2.1 16 = .ok (.aload_n 2, 1) := by decide +kernel
theorem d_X_firstUntrue_17 : decode mi_X_firstUntrue.2.1 17 = .ok (.getfield 101, 3) := by decide +kernel
theorem d_X_firstUntrue_20 : decode mi_X_firstUntrue.2.1 20 = .ok (.iconst 2, 1) := by decide +kernel
theorem d_X_firstUntrue_21 : decode mi_X_firstUntrue.2.1 21 = .ok (.iload 4, 2) := by decide +kernel
theorem d_X_firstUntrue_23 : decode mi_X_firstUntrue.2.1 23 = .ok (.imul, 1) := by decide +kernel
theorem d_X_firstUntrue_24 : decode mi_X_firstUntrue.2.1 24 = .ok (.laload, 1) := by decide +kernel
theorem d_X_firstUntrue_25 : decode mi_X_firstUntrue.2.1 25 = .ok (.invokevirtual 183, 3) := by decide +kernel
theorem d_X_firstUntrue_28 : decode mi_X_firstUntrue.2.1 28 = .ok (.istore 5, 2) := by decide +kernel
theorem d_X_firstUntrue_30 : decode mi_X_firstUntrue.2.1 30 = .ok (.iload 5, 2) := by decide +kernel
theorem d_X_firstUntrue_32 : decode mi_X_firstUntrue.2.1 32 = .ok (.iconst (-1), 1) := by decide +kernel
theorem d_X_firstUntrue_33 : decode mi_X_firstUntrue.2.1 33 = .ok (.if_icmp .eq 26, 3) := by decide +kernel
theorem d_X_firstUntrue_36 : decode mi_X_firstUntrue.2.1 36 = .ok (.aload_n 0, 1) := by decide +kernel
theorem d_X_firstUntrue_37 : decode mi_X_firstUntrue.2.1 37 = .ok (.iload_n 1, 1) := by decide +kernel
theorem d_X_firstUntrue_38 : decode mi_X_firstUntrue.2.1 38 = .ok (.iload 5, 2) := by decide +kernel
theorem d_X_firstUntrue_40 : decode mi_X_firstUntrue.2.1 40 = .ok (.invokevirtual 321, 3) := by decide +kernel
theorem d_X_firstUntrue_43 : decode mi_X_firstUntrue.2.1 43 = .ok (.i2l, 1) := by decide +kernel
theorem d_X_firstUntrue_44 : decode mi_X_firstUntrue.2.1 44 = .ok (.aload_n 2, 1) := by decide +kernel
theorem d_X_firstUntrue_45 : decode mi_X_firstUntrue.2.1 45 = .ok (.getfield 101, 3) := by decide +kernel
theorem d_X_firstUntrue_48 : decode mi_X_firstUntrue.2.1 48 = .ok (.iconst 2, 1) := by decide +kernel
theorem d_X_firstUntrue_49 : decode mi_X_firstUntrue.2.1 49 = .ok (.iload 4, 2) := by decide +kernel
theorem d_X_firstUntrue_51 : decode mi_X_firstUntrue.2.1 51 = .ok (.imul, 1) := by decide +kernel
theorem d_X_firstUntrue_52 : decode mi_X_firstUntrue.2.1 52 = .ok (.iconst 1, 1) := by decide +kernel
theorem d_X_firstUntrue_53 : decode mi_X_firstUntrue.2.1 53 = .ok (.iadd, 1) := by decide +kernel
theorem d_X_firstUntrue_54 : decode mi_X_firstUntrue.2.1 54 = .ok (.laload, 1) := by decide +kernel
theorem d_X_firstUntrue_55 : decode mi_X_firstUntrue.2.1 55 = .ok (.lcmp, 1) := by decide +kernel
theorem d_X_firstUntrue_56 : decode mi_X_firstUntrue.2.1 56 = .ok (.ifCond .eq 6, 3) := by decide +kernel
theorem d_X_firstUntrue_59 : decode mi_X_firstUntrue.2.1 59 = .ok (.iload 4, 2) := by decide +kernel
theorem d_X_firstUntrue_61 : decode mi_X_firstUntrue.2.1 61 = .ok (.ireturn, 1) := by decide +kernel
theorem d_X_firstUntrue_62 : decode mi_X_firstUntrue.2.1 62 = .ok (.iinc 4 1, 3) := by decide +kernel
theorem d_X_firstUntrue_65 : decode mi_X_firstUntrue.2.1 65 = .ok (.goto (-62), 3) := by decide +kernel
theorem d_X_firstUntrue_68 : decode mi_X_firstUntrue.2.1 68 = .ok (.iconst (-1), 1) := by decide +kernel
theorem d_X_firstUntrue_69 : decode mi_X_firstUntrue.2.1 69 = .ok (.ireturn, 1) := by decide +kernel
theorem d_X_days_0 : decode mi_X_days.2.1 0 = .ok (.iload_n 1, 1) := by decide +kernel
theorem d_X_days_1 : decode mi_X_days.2.1 1 = .ok (.iconst 1, 1) := by decide +kernel
theorem d_X_days_2 : decode mi_X_days.2.1 2 = .ok (.if_icmp .lt 9, 3) := by decide +kernel
theorem d_X_days_5 : decode mi_X_days.2.1 5 = .ok (.iload_n 1, 1) := by decide +kernel
theorem d_X_days_6 : decode mi_X_days.2.1 6 = .ok (.bipush 60, 2) := by decide +kernel
theorem d_X_days_8 : decode mi_X_days.2.1 8 = .ok (.if_icmp .le 10, 3) := by decide +kernel
theorem d_X_days_11 : decode mi_X_days.2.1 11 = .ok (.aload_n 0, 1) := by decide +kernel
theorem d_X_days_12 : decode mi_X_days.2.1 12 = .ok (.bipush (-32), 2) := by decide +kernel
theorem d_X_days_14 : decode mi_X_days.2.1 14 = .ok (.invokevirtual 75, 3) := by decide +kernel
theorem d_X_days_17 : decode mi_X_days.2.1 17 = .ok (.ireturn, 1) := by decide +kernel
theorem d_X_days_18 : decode mi_X_days.2.1 18 = .ok (.aload_n 0, 1) := by decide +kernel
theorem d_X_days_19 : decode mi_X_days.2.1 19 = .ok (.getfield 12, 3) := by decide +kernel
theorem d_X_days_22 : decode mi_X_days.2.1 22 = .ok (.getfield 208, 3) := by decide +kernel
theorem d_X_days_25 : decode mi_X_days.2.1 25 = .ok (.ifCond .eq 16, 3) := by decide +kernel
theorem d_X_days_28 : decode mi_X_days.2.1 28 = .ok (.aload_n 0, 1) := by decide +kernel
theorem d_X_days_29 : decode mi_X_days.2.1 29 = .ok (.getfield 12, 3) := by decide +kernel
theorem d_X_days_32 : decode mi_X_days.2.1 32 = .ok (.getfield 179, 3) := by decide +kernel
theorem d_X_days_35 : decode mi_X_days.2.1 35 = .ok (.getfield 189, 3) := by decide +kernel
theorem d_X_days_38 : decode mi_X_days.2.1 38 = .ok (.ifCond .ne 10, 3) := by decide +kernel
theorem d_X_days_41 : decode mi_X_days.2.1 41 = .ok (.aload_n 0, 1) := by decide +kernel
theorem d_X_days_42 : decode mi_X_days.2.1 42 = .ok (.bipush (-35), 2) := by decide +kernel
theorem d_X_days_44 : decode mi_X_days.2.1 44 = .ok (.invokevirtual 75, 3) := by decide +kernel
theorem d_X_days_47 : decode mi_X_days.2.1 47 = .ok (.ireturn, 1) := by decide +kernel
theorem d_X_days_48 : decode mi_X_days.2.1 48 = .ok (.iconst 0, 1) := by decide +kernel
theorem d_X_days_49 : decode mi_X_days.2.1 49 = .ok (.istore_n 2, 1) := by decide +kernel
theorem d_X_days_50 : decode mi_X_days.2.1 50 = .ok (.iconst 0, 1) := by decide +kernel
theorem d_X_days_51 : decode mi_X_days.2.1 51 = .ok (.istore_n 3, 1) := by decide +kernel
theorem d_X_days_52 : decode mi_X_days.2.1 52 = .ok (.iload_n 3, 1) := by decide +kernel
theorem d_X_days_53 : decode mi_X_days.2.1 53 = .ok (.iload_n 1, 1) := by decide +kernel
theorem d_X_days_54 : decode mi_X_days.2.1 54 = .ok (.if_icmp .ge 74, 3) := by decide +kernel
theorem d_X_days_57 : decode mi_X_days.2.1 57 = .ok (.aload_n 0, 1) := by decide +kernel
theorem d_X_days_58 : decode mi_X_days.2.1 58 = .ok (.getfield 12, 3) := by decide +kernel
theorem d_X_days_61 : decode mi_X_days.2.1 61 = .ok (.aload_n 0, 1) := by decide +kernel
theorem d_X_days_62 : decode mi_X_days.2.1 62 = .ok (.getfield 12, 3) := by decide +kernel
theorem d_X_days_65 : decode mi_X_days.2.1 65 = .ok (.getfield 208, 3) := by decide +kernel
theorem d_X_days_68 : decode mi_X_days.2.1 68 = .ok (.invokevirtual 398, 3) := by decide +kernel
theorem d_X_days_71 : decode mi_X_days.2.1 71 = .ok (.istore 4, 2) := by decide +kernel
theorem d_X_days_73 : decode mi_X_days.2.1 73 = .ok (.aload_n 0, 1) := by decide +kernel
theorem d_X_days_74 : decode mi_X_days.2.1 74 = .ok (.getfield 12, 3) := by decide +kernel
theorem d_X_days_77 : decode mi_X_days.2.1 77 = .ok (.aload_n 0, 1) := by decide +kernel
theorem d_X_days_78 : decode mi_X_days.2.1 78 = .ok (.getfield 12, 3) := by decide +kernel
theorem d_X_days_81 : decode mi_X_days.2.1 81 = .ok (.getfield 179, 3) := by decide +kernel
theorem d_X_days_84 : decode mi_X_days.2.1 84 = .ok (.getfield 189, 3) := by decide +kernel
theorem d_X_days_87 : decode mi_X_days.2.1 87 = .ok (.invokevirtual 398, 3) := by decide +kernel
theorem d_X_days_90 : decode mi_X_days.2.1 90 = .ok (.istore 5, 2) := by decide +kernel
theorem d_X_days_92 : decode mi_X_days.2.1 92 = .ok (.aload_n 0, 1) := by decide +kernel
theorem d_X_days_93 : decode mi_X_days.2.1 93 = .ok (.iload 4, 2) := by decide +kernel
theorem d_X_days_95 : decode mi_X_days.2.1 95 = .ok (.iload 5, 2) := by decide +kernel
theorem d_X_days_97 : decode mi_X_days.2.1 97 = .ok (.invokevirtual 318, 3) := by decide +kernel
theorem d_X_days_100 : decode mi_X_days.2.1 100 = .ok (.ifCond .eq 6, 3) := by decide +kernel
theorem d_X_days_103 : decode mi_X_days.2.1 103 = .ok (.iinc 2 1, 3) := by decide +kernel
theorem d_X_days_106 : decode mi_X_days.2.1 106 = .ok (.aload_n 0, 1) := by decide +kernel
theorem d_X_days_107 : decode mi_X_days.2.1 107 = .ok (.getfield 12, 3) := by decide +kernel
theorem d_X_days_110 : decode mi_X_days.2.1 110 = .ok (.aload_n 0, 1) := by decide +kernel
theorem d_X_days_111 : decode mi_X_days.2.1 111 = .ok (.getfield 12, 3) := by decide +kernel
theorem d_X_days_114 : decode mi_X_days.2.1 114 = .ok (.iconst 4, 1) := by decide +kernel
theorem d_X_days_115 : decode mi_X_days.2.1 115 = .ok (.invokevirtual 398, 3) := by decide +kernel
theorem d_X_days_118 : decode mi_X_days.2.1 118 = .ok (.invokevirtual 315, 3) := by decide +kernel
theorem d_X_days_121 : decode mi_X_days.2.1 121 = .ok (.pop, 1) := by decide +kernel
theorem d_X_days_122 : decode mi_X_days.2.1 122 = .ok (.iinc 3 1, 3) := by decide +kernel
theorem d_X_days_125 : decode mi_X_days.2.1 125 = .ok (.goto (-73), 3) := by decide +kernel
theorem d_X_days_128 : decode mi_X_days.2.1 128 = .ok (.iload_n 2, 1) := by decide +kernel
theorem d_X_days_129 : decode mi_X_days.2.1 129 = .ok (.ireturn, 1) := by decide +kernel
theorem d_X_seed_0 : decode mi_X_seed.2.1 0 = .ok (.aload_n 0, 1) := by decide +kernel
theorem d_X_seed_1 : decode mi_X_seed.2.1 1 = .ok (.getfield 12, 3) := by decide +kernel
theorem d_X_seed_4 : decode mi_X_seed.2.1 4 = .ok (.getfield 401, 3) := by decide +kernel
theorem d_X_seed_7 : decode mi_X_seed.2.1 7 = .ok (.istore_n 2, 1) := by decide +kernel
theorem d_X_seed_8 : decode mi_X_seed.2.1 8 = .ok (.aload_n 0, 1) := by decide +kernel
theorem d_X_seed_9 : decode mi_X_seed.2.1 9 = .ok (.getfield 12, 3) := by decide +kernel
theorem d_X_seed_12 : decode mi_X_seed.2.1 12 = .ok (.iload_n 1, 1) := by decide +kernel
theorem d_X_seed_13 : decode mi_X_seed.2.1 13 = .ok (.putfield 401, 3) := by decide +kernel
theorem d_X_seed_16 : decode mi_X_seed.2.1 16 = .ok (.iload_n 2, 1) := by decide +kernel
theorem d_X_seed_17 : decode mi_X_seed.2.1 17 = .ok (.ireturn, 1) := by decide +kernel
theorem d_X_image_0 : decode mi_X_image.2.1 0 = .ok (.aload_n 0, 1) := by decide +kernel
theorem d_X_image_1 : decode mi_X_image.2.1 1 = .ok (.getfield 16, 3) := by decide +kernel
theorem d_X_image_4 : decode mi_X_image.2.1 4 = .ok (.aload_n 0, 1) := by decide +kernel
theorem d_X_image_5 : decode mi_X_image.2.1 5 = .ok (.getfield 12, 3) := by decide +kernel
theorem d_X_image_8 : decode mi_X_image.2.1 8 = .ok (.invokevirtual 339, 3) := by decide +kernel
theorem d_X_image_11 : decode mi_X_image.2.1 11 = .ok (.aload_n 0, 1) := by decide +kernel
theorem d_X_image_12 : decode mi_X_image.2.1 12 = .ok (.iconst 1, 1) := by decide +kernel
theorem d_X_image_13 : decode mi_X_image.2.1 13 = .ok (.putfield 22, 3) := by decide +kernel
theorem d_X_image_16 : decode mi_X_image.2.1 16 = .ok (.iconst 1, 1) := by decide +kernel
theorem d_X_image_17 : decode mi_X_image.2.1 17 = .ok (.ireturn, 1) := by decide +kernel
theorem d_X_back_0 : decode mi_X_back.2.1 0 = .ok (.aload_n 0, 1) := by decide +kernel
theorem d_X_back_1 : decode mi_X_back.2.1 1 = .ok (.getfield 22, 3) := by decide +kernel
theorem d_X_back_4 : decode mi_X_back.2.1 4 = .ok (.ifCond .ne 10, 3) := by decide +kernel
theorem d_X_back_7 : decode mi_X_back.2.1 7 = .ok (.aload_n 0, 1) := by decide +kernel
theorem d_X_back_8 : decode mi_X_back.2.1 8 = .ok (.bipush (-35), 2) := by decide +kernel
theorem d_X_back_10 : decode mi_X_back.2.1 10 = .ok (.invokevirtual 75, 3) := by decide +kernel
theorem d_X_back_13 : decode mi_X_back.2.1 13 = .ok (.ireturn, 1) := by decide +kernel
theorem d_X_back_14 : decode mi_X_back.2.1 14 = .ok (.aload_n 0, 1) := by decide +kernel
theorem d_X_back_15 : decode mi_X_back.2.1 15 = .ok (.getfield 12, 3) := by decide +kernel
theorem d_X_back_18 : decode mi_X_back.2.1 18 = .ok (.aload_n 0, 1) := by decide +kernel
theorem d_X_back_19 : decode mi_X_back.2.1 19 = .ok (.getfield 16, 3) := by decide +kernel
theorem d_X_back_22 : decode mi_X_back.2.1 22 = .ok (.invokevirtual 339, 3) := by decide +kernel
theorem d_X_back_25 : decode mi_X_back.2.1 25 = .ok (.iconst 1, 1) := by decide +kernel
theorem d_X_back_26 : decode mi_X_back.2.1 26 = .ok (.ireturn, 1) := by decide +kernel
theorem d_X_status_0 : decode mi_X_status.2.1 0 = .ok (.iload_n 1, 1) := by decide +kernel
theorem d_X_status_1 : decode mi_X_status.2.1 1 = .ok (.bipush 12, 2) := by decide +kernel
theorem d_X_status_3 : decode mi_X_status.2.1 3 = .ok (.if_icmp .lt 19, 3) := by decide +kernel
theorem d_X_status_6 : decode mi_X_status.2.1 6 = .ok (.iload_n 1, 1) := by decide +kernel
theorem d_X_status_7 : decode mi_X_status.2.1 7 = .ok (.bipush 17, 2) := by decide +kernel
theorem d_X_status_9 : decode mi_X_status.2.1 9 = .ok (.if_icmp .ge 13, 3) := by decide +kernel
theorem d_X_status_12 : decode mi_X_status.2.1 12 = .ok (.aload_n 0, 1) := by decide +kernel
theorem d_X_status_13 : decode mi_X_status.2.1 13 = .ok (.getfield 67, 3) := by decide +kernel
theorem d_X_status_16 : decode mi_X_status.2.1 16 = .ok (.iload_n 1, 1) := by decide +kernel
theorem d_X_status_17 : decode mi_X_status.2.1 17 = .ok (.bipush 12, 2) := by decide +kernel
theorem d_X_status_19 : decode mi_X_status.2.1 19 = .ok (.isub, 1) := by decide +kernel
theorem d_X_status_20 : decode mi_X_status.2.1 20 = .ok (.iaload, 1) := by decide +kernel
theorem d_X_status_21 : decode mi_X_status.2.1 21 = .ok (.ireturn, 1) := by decide +kernel
theorem d_X_status_22 : decode mi_X_status.2.1 22 = .ok (.iload_n 1, 1) := by decide +kernel
theorem d_X_status_23 : decode mi_X_status.2.1 23 = .ok (.tableswitch 145 0 10 #[57, 68, 76, 84, 92, 103, 111, 119, 127, 132, 140], 57) := by decide +kernel
theorem d_X_status_80 : decode mi_X_status.2.1 80 = .ok (.aload_n 0, 1) := by decide +kernel
theorem d_X_status_81 : decode mi_X_status.2.1 81 = .ok (.getfield 12, 3) := by decide +kernel
theorem d_X_status_84 : decode mi_X_status.2.1 84 = .ok (.getfield 179, 3) := by decide +kernel
theorem d_X_status_87 : decode mi_X_status.2.1 87 = .ok (.getfield 189, 3) := by decide +kernel
theorem d_X_status_90 : decode mi_X_status.2.1 90 = .ok (.ireturn, 1) := by decide +kernel
theorem d_X_status_91 : decode mi_X_status.2.1 91 = .ok (.aload_n 0, 1) := by decide +kernel
theorem d_X_status_92 : decode mi_X_status.2.1 92 = .ok (.getfield 12, 3) := by decide +kernel
theorem d_X_status_95 : decode mi_X_status.2.1 95 = .ok (.getfield 208, 3) := by decide +kernel
theorem d_X_status_98 : decode mi_X_status.2.1 98 = .ok (.ireturn, 1) := by decide +kernel
theorem d_X_status_99 : decode mi_X_status.2.1 99 = .ok (.aload_n 0, 1) := by decide +kernel
theorem d_X_status_100 : decode mi_X_status.2.1 100 = .ok (.getfield 12, 3) := by decide +kernel
theorem d_X_status_103 : decode mi_X_status.2.1 103 = .ok (.invokevirtual 404, 3) := by decide +kernel
theorem d_X_status_106 : decode mi_X_status.2.1 106 = .ok (.ireturn, 1) := by decide +kernel
theorem d_X_status_107 : decode mi_X_status.2.1 107 = .ok (.aload_n 0, 1) := by decide +kernel
theorem d_X_status_108 : decode mi_X_status.2.1 108 = .ok (.getfield 12, 3) := by decide +kernel
theorem d_X_status_111 : decode mi_X_status.2.1 111 = .ok (.invokevirtual 407, 3) := by decide +kernel
theorem d_X_status_114 : decode mi_X_status.2.1 114 = .ok (.ireturn, 1) := by decide +kernel
theorem d_X_status_115 : decode mi_X_status.2.1 115 = .ok (.aload_n 0, 1) := by decide +kernel
theorem d_X_status_116 : decode mi_X_status.2.1 116 = .ok (.getfield 12, 3) := by decide +kernel
theorem d_X_status_119 : decode mi_X_status.2.1 119 = .ok (.getfield 305, 3) := by decide +kernel
theorem d_X_status_122 : decode mi_X_status.2.1 122 = .ok (.getfield 309, 3) := by decide +kernel
theorem d_X_status_125 : decode mi_X_status.2.1 125 = .ok (.ireturn, 1) := by decide +kernel
theorem d_X_status_126 : decode mi_X_status.2.1 126 = .ok (.aload_n 0, 1) := by decide +kernel
theorem d_X_status_127 : decode mi_X_status.2.1 127 = .ok (.getfield 12, 3) := by decide +kernel
theorem d_X_status_130 : decode mi_X_status.2.1 130 = .ok (.getfield 301, 3) := by decide +kernel
theorem d_X_status_133 : decode mi_X_status.2.1 133 = .ok (.ireturn, 1) := by decide +kernel
theorem d_X_status_134 : decode mi_X_status.2.1 134 = .ok (.aload_n 0, 1) := by decide +kernel
theorem d_X_status_135 : decode mi_X_status.2.1 135 = .ok (.getfield 12, 3) := by decide +kernel
theorem d_X_status_138 : decode mi_X_status.2.1 138 = .ok (.invokevirtual 410, 3) := by decide +kernel
theorem d_X_status_141 : decode mi_X_status.2.1 141 = .ok (.ireturn, 1) := by decide +kernel
theorem d_X_status_142 : decode mi_X_status.2.1 142 = .ok (.aload_n 0, 1) := by decide +kernel
theorem d_X_status_143 : decode mi_X_status.2.1 143 = .ok (.getfield 12, 3) := by decide +kernel
theorem d_X_status_146 : decode mi_X_status.2.1 146 = .ok (.getfield 413, 3) := by decide +kernel
theorem d_X_status_149 : decode mi_X_status.2.1 149 = .ok (.ireturn, 1) := by decide +kernel
theorem d_X_status_150 : decode mi_X_status.2.1 150 = .ok (.aload_n 0, 1) := by decide +kernel
theorem d_X_status_151 : decode mi_X_status.2.1 151 = .ok (.getfield 49, 3) := by decide +kernel
theorem d_X_status_154 : decode mi_X_status.2.1 154 = .ok (.ireturn, 1) := by decide +kernel
theorem d_X_status_155 : decode mi_X_status.2.1 155 = .ok (.aload_n 0, 1) := by decide +kernel
theorem d_X_status_156 : decode mi_X_status.2.1 156 = .ok (.getfield 12, 3) := by decide +kernel
theorem d_X_status_159 : decode mi_X_status.2.1 159 = .ok (.getfield 401, 3) := by decide +kernel
theorem d_X_status_162 : decode mi_X_status.2.1 162 = .ok (.ireturn, 1) := by decide +kernel
theorem d_X_status_163 : decode mi_X_status.2.1 163 = .ok (.aload_n 0, 1) := by decide +kernel
theorem d_X_status_164 : decode mi_X_status.2.1 164 = .ok (.invokevirtual 416, 3) := by decide +kernel
theorem d_X_status_167 : decode mi_X_status.2.1 167 = .ok (.ireturn, 1) := by decide +kernel
theorem d_X_status_168 : decode mi_X_status.2.1 168 = .ok (.iconst (-1), 1) := by decide +kernel
theorem d_X_status_169 : decode mi_X_status.2.1 169 = .ok (.ireturn, 1) := by decide +kernel
theorem d_X_countShelves_0 : decode mi_X_countShelves.2.1 0 = .ok (.iconst 0, 1) := by decide +kernel
theorem d_X_countShelves_1 : decode mi_X_countShelves.2.1 1 = .ok (.istore_n 1, 1) := by decide +kernel
theorem d_X_countShelves_2 : decode mi_X_countShelves.2.1 2 = .ok (.iconst 0, 1) := by decide +kernel
theorem d_X_countShelves_3 : decode mi_X_countShelves.2.1 3 = .ok (.istore_n 2, 1) := by decide +kernel
theorem d_X_countShelves_4 : decode mi_X_countShelves.2.1 4 = .ok (.iload_n 2, 1) := by decide +kernel
theorem d_X_countShelves_5 : decode mi_X_countShelves.2.1 5 = .ok (.bipush 8, 2) := by decide +kernel
theorem d_X_countShelves_7 : decode mi_X_countShelves.2.1 7 = .ok (.if_icmp .ge 25, 3) := by decide +kernel
theorem d_X_countShelves_10 : decode mi_X_countShelves.2.1 10 = .ok (.aload_n 0, 1) := by decide +kernel
theorem d_X_countShelves_11 : decode mi_X_countShelves.2.1 11 = .ok (.getfield 42, 3) := by decide +kernel
theorem d_X_countShelves_14 : decode mi_X_countShelves.2.1 14 = .ok (.iload_n 2, 1) := by decide +kernel
theorem d_X_countShelves_15 : decode mi_X_countShelves.2.1 15 = .ok (.aaload, 1) := by decide +kernel
theorem d_X_countShelves_16 : decode mi_X_countShelves.2.1 16 = .ok (.invokevirtual 115, 3) := by decide +kernel
theorem d_X_countShelves_19 : decode mi_X_countShelves.2.1 19 = .ok (.iconst (-1), 1) := by decide +kernel
theorem d_X_countShelves_20 : decode mi_X_countShelves.2.1 20 = .ok (.if_icmp .eq 6, 3) := by decide +kernel
theorem d_X_countShelves_23 : decode mi_X_countShelves.2.1 23 = .ok (.iinc 1 1, 3) := by decide +kernel
theorem d_X_countShelves_26 : decode mi_X_countShelves.2.1 26 = .ok (.iinc 2 1, 3) := by decide +kernel
theorem d_X_countShelves_29 : decode mi_X_countShelves.2.1 29 = .ok (.goto (-25), 3) := by decide +kernel
theorem d_X_countShelves_32 : decode mi_X_countShelves.2.1 32 = .ok (.iload_n 1, 1) := by decide +kernel
theorem d_X_countShelves_33 : decode mi_X_countShelves.2.1 33 = .ok (.ireturn, 1) := by decide +kernel
