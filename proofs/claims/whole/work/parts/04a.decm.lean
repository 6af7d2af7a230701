theorem d_M_init_0 : decode mi_M_init.2.1 0 = .ok (.aload_n 0, 1) := by decide +kernel
theorem d_M_init_1 : decode mi_M_init.2.1 1 = .ok (.invokespecial 1, 3) := by decide +kernel
theorem d_M_init_4 : decode mi_M_init.2.1 4 = .ok (.aload_n 0, 1) := by decide +kernel
theorem d_M_init_5 : decode mi_M_init.2.1 5 = .ok (.sipush 1182, 3) := by decide +kernel
theorem d_M_init_8 : decode mi_M_init.2.1 8 = .ok (.newarray .int, 2) := by decide +kernel
theorem d_M_init_10 : decode mi_M_init.2.1 10 = .ok (.putfield 9, 3) := by decide +kernel
theorem d_M_init_13 : decode mi_M_init.2.1 13 = .ok (.aload_n 0, 1) := by decide +kernel
theorem d_M_init_14 : decode mi_M_init.2.1 14 = .ok (.sipush 1182, 3) := by decide +kernel
theorem d_M_init_17 : decode mi_M_init.2.1 17 = .ok (.newarray .int, 2) := by decide +kernel
theorem d_M_init_19 : decode mi_M_init.2.1 19 = .ok (.putfield 13, 3) := by decide +kernel
theorem d_M_init_22 : decode mi_M_init.2.1 22 = .ok (.aload_n 0, 1) := by decide +kernel
theorem d_M_init_23 : decode mi_M_init.2.1 23 = .ok (.sipush 1182, 3) := by decide +kernel
theorem d_M_init_26 : decode mi_M_init.2.1 26 = .ok (.newarray .int, 2) := by decide +kernel
theorem d_M_init_28 : decode mi_M_init.2.1 28 = .ok (.putfield 16, 3) := by decide +kernel
theorem d_M_init_31 : decode mi_M_init.2.1 31 = .ok (.aload_n 0, 1) := by decide +kernel
theorem d_M_init_32 : decode mi_M_init.2.1 32 = .ok (.iconst 5, 1) := by decide +kernel
theorem d_M_init_33 : decode mi_M_init.2.1 33 = .ok (.newarray .int, 2) := by decide +kernel
theorem d_M_init_35 : decode mi_M_init.2.1 35 = .ok (.putfield 19, 3) := by decide +kernel
theorem d_M_init_38 : decode mi_M_init.2.1 38 = .ok (.aload_n 0, 1) := by decide +kernel
theorem d_M_init_39 : decode mi_M_init.2.1 39 = .ok (.sipush 256, 3) := by decide +kernel
theorem d_M_init_42 : decode mi_M_init.2.1 42 = .ok (.newarray .int, 2) := by decide +kernel
theorem d_M_init_44 : decode mi_M_init.2.1 44 = .ok (.putfield 22, 3) := by decide +kernel
theorem d_M_init_47 : decode mi_M_init.2.1 47 = .ok (.aload_n 0, 1) := by decide +kernel
theorem d_M_init_48 : decode mi_M_init.2.1 48 = .ok (.sipush 256, 3) := by decide +kernel
theorem d_M_init_51 : decode mi_M_init.2.1 51 = .ok (.newarray .int, 2) := by decide +kernel
theorem d_M_init_53 : decode mi_M_init.2.1 53 = .ok (.putfield 25, 3) := by decide +kernel
theorem d_M_init_56 : decode mi_M_init.2.1 56 = .ok (.aload_n 0, 1) := by decide +kernel
theorem d_M_init_57 : decode mi_M_init.2.1 57 = .ok (.sipush 256, 3) := by decide +kernel
theorem d_M_init_60 : decode mi_M_init.2.1 60 = .ok (.newarray .int, 2) := by decide +kernel
theorem d_M_init_62 : decode mi_M_init.2.1 62 = .ok (.putfield 28, 3) := by decide +kernel
theorem d_M_init_65 : decode mi_M_init.2.1 65 = .ok (.aload_n 0, 1) := by decide +kernel
theorem d_M_init_66 : decode mi_M_init.2.1 66 = .ok (.sipush 256, 3) := by decide +kernel
theorem d_M_init_69 : decode mi_M_init.2.1 69 = .ok (.newarray .int, 2) := by decide +kernel
theorem d_M_init_71 : decode mi_M_init.2.1 71 = .ok (.putfield 31, 3) := by decide +kernel
theorem d_M_init_74 : decode mi_M_init.2.1 74 = .ok (.aload_n 0, 1) := by decide +kernel
theorem d_M_init_75 : decode mi_M_init.2.1 75 = .ok (.sipush 250, 3) := by decide +kernel
theorem d_M_init_78 : decode mi_M_init.2.1 78 = .ok (.newarray .int, 2) := by decide +kernel
theorem d_M_init_80 : decode mi_M_init.2.1 80 = .ok (.putfield 34, 3) := by decide +kernel
theorem d_M_init_83 : decode mi_M_init.2.1 83 = .ok (.aload_n 0, 1) := by decide +kernel
theorem d_M_init_84 : decode mi_M_init.2.1 84 = .ok (.iconst 3, 1) := by decide +kernel
theorem d_M_init_85 : decode mi_M_init.2.1 85 = .ok (.newarray .int, 2) := by decide +kernel
theorem d_M_init_87 : decode mi_M_init.2.1 87 = .ok (.putfield 37, 3) := by decide +kernel
theorem d_M_init_90 : decode mi_M_init.2.1 90 = .ok (.aload_n 0, 1) := by decide +kernel
theorem d_M_init_91 : decode mi_M_init.2.1 91 = .ok (.bipush 12, 2) := by decide +kernel
theorem d_M_init_93 : decode mi_M_init.2.1 93 = .ok (.newarray .int, 2) := by decide +kernel
theorem d_M_init_95 : decode mi_M_init.2.1 95 = .ok (.putfield 40, 3) := by decide +kernel
theorem d_M_init_98 : decode mi_M_init.2.1 98 = .ok (.aload_n 0, 1) := by decide +kernel
theorem d_M_init_99 : decode mi_M_init.2.1 99 = .ok (.bipush 12, 2) := by decide +kernel
theorem d_M_init_101 : decode mi_M_init.2.1 101 = .ok (.newarray .int, 2) := by decide +kernel
theorem d_M_init_103 : decode mi_M_init.2.1 103 = .ok (.putfield 43, 3) := by decide +kernel
theorem d_M_init_106 : decode mi_M_init.2.1 106 = .ok (.aload_n 0, 1) := by decide +kernel
theorem d_M_init_107 : decode mi_M_init.2.1 107 = .ok (.bipush 12, 2) := by decide +kernel
theorem d_M_init_109 : decode mi_M_init.2.1 109 = .ok (.newarray .int, 2) := by decide +kernel
theorem d_M_init_111 : decode mi_M_init.2.1 111 = .ok (.putfield 46, 3) := by decide +kernel
theorem d_M_init_114 : decode mi_M_init.2.1 114 = .ok (.aload_n 0, 1) := by decide +kernel
theorem d_M_init_115 : decode mi_M_init.2.1 115 = .ok (.bipush 12, 2) := by decide +kernel
theorem d_M_init_117 : decode mi_M_init.2.1 117 = .ok (.newarray .int, 2) := by decide +kernel
theorem d_M_init_119 : decode mi_M_init.2.1 119 = .ok (.putfield 49, 3) := by decide +kernel
theorem d_M_init_122 : decode mi_M_init.2.1 122 = .ok (.aload_n 0, 1) := by decide +kernel
theorem d_M_init_123 : decode mi_M_init.2.1 123 = .ok (.bipush 24, 2) := by decide +kernel
theorem d_M_init_125 : decode mi_M_init.2.1 125 = .ok (.newarray .int, 2) := by decide +kernel
theorem d_M_init_127 : decode mi_M_init.2.1 127 = .ok (.putfield 52, 3) := by decide +kernel
theorem d_M_init_130 : decode mi_M_init.2.1 130 = .ok (.aload_n 0, 1) := by decide +kernel
theorem d_M_init_131 : decode mi_M_init.2.1 131 = .ok (.bipush 8, 2) := by decide +kernel
theorem d_M_init_133 : decode mi_M_init.2.1 133 = .ok (.newarray .int, 2) := by decide +kernel
theorem d_M_init_135 : decode mi_M_init.2.1 135 = .ok (.dup, 1) := by decide +kernel
theorem d_M_init_136 : decode mi_M_init.2.1 136 = .ok (.iconst 0, 1) := by decide +kernel
theorem d_M_init_137 : decode mi_M_init.2.1 137 = .ok (.iconst (-1), 1) := by decide +kernel
theorem d_M_init_138 : decode mi_M_init.2.1 138 = .ok (.iastore, 1) := by decide +kernel
theorem d_M_init_139 : decode mi_M_init.2.1 139 = .ok (.dup, 1) := by decide +kernel
theorem d_M_init_140 : decode mi_M_init.2.1 140 = .ok (.iconst 1, 1) := by decide +kernel
theorem d_M_init_141 : decode mi_M_init.2.1 141 = .ok (.iconst (-1), 1) := by decide +kernel
theorem d_M_init_142 : decode mi_M_init.2.1 142 = .ok (.iastore, 1) := by decide +kernel
theorem d_M_init_143 : decode mi_M_init.2.1 143 = .ok (.dup, 1) := by decide +kernel
theorem d_M_init_144 : decode mi_M_init.2.1 144 = .ok (.iconst 2, 1) := by decide +kernel
theorem d_M_init_145 : decode mi_M_init.2.1 145 = .ok (.iconst (-1), 1) := by decide +kernel
theorem d_M_init_146 : decode mi_M_init.2.1 146 = .ok (.iastore, 1) := by decide +kernel
theorem d_M_init_147 : decode mi_M_init.2.1 147 = .ok (.dup, 1) := by decide +kernel
theorem d_M_init_148 : decode mi_M_init.2.1 148 = .ok (.iconst 3, 1) := by decide +kernel
theorem d_M_init_149 : decode mi_M_init.2.1 149 = .ok (.iconst (-1), 1) := by decide +kernel
theorem d_M_init_150 : decode mi_M_init.2.1 150 = .ok (.iastore, 1) := by decide +kernel
theorem d_M_init_151 : decode mi_M_init.2.1 151 = .ok (.dup, 1) := by decide +kernel
theorem d_M_init_152 : decode mi_M_init.2.1 152 = .ok (.iconst 4, 1) := by decide +kernel
theorem d_M_init_153 : decode mi_M_init.2.1 153 = .ok (.iconst (-1), 1) := by decide +kernel
theorem d_M_init_154 : decode mi_M_init.2.1 154 = .ok (.iastore, 1) := by decide +kernel
theorem d_M_init_155 : decode mi_M_init.2.1 155 = .ok (.dup, 1) := by decide +kernel
theorem d_M_init_156 : decode mi_M_init.2.1 156 = .ok (.iconst 5, 1) := by decide +kernel
theorem d_M_init_157 : decode mi_M_init.2.1 157 = .ok (.iconst (-1), 1) := by decide +kernel
theorem d_M_init_158 : decode mi_M_init.2.1 158 = .ok (.iastore, 1) := by decide +kernel
theorem d_M_init_159 : decode mi_M_init.2.1 159 = .ok (.dup, 1) := by decide +kernel
theorem d_M_init_160 : decode mi_M_init.2.1 160 = .ok (.bipush 6, 2) := by decide +kernel
theorem d_M_init_162 : decode mi_M_init.2.1 162 = .ok (.iconst (-1), 1) := by decide +kernel
theorem d_M_init_163 : decode mi_M_init.2.1 163 = .ok (.iastore, 1) := by decide +kernel
theorem d_M_init_164 : decode mi_M_init.2.1 164 = .ok (.dup, 1) := by decide +kernel
theorem d_M_init_165 : decode mi_M_init.2.1 165 = .ok (.bipush 7, 2) := by decide +kernel
theorem d_M_init_167 : decode mi_M_init.2.1 167 = .ok (.iconst (-1), 1) := by decide +kernel
theorem d_M_init_168 : decode mi_M_init.2.1 168 = .ok (.iastore, 1) := by decide +kernel
theorem d_M_init_169 : decode mi_M_init.2.1 169 = .ok (.putfield 55, 3) := by decide +kernel
theorem d_M_init_172 : decode mi_M_init.2.1 172 = .ok (.aload_n 0, 1) := by decide +kernel
theorem d_M_init_173 : decode mi_M_init.2.1 173 = .ok (.bipush 8, 2) := by decide +kernel
theorem d_M_init_175 : decode mi_M_init.2.1 175 = .ok (.newarray .int, 2) := by decide +kernel
theorem d_M_init_177 : decode mi_M_init.2.1 177 = .ok (.putfield 58, 3) := by decide +kernel
theorem d_M_init_180 : decode mi_M_init.2.1 180 = .ok (.aload_n 0, 1) := by decide +kernel
theorem d_M_init_181 : decode mi_M_init.2.1 181 = .ok (.sipush 320, 3) := by decide +kernel
theorem d_M_init_184 : decode mi_M_init.2.1 184 = .ok (.newarray .long, 2) := by decide +kernel
theorem d_M_init_186 : decode mi_M_init.2.1 186 = .ok (.putfield 61, 3) := by decide +kernel
theorem d_M_init_189 : decode mi_M_init.2.1 189 = .ok (.aload_n 0, 1) := by decide +kernel
theorem d_M_init_190 : decode mi_M_init.2.1 190 = .ok (.bipush 8, 2) := by decide +kernel
theorem d_M_init_192 : decode mi_M_init.2.1 192 = .ok (.newarray .int, 2) := by decide +kernel
theorem d_M_init_194 : decode mi_M_init.2.1 194 = .ok (.putfield 65, 3) := by decide +kernel
theorem d_M_init_197 : decode mi_M_init.2.1 197 = .ok (.aload_n 0, 1) := by decide +kernel
theorem d_M_init_198 : decode mi_M_init.2.1 198 = .ok (.getfield 9, 3) := by decide +kernel
theorem d_M_init_201 : decode mi_M_init.2.1 201 = .ok (.iconst 5, 1) := by decide +kernel
theorem d_M_init_202 : decode mi_M_init.2.1 202 = .ok (.iconst 1, 1) := by decide +kernel
theorem d_M_init_203 : decode mi_M_init.2.1 203 = .ok (.iastore, 1) := by decide +kernel
theorem d_M_init_204 : decode mi_M_init.2.1 204 = .ok (.return_, 1) := by decide +kernel
theorem d_M_feed_0 : decode mi_M_feed.2.1 0 = .ok (.iload_n 1, 1) := by decide +kernel
theorem d_M_feed_1 : decode mi_M_feed.2.1 1 = .ok (.i2l, 1) := by decide +kernel
theorem d_M_feed_2 : decode mi_M_feed.2.1 2 = .ok (.lconst 0, 1) := by decide +kernel
theorem d_M_feed_3 : decode mi_M_feed.2.1 3 = .ok (.ldc2_w 104, 3) := by decide +kernel
theorem d_M_feed_6 : decode mi_M_feed.2.1 6 = .ok (.invokestatic 68, 3) := by decide +kernel
theorem d_M_feed_9 : decode mi_M_feed.2.1 9 = .ok (.ifCond .ne 10, 3) := by decide +kernel
theorem d_M_feed_12 : decode mi_M_feed.2.1 12 = .ok (.aload_n 0, 1) := by decide +kernel
theorem d_M_feed_13 : decode mi_M_feed.2.1 13 = .ok (.bipush (-32), 2) := by decide +kernel
theorem d_M_feed_15 : decode mi_M_feed.2.1 15 = .ok (.invokevirtual 106, 3) := by decide +kernel
theorem d_M_feed_18 : decode mi_M_feed.2.1 18 = .ok (.ireturn, 1) := by decide +kernel
theorem d_M_feed_19 : decode mi_M_feed.2.1 19 = .ok (.aload_n 0, 1) := by decide +kernel
theorem d_M_feed_20 : decode mi_M_feed.2.1 20 = .ok (.getfield 109, 3) := by decide +kernel
theorem d_M_feed_23 : decode mi_M_feed.2.1 23 = .ok (.sipush 250, 3) := by decide +kernel
theorem d_M_feed_26 : decode mi_M_feed.2.1 26 = .ok (.if_icmp .ne 10, 3) := by decide +kernel
theorem d_M_feed_29 : decode mi_M_feed.2.1 29 = .ok (.aload_n 0, 1) := by decide +kernel
theorem d_M_feed_30 : decode mi_M_feed.2.1 30 = .ok (.bipush (-36), 2) := by decide +kernel
theorem d_M_feed_32 : decode mi_M_feed.2.1 32 = .ok (.invokevirtual 106, 3) := by decide +kernel
theorem d_M_feed_35 : decode mi_M_feed.2.1 35 = .ok (.ireturn, 1) := by decide +kernel
theorem d_M_feed_36 : decode mi_M_feed.2.1 36 = .ok (.aload_n 0, 1) := by decide +kernel
theorem d_M_feed_37 : decode mi_M_feed.2.1 37 = .ok (.getfield 34, 3) := by decide +kernel
theorem d_M_feed_40 : decode mi_M_feed.2.1 40 = .ok (.aload_n 0, 1) := by decide +kernel
theorem d_M_feed_41 : decode mi_M_feed.2.1 41 = .ok (.getfield 109, 3) := by decide +kernel
theorem d_M_feed_44 : decode mi_M_feed.2.1 44 = .ok (.iload_n 1, 1) := by decide +kernel
theorem d_M_feed_45 : decode mi_M_feed.2.1 45 = .ok (.iastore, 1) := by decide +kernel
theorem d_M_feed_46 : decode mi_M_feed.2.1 46 = .ok (.aload_n 0, 1) := by decide +kernel
theorem d_M_feed_47 : decode mi_M_feed.2.1 47 = .ok (.dup, 1) := by decide +kernel
theorem d_M_feed_48 : decode mi_M_feed.2.1 48 = .ok (.getfield 109, 3) := by decide +kernel
theorem d_M_feed_51 : decode mi_M_feed.2.1 51 = .ok (.iconst 1, 1) := by decide +kernel
theorem d_M_feed_52 : decode mi_M_feed.2.1 52 = .ok (.iadd, 1) := by decide +kernel
theorem d_M_feed_53 : decode mi_M_feed.2.1 53 = .ok (.putfield 109, 3) := by decide +kernel
theorem d_M_feed_56 : decode mi_M_feed.2.1 56 = .ok (.aload_n 0, 1) := by decide +kernel
theorem d_M_feed_57 : decode mi_M_feed.2.1 57 = .ok (.getfield 109, 3) := by decide +kernel
theorem d_M_feed_60 : decode mi_M_feed.2.1 60 = .ok (.ireturn, 1) := by decide +kernel
theorem d_M_in_0 : decode mi_M_in.2.1 0 = .ok (.lload_n 0, 1) := by decide +kernel
theorem d_M_in_1 : decode mi_M_in.2.1 1 = .ok (.lload_n 2, 1) := by decide +kernel
theorem d_M_in_2 : decode mi_M_in.2.1 2 = .ok (.lcmp, 1) := by decide +kernel
theorem d_M_in_3 : decode mi_M_in.2.1 3 = .ok (.ifCond .lt 14, 3) := by decide +kernel
theorem d_M_in_6 : decode mi_M_in.2.1 6 = .ok (.lload_n 0, 1) := by decide +kernel
theorem d_M_in_7 : decode mi_M_in.2.1 7 = .ok (.lload 4, 2) := by decide +kernel
theorem d_M_in_9 : decode mi_M_in.2.1 9 = .ok (.lcmp, 1) := by decide +kernel
theorem d_M_in_10 : decode mi_M_in.2.1 10 = .ok (.ifCond .gt 7, 3) := by decide +kernel
theorem d_M_in_13 : decode mi_M_in.2.1 13 = .ok (.iconst 1, 1) := by decide +kernel
theorem d_M_in_14 : decode mi_M_in.2.1 14 = .ok (.goto 4, 3) := by decide +kernel
theorem d_M_in_17 : decode mi_M_in.2.1 17 = .ok (.iconst 0, 1) := by decide +kernel
theorem d_M_in_18 : decode mi_M_in.2.1 18 = .ok (.ireturn, 1) := by decide +kernel
theorem d_M_refused_0 : decode mi_M_refused.2.1 0 = .ok (.aload_n 0, 1) := by decide +kernel
theorem d_M_refused_1 : decode mi_M_refused.2.1 1 = .ok (.getfield 19, 3) := by decide +kernel
theorem d_M_refused_4 : decode mi_M_refused.2.1 4 = .ok (.iload_n 1, 1) := by decide +kernel
theorem d_M_refused_5 : decode mi_M_refused.2.1 5 = .ok (.ineg, 1) := by decide +kernel
theorem d_M_refused_6 : decode mi_M_refused.2.1 6 = .ok (.bipush 32, 2) := by decide +kernel
theorem d_M_refused_8 : decode mi_M_refused.2.1 8 = .ok (.isub, 1) := by decide +kernel
theorem d_M_refused_9 : decode mi_M_refused.2.1 9 = .ok (.dup2, 1) := by decide +kernel
theorem d_M_refused_10 : decode mi_M_refused.2.1 10 = .ok (.iaload, 1) := by decide +kernel
theorem d_M_refused_11 : decode mi_M_refused.2.1 11 = .ok (.iconst 1, 1) := by decide +kernel
theorem d_M_refused_12 : decode mi_M_refused.2.1 12 = .ok (.iadd, 1) := by decide +kernel
theorem d_M_refused_13 : decode mi_M_refused.2.1 13 = .ok (.iastore, 1) := by decide +kernel
theorem d_M_refused_14 : decode mi_M_refused.2.1 14 = .ok (.iload_n 1, 1) := by decide +kernel
theorem d_M_refused_15 : decode mi_M_refused.2.1 15 = .ok (.ireturn, 1) := by decide +kernel
theorem d_M_wipe_0 : decode mi_M_wipe.2.1 0 = .ok (.aload_n 0, 1) := by decide +kernel
theorem d_M_wipe_1 : decode mi_M_wipe.2.1 1 = .ok (.getfield 109, 3) := by decide +kernel
theorem d_M_wipe_4 : decode mi_M_wipe.2.1 4 = .ok (.istore_n 1, 1) := by decide +kernel
theorem d_M_wipe_5 : decode mi_M_wipe.2.1 5 = .ok (.aload_n 0, 1) := by decide +kernel
theorem d_M_wipe_6 : decode mi_M_wipe.2.1 6 = .ok (.iconst 0, 1) := by decide +kernel
theorem d_M_wipe_7 : decode mi_M_wipe.2.1 7 = .ok (.putfield 109, 3) := by decide +kernel
theorem d_M_wipe_10 : decode mi_M_wipe.2.1 10 = .ok (.iload_n 1, 1) := by decide +kernel
theorem d_M_wipe_11 : decode mi_M_wipe.2.1 11 = .ok (.ireturn, 1) := by decide +kernel
theorem d_M_rule_0 : decode mi_M_rule.2.1 0 = .ok (.aload_n 0, 1) := by decide +kernel
theorem d_M_rule_1 : decode mi_M_rule.2.1 1 = .ok (.iload_n 1, 1) := by decide +kernel
theorem d_M_rule_2 : decode mi_M_rule.2.1 2 = .ok (.invokevirtual 72, 3) := by decide +kernel
theorem d_M_rule_5 : decode mi_M_rule.2.1 5 = .ok (.ifCond .ne 15, 3) := by decide +kernel
theorem d_M_rule_8 : decode mi_M_rule.2.1 8 = .ok (.aload_n 0, 1) := by decide +kernel
theorem d_M_rule_9 : decode mi_M_rule.2.1 9 = .ok (.iconst 0, 1) := by decide +kernel
theorem d_M_rule_10 : decode mi_M_rule.2.1 10 = .ok (.putfield 109, 3) := by decide +kernel
theorem d_M_rule_13 : decode mi_M_rule.2.1 13 = .ok (.aload_n 0, 1) := by decide +kernel
theorem d_M_rule_14 : decode mi_M_rule.2.1 14 = .ok (.bipush (-32), 2) := by decide +kernel
theorem d_M_rule_16 : decode mi_M_rule.2.1 16 = .ok (.invokevirtual 106, 3) := by decide +kernel
theorem d_M_rule_19 : decode mi_M_rule.2.1 19 = .ok (.ireturn, 1) := by decide +kernel
theorem d_M_rule_20 : decode mi_M_rule.2.1 20 = .ok (.aload_n 0, 1) := by decide +kernel
theorem d_M_rule_21 : decode mi_M_rule.2.1 21 = .ok (.iconst 0, 1) := by decide +kernel
theorem d_M_rule_22 : decode mi_M_rule.2.1 22 = .ok (.putfield 112, 3) := by decide +kernel
theorem d_M_rule_25 : decode mi_M_rule.2.1 25 = .ok (.aload_n 0, 1) := by decide +kernel
theorem d_M_rule_26 : decode mi_M_rule.2.1 26 = .ok (.invokevirtual 136, 3) := by decide +kernel
theorem d_M_rule_29 : decode mi_M_rule.2.1 29 = .ok (.istore_n 2, 1) := by decide +kernel
theorem d_M_rule_30 : decode mi_M_rule.2.1 30 = .ok (.iload_n 2, 1) := by decide +kernel
theorem d_M_rule_31 : decode mi_M_rule.2.1 31 = .ok (.ifCond .lt 26, 3) := by decide +kernel
theorem d_M_rule_34 : decode mi_M_rule.2.1 34 = .ok (.aload_n 0, 1) := by decide +kernel
theorem d_M_rule_35 : decode mi_M_rule.2.1 35 = .ok (.iload_n 1, 1) := by decide +kernel
theorem d_M_rule_36 : decode mi_M_rule.2.1 36 = .ok (.invokevirtual 154, 3) := by decide +kernel
theorem d_M_rule_39 : decode mi_M_rule.2.1 39 = .ok (.ifCond .eq 18, 3) := by decide +kernel
theorem d_M_rule_42 : decode mi_M_rule.2.1 42 = .ok (.aload_n 0, 1) := by decide +kernel
theorem d_M_rule_43 : decode mi_M_rule.2.1 43 = .ok (.getfield 112, 3) := by decide +kernel
theorem d_M_rule_46 : decode mi_M_rule.2.1 46 = .ok (.aload_n 0, 1) := by decide +kernel
theorem d_M_rule_47 : decode mi_M_rule.2.1 47 = .ok (.getfield 109, 3) := by decide +kernel
theorem d_M_rule_50 : decode mi_M_rule.2.1 50 = .ok (.if_icmp .ne 7, 3) := by decide +kernel
theorem d_M_rule_53 : decode mi_M_rule.2.1 53 = .ok (.iconst 1, 1) := by decide +kernel
theorem d_M_rule_54 : decode mi_M_rule.2.1 54 = .ok (.goto 4, 3) := by decide +kernel
theorem d_M_rule_57 : decode mi_M_rule.2.1 57 = .ok (.iconst 0, 1) := by decide +kernel
theorem d_M_rule_58 : decode mi_M_rule.2.1 58 = .ok (.istore_n 3, 1) := by decide +kernel
theorem d_M_rule_59 : decode mi_M_rule.2.1 59 = .ok (.aload_n 0, 1) := by decide +kernel
theorem d_M_rule_60 : decode mi_M_rule.2.1 60 = .ok (.iconst 0, 1) := by decide +kernel
theorem d_M_rule_61 : decode mi_M_rule.2.1 61 = .ok (.putfield 109, 3) := by decide +kernel
theorem d_M_rule_64 : decode mi_M_rule.2.1 64 = .ok (.iload_n 3, 1) := by decide +kernel
theorem d_M_rule_65 : decode mi_M_rule.2.1 65 = .ok (.ifCond .ne 22, 3) := by decide +kernel
theorem d_M_rule_68 : decode mi_M_rule.2.1 68 = .ok (.aload_n 0, 1) := by decide +kernel
theorem d_M_rule_69 : decode mi_M_rule.2.1 69 = .ok (.getfield 19, 3) := by decide +kernel
theorem d_M_rule_72 : decode mi_M_rule.2.1 72 = .ok (.iconst 0, 1) := by decide +kernel
theorem d_M_rule_73 : decode mi_M_rule.2.1 73 = .ok (.dup2, 1) := by decide +kernel
theorem d_M_rule_74 : decode mi_M_rule.2.1 74 = .ok (.iaload, 1) := by decide +kernel
theorem d_M_rule_75 : decode mi_M_rule.2.1 75 = .ok (.iconst 1, 1) := by decide +kernel
theorem d_M_rule_76 : decode mi_M_rule.2.1 76 = .ok (.iadd, 1) := by decide +kernel
theorem d_M_rule_77 : decode mi_M_rule.2.1 77 = .ok (.iastore, 1) := by decide +kernel
theorem d_M_rule_78 : decode mi_M_rule.2.1 78 = .ok (.sipush (-500), 3) := by decide +kernel
theorem d_M_rule_81 : decode mi_M_rule.2.1 81 = .ok (.aload_n 0, 1) := by decide +kernel
theorem d_M_rule_82 : decode mi_M_rule.2.1 82 = .ok (.getfield 112, 3) := by decide +kernel
theorem d_M_rule_85 : decode mi_M_rule.2.1 85 = .ok (.isub, 1) := by decide +kernel
theorem d_M_rule_86 : decode mi_M_rule.2.1 86 = .ok (.ireturn, 1) := by decide +kernel
theorem d_M_rule_87 : decode mi_M_rule.2.1 87 = .ok (.aload_n 0, 1) := by decide +kernel
theorem d_M_rule_88 : decode mi_M_rule.2.1 88 = .ok (.iload_n 1, 1) := by decide +kernel
theorem d_M_rule_89 : decode mi_M_rule.2.1 89 = .ok (.iconst 4, 1) := by decide +kernel
theorem d_M_rule_90 : decode mi_M_rule.2.1 90 = .ok (.invokevirtual 76, 3) := by decide +kernel
theorem d_M_rule_93 : decode mi_M_rule.2.1 93 = .ok (.istore 4, 2) := by decide +kernel
theorem d_M_rule_95 : decode mi_M_rule.2.1 95 = .ok (.iload 4, 2) := by decide +kernel
theorem d_M_rule_97 : decode mi_M_rule.2.1 97 = .ok (.bipush 6, 2) := by decide +kernel
theorem d_M_rule_99 : decode mi_M_rule.2.1 99 = .ok (.if_icmp .ne 10, 3) := by decide +kernel
theorem d_M_rule_102 : decode mi_M_rule.2.1 102 = .ok (.aload_n 0, 1) := by decide +kernel
theorem d_M_rule_103 : decode mi_M_rule.2.1 103 = .ok (.bipush (-36), 2) := by decide +kernel
theorem d_M_rule_105 : decode mi_M_rule.2.1 105 = .ok (.invokevirtual 106, 3) := by decide +kernel
theorem d_M_rule_108 : decode mi_M_rule.2.1 108 = .ok (.ireturn, 1) := by decide +kernel
theorem d_M_rule_109 : decode mi_M_rule.2.1 109 = .ok (.aload_n 0, 1) := by decide +kernel
theorem d_M_rule_110 : decode mi_M_rule.2.1 110 = .ok (.getfield 9, 3) := by decide +kernel
theorem d_M_rule_113 : decode mi_M_rule.2.1 113 = .ok (.iload_n 1, 1) := by decide +kernel
theorem d_M_rule_114 : decode mi_M_rule.2.1 114 = .ok (.iload 4, 2) := by decide +kernel
theorem d_M_rule_116 : decode mi_M_rule.2.1 116 = .ok (.iconst 0, 1) := by decide +kernel
theorem d_M_rule_117 : decode mi_M_rule.2.1 117 = .ok (.invokestatic 80, 3) := by decide +kernel
theorem d_M_rule_120 : decode mi_M_rule.2.1 120 = .ok (.iload_n 2, 1) := by decide +kernel
theorem d_M_rule_121 : decode mi_M_rule.2.1 121 = .ok (.iastore, 1) := by decide +kernel
theorem d_M_rule_122 : decode mi_M_rule.2.1 122 = .ok (.iconst 0, 1) := by decide +kernel
theorem d_M_rule_123 : decode mi_M_rule.2.1 123 = .ok (.istore 5, 2) := by decide +kernel
theorem d_M_rule_125 : decode mi_M_rule.2.1 125 = .ok (.iload 5, 2) := by decide +kernel
theorem d_M_rule_127 : decode mi_M_rule.2.1 127 = .ok (.iconst 3, 1) := by decide +kernel
theorem d_M_rule_128 : decode mi_M_rule.2.1 128 = .ok (.if_icmp .ge 31, 3) := by decide +kernel
theorem d_M_rule_131 : decode mi_M_rule.2.1 131 = .ok (.aload_n 0, 1) := by decide +kernel
theorem d_M_rule_132 : decode mi_M_rule.2.1 132 = .ok (.getfield 9, 3) := by decide +kernel
theorem d_M_rule_135 : decode mi_M_rule.2.1 135 = .ok (.iload_n 1, 1) := by decide +kernel
theorem d_M_rule_136 : decode mi_M_rule.2.1 136 = .ok (.iload 4, 2) := by decide +kernel
theorem d_M_rule_138 : decode mi_M_rule.2.1 138 = .ok (.iconst 1, 1) := by decide +kernel
theorem d_M_rule_139 : decode mi_M_rule.2.1 139 = .ok (.iload 5, 2) := by decide +kernel
theorem d_M_rule_141 : decode mi_M_rule.2.1 141 = .ok (.iadd, 1) := by decide +kernel
theorem d_M_rule_142 : decode mi_M_rule.2.1 142 = .ok (.invokestatic 80, 3) := by decide +kernel
theorem d_M_rule_145 : decode mi_M_rule.2.1 145 = .ok (.aload_n 0, 1) := by decide +kernel
theorem d_M_rule_146 : decode mi_M_rule.2.1 146 = .ok (.getfield 37, 3) := by decide +kernel
theorem d_M_rule_149 : decode mi_M_rule.2.1 149 = .ok (.iload 5, 2) := by decide +kernel
theorem d_M_rule_151 : decode mi_M_rule.2.1 151 = .ok (.iaload, 1) := by decide +kernel
theorem d_M_rule_152 : decode mi_M_rule.2.1 152 = .ok (.iastore, 1) := by decide +kernel
theorem d_M_rule_153 : decode mi_M_rule.2.1 153 = .ok (.iinc 5 1, 3) := by decide +kernel
theorem d_M_rule_156 : decode mi_M_rule.2.1 156 = .ok (.goto (-31), 3) := by decide +kernel
theorem d_M_rule_159 : decode mi_M_rule.2.1 159 = .ok (.aload_n 0, 1) := by decide +kernel
theorem d_M_rule_160 : decode mi_M_rule.2.1 160 = .ok (.iload_n 1, 1) := by decide +kernel
theorem d_M_rule_161 : decode mi_M_rule.2.1 161 = .ok (.iconst 4, 1) := by decide +kernel
theorem d_M_rule_162 : decode mi_M_rule.2.1 162 = .ok (.iload 4, 2) := by decide +kernel
theorem d_M_rule_164 : decode mi_M_rule.2.1 164 = .ok (.iconst 1, 1) := by decide +kernel
theorem d_M_rule_165 : decode mi_M_rule.2.1 165 = .ok (.iadd, 1) := by decide +kernel
theorem d_M_rule_166 : decode mi_M_rule.2.1 166 = .ok (.invokevirtual 157, 3) := by decide +kernel
theorem d_M_rule_169 : decode mi_M_rule.2.1 169 = .ok (.iload 4, 2) := by decide +kernel
theorem d_M_rule_171 : decode mi_M_rule.2.1 171 = .ok (.ireturn, 1) := by decide +kernel
theorem d_M_isFeature_0 : decode mi_M_isFeature.2.1 0 = .ok (.iload_n 1, 1) := by decide +kernel
theorem d_M_isFeature_1 : decode mi_M_isFeature.2.1 1 = .ok (.i2l, 1) := by decide +kernel
theorem d_M_isFeature_2 : decode mi_M_isFeature.2.1 2 = .ok (.lconst 0, 1) := by decide +kernel
theorem d_M_isFeature_3 : decode mi_M_isFeature.2.1 3 = .ok (.aload_n 0, 1) := by decide +kernel
theorem d_M_isFeature_4 : decode mi_M_isFeature.2.1 4 = .ok (.getfield 9, 3) := by decide +kernel
theorem d_M_isFeature_7 : decode mi_M_isFeature.2.1 7 = .ok (.iconst 1, 1) := by decide +kernel
theorem d_M_isFeature_8 : decode mi_M_isFeature.2.1 8 = .ok (.iaload, 1) := by decide +kernel
theorem d_M_isFeature_9 : decode mi_M_isFeature.2.1 9 = .ok (.iconst 1, 1) := by decide +kernel
theorem d_M_isFeature_10 : decode mi_M_isFeature.2.1 10 = .ok (.isub, 1) := by decide +kernel
theorem d_M_isFeature_11 : decode mi_M_isFeature.2.1 11 = .ok (.i2l, 1) := by decide +kernel
theorem d_M_isFeature_12 : decode mi_M_isFeature.2.1 12 = .ok (.invokestatic 68, 3) := by decide +kernel
theorem d_M_isFeature_15 : decode mi_M_isFeature.2.1 15 = .ok (.ireturn, 1) := by decide +kernel
theorem d_M_cond_0 : decode mi_M_cond.2.1 0 = .ok (.aload_n 0, 1) := by decide +kernel
theorem d_M_cond_1 : decode mi_M_cond.2.1 1 = .ok (.invokevirtual 125, 3) := by decide +kernel
theorem d_M_cond_4 : decode mi_M_cond.2.1 4 = .ok (.istore_n 1, 1) := by decide +kernel
theorem d_M_cond_5 : decode mi_M_cond.2.1 5 = .ok (.iload_n 1, 1) := by decide +kernel
theorem d_M_cond_6 : decode mi_M_cond.2.1 6 = .ok (.ifCond .lt 52, 3) := by decide +kernel
theorem d_M_cond_9 : decode mi_M_cond.2.1 9 = .ok (.aload_n 0, 1) := by decide +kernel
theorem d_M_cond_10 : decode mi_M_cond.2.1 10 = .ok (.aload_n 0, 1) := by decide +kernel
theorem d_M_cond_11 : decode mi_M_cond.2.1 11 = .ok (.getfield 112, 3) := by decide +kernel
theorem d_M_cond_14 : decode mi_M_cond.2.1 14 = .ok (.invokevirtual 115, 3) := by decide +kernel
theorem d_M_cond_17 : decode mi_M_cond.2.1 17 = .ok (.bipush 124, 2) := by decide +kernel
theorem d_M_cond_19 : decode mi_M_cond.2.1 19 = .ok (.if_icmp .ne 39, 3) := by decide +kernel
theorem d_M_cond_22 : decode mi_M_cond.2.1 22 = .ok (.aload_n 0, 1) := by decide +kernel
theorem d_M_cond_23 : decode mi_M_cond.2.1 23 = .ok (.dup, 1) := by decide +kernel
theorem d_M_cond_24 : decode mi_M_cond.2.1 24 = .ok (.getfield 112, 3) := by decide +kernel
theorem d_M_cond_27 : decode mi_M_cond.2.1 27 = .ok (.iconst 1, 1) := by decide +kernel
theorem d_M_cond_28 : decode mi_M_cond.2.1 28 = .ok (.iadd, 1) := by decide +kernel
theorem d_M_cond_29 : decode mi_M_cond.2.1 29 = .ok (.putfield 112, 3) := by decide +kernel
theorem d_M_cond_32 : decode mi_M_cond.2.1 32 = .ok (.aload_n 0, 1) := by decide +kernel
theorem d_M_cond_33 : decode mi_M_cond.2.1 33 = .ok (.invokevirtual 125, 3) := by decide +kernel
theorem d_M_cond_36 : decode mi_M_cond.2.1 36 = .ok (.istore_n 2, 1) := by decide +kernel
theorem d_M_cond_37 : decode mi_M_cond.2.1 37 = .ok (.iload_n 2, 1) := by decide +kernel
theorem d_M_cond_38 : decode mi_M_cond.2.1 38 = .ok (.ifCond .ge 7, 3) := by decide +kernel
theorem d_M_cond_41 : decode mi_M_cond.2.1 41 = .ok (.iconst (-1), 1) := by decide +kernel
theorem d_M_cond_42 : decode mi_M_cond.2.1 42 = .ok (.goto 12, 3) := by decide +kernel
theorem d_M_cond_45 : decode mi_M_cond.2.1 45 = .ok (.aload_n 0, 1) := by decide +kernel
theorem d_M_cond_46 : decode mi_M_cond.2.1 46 = .ok (.bipush 8, 2) := by decide +kernel
theorem d_M_cond_48 : decode mi_M_cond.2.1 48 = .ok (.iload_n 1, 1) := by decide +kernel
theorem d_M_cond_49 : decode mi_M_cond.2.1 49 = .ok (.iload_n 2, 1) := by decide +kernel
theorem d_M_cond_50 : decode mi_M_cond.2.1 50 = .ok (.iconst 0, 1) := by decide +kernel
theorem d_M_cond_51 : decode mi_M_cond.2.1 51 = .ok (.invokevirtual 129, 3) := by decide +kernel
theorem d_M_cond_54 : decode mi_M_cond.2.1 54 = .ok (.istore_n 1, 1) := by decide +kernel
theorem d_M_cond_55 : decode mi_M_cond.2.1 55 = .ok (.goto (-50), 3) := by decide +kernel
theorem d_M_cond_58 : decode mi_M_cond.2.1 58 = .ok (.iload_n 1, 1) := by decide +kernel
theorem d_M_cond_59 : decode mi_M_cond.2.1 59 = .ok (.ireturn, 1) := by decide +kernel
theorem d_M_boths_0 : decode mi_M_boths.2.1 0 = .ok (.aload_n 0, 1) := by decide +kernel
theorem d_M_boths_1 : decode mi_M_boths.2.1 1 = .ok (.invokevirtual 133, 3) := by decide +kernel
theorem d_M_boths_4 : decode mi_M_boths.2.1 4 = .ok (.istore_n 1, 1) := by decide +kernel
theorem d_M_boths_5 : decode mi_M_boths.2.1 5 = .ok (.iload_n 1, 1) := by decide +kernel
theorem d_M_boths_6 : decode mi_M_boths.2.1 6 = .ok (.ifCond .lt 52, 3) := by decide +kernel
theorem d_M_boths_9 : decode mi_M_boths.2.1 9 = .ok (.aload_n 0, 1) := by decide +kernel
theorem d_M_boths_10 : decode mi_M_boths.2.1 10 = .ok (.aload_n 0, 1) := by decide +kernel
theorem d_M_boths_11 : decode mi_M_boths.2.1 11 = .ok (.getfield 112, 3) := by decide +kernel
theorem d_M_boths_14 : decode mi_M_boths.2.1 14 = .ok (.invokevirtual 115, 3) := by decide +kernel
theorem d_M_boths_17 : decode mi_M_boths.2.1 17 = .ok (.bipush 38, 2) := by decide +kernel
theorem d_M_boths_19 : decode mi_M_boths.2.1 19 = .ok (.if_icmp .ne 39, 3) := by decide +kernel
theorem d_M_boths_22 : decode mi_M_boths.2.1 22 = .ok (.aload_n 0, 1) := by decide +kernel
theorem d_M_boths_23 : decode mi_M_boths.2.1 23 = .ok (.dup, 1) := by decide +kernel
theorem d_M_boths_24 : decode mi_M_boths.2.1 24 = .ok (.getfield 112, 3) := by decide +kernel
theorem d_M_boths_27 : decode mi_M_boths.2.1 27 = .ok (.iconst 1, 1) := by decide +kernel
theorem d_M_boths_28 : decode mi_M_boths.2.1 28 = .ok (.iadd, 1) := by decide +kernel
theorem d_M_boths_29 : decode mi_M_boths.2.1 29 = .ok (.putfield 112, 3) := by decide +kernel
theorem d_M_boths_32 : decode mi_M_boths.2.1 32 = .ok (.aload_n 0, 1) := by decide +kernel
theorem d_M_boths_33 : decode mi_M_boths.2.1 33 = .ok (.invokevirtual 133, 3) := by decide +kernel
theorem d_M_boths_36 : decode mi_M_boths.2.1 36 = .ok (.istore_n 2, 1) := by decide +kernel
theorem d_M_boths_37 : decode mi_M_boths.2.1 37 = .ok (.iload_n 2, 1) := by decide +kernel
theorem d_M_boths_38 : decode mi_M_boths.2.1 38 = .ok (.ifCond .ge 7, 3) := by decide +kernel
theorem d_M_boths_41 : decode mi_M_boths.2.1 41 = .ok (.iconst (-1), 1) := by decide +kernel
theorem d_M_boths_42 : decode mi_M_boths.2.1 42 = .ok (.goto 12, 3) := by decide +kernel
theorem d_M_boths_45 : decode mi_M_boths.2.1 45 = .ok (.aload_n 0, 1) := by decide +kernel
theorem d_M_boths_46 : decode mi_M_boths.2.1 46 = .ok (.bipush 7, 2) := by decide +kernel
theorem d_M_boths_48 : decode mi_M_boths.2.1 48 = .ok (.iload_n 1, 1) := by decide +kernel
theorem d_M_boths_49 : decode mi_M_boths.2.1 49 = .ok (.iload_n 2, 1) := by decide +kernel
theorem d_M_boths_50 : decode mi_M_boths.2.1 50 = .ok (.iconst 0, 1) := by decide +kernel
theorem d_M_boths_51 : decode mi_M_boths.2.1 51 = .ok (.invokevirtual 129, 3) := by decide +kernel
theorem d_M_boths_54 : decode mi_M_boths.2.1 54 = .ok (.istore_n 1, 1) := by decide +kernel
theorem d_M_boths_55 : decode mi_M_boths.2.1 55 = .ok (.goto (-50), 3) := by decide +kernel
theorem d_M_boths_58 : decode mi_M_boths.2.1 58 = .ok (.iload_n 1, 1) := by decide +kernel
theorem d_M_boths_59 : decode mi_M_boths.2.1 59 = .ok (.ireturn, 1) := by decide +kernel
theorem d_M_simple_0 : decode mi_M_simple.2.1 0 = .ok (.aload_n 0, 1) := by decide +kernel
theorem d_M_simple_1 : decode mi_M_simple.2.1 1 = .ok (.aload_n 0, 1) := by decide +kernel
theorem d_M_simple_2 : decode mi_M_simple.2.1 2 = .ok (.getfield 112, 3) := by decide +kernel
theorem d_M_simple_5 : decode mi_M_simple.2.1 5 = .ok (.invokevirtual 115, 3) := by decide +kernel
theorem d_M_simple_8 : decode mi_M_simple.2.1 8 = .ok (.istore_n 1, 1) := by decide +kernel
theorem d_M_simple_9 : decode mi_M_simple.2.1 9 = .ok (.iload_n 1, 1) := by decide +kernel
theorem d_M_simple_10 : decode mi_M_simple.2.1 10 = .ok (.bipush 33, 2) := by decide +kernel
theorem d_M_simple_12 : decode mi_M_simple.2.1 12 = .ok (.if_icmp .ne 35, 3) := by decide +kernel
theorem d_M_simple_15 : decode mi_M_simple.2.1 15 = .ok (.aload_n 0, 1) := by decide +kernel
theorem d_M_simple_16 : decode mi_M_simple.2.1 16 = .ok (.dup, 1) := by decide +kernel
theorem d_M_simple_17 : decode mi_M_simple.2.1 17 = .ok (.getfield 112, 3) := by decide +kernel
theorem d_M_simple_20 : decode mi_M_simple.2.1 20 = .ok (.iconst 1, 1) := by decide +kernel
theorem d_M_simple_21 : decode mi_M_simple.2.1 21 = .ok (.iadd, 1) := by decide +kernel
theorem d_M_simple_22 : decode mi_M_simple.2.1 22 = .ok (.putfield 112, 3) := by decide +kernel
theorem d_M_simple_25 : decode mi_M_simple.2.1 25 = .ok (.aload_n 0, 1) := by decide +kernel
theorem d_M_simple_26 : decode mi_M_simple.2.1 26 = .ok (.invokevirtual 133, 3) := by decide +kernel
theorem d_M_simple_29 : decode mi_M_simple.2.1 29 = .ok (.istore_n 2, 1) := by decide +kernel
theorem d_M_simple_30 : decode mi_M_simple.2.1 30 = .ok (.iload_n 2, 1) := by decide +kernel
theorem d_M_simple_31 : decode mi_M_simple.2.1 31 = .ok (.ifCond .ge 7, 3) := by decide +kernel
theorem d_M_simple_34 : decode mi_M_simple.2.1 34 = .ok (.iconst (-1), 1) := by decide +kernel
theorem d_M_simple_35 : decode mi_M_simple.2.1 35 = .ok (.goto 11, 3) := by decide +kernel
theorem d_M_simple_38 : decode mi_M_simple.2.1 38 = .ok (.aload_n 0, 1) := by decide +kernel
theorem d_M_simple_39 : decode mi_M_simple.2.1 39 = .ok (.iconst 3, 1) := by decide +kernel
theorem d_M_simple_40 : decode mi_M_simple.2.1 40 = .ok (.iload_n 2, 1) := by decide +kernel
theorem d_M_simple_41 : decode mi_M_simple.2.1 41 = .ok (.iconst 0, 1) := by decide +kernel
theorem d_M_simple_42 : decode mi_M_simple.2.1 42 = .ok (.iconst 0, 1) := by decide +kernel
theorem d_M_simple_43 : decode mi_M_simple.2.1 43 = .ok (.invokevirtual 129, 3) := by decide +kernel
theorem d_M_simple_46 : decode mi_M_simple.2.1 46 = .ok (.ireturn, 1) := by decide +kernel
theorem d_M_simple_47 : decode mi_M_simple.2.1 47 = .ok (.iload_n 1, 1) := by decide +kernel
theorem d_M_simple_48 : decode mi_M_simple.2.1 48 = .ok (.bipush 40, 2) := by decide +kernel
theorem d_M_simple_50 : decode mi_M_simple.2.1 50 = .ok (.if_icmp .ne 37, 3) := by decide +kernel
theorem d_M_simple_53 : decode mi_M_simple.2.1 53 = .ok (.aload_n 0, 1) := by decide +kernel
theorem d_M_simple_54 : decode mi_M_simple.2.1 54 = .ok (.dup, 1) := by decide +kernel
theorem d_M_simple_55 : decode mi_M_simple.2.1 55 = .ok (.getfield 112, 3) := by decide +kernel
theorem d_M_simple_58 : decode mi_M_simple.2.1 58 = .ok (.iconst 1, 1) := by decide +kernel
theorem d_M_simple_59 : decode mi_M_simple.2.1 59 = .ok (.iadd, 1) := by decide +kernel
theorem d_M_simple_60 : decode mi_M_simple.2.1 60 = .ok (.putfield 112, 3) := by decide +kernel
theorem d_M_simple_63 : decode mi_M_simple.2.1 63 = .ok (.aload_n 0, 1) := by decide +kernel
theorem d_M_simple_64 : decode mi_M_simple.2.1 64 = .ok (.invokevirtual 136, 3) := by decide +kernel
theorem d_M_simple_67 : decode mi_M_simple.2.1 67 = .ok (.istore_n 2, 1) := by decide +kernel
theorem d_M_simple_68 : decode mi_M_simple.2.1 68 = .ok (.iload_n 2, 1) := by decide +kernel
theorem d_M_simple_69 : decode mi_M_simple.2.1 69 = .ok (.ifCond .lt 16, 3) := by decide +kernel
theorem d_M_simple_72 : decode mi_M_simple.2.1 72 = .ok (.aload_n 0, 1) := by decide +kernel
theorem d_M_simple_73 : decode mi_M_simple.2.1 73 = .ok (.bipush 41, 2) := by decide +kernel
theorem d_M_simple_75 : decode mi_M_simple.2.1 75 = .ok (.invokevirtual 139, 3) := by decide +kernel
theorem d_M_simple_78 : decode mi_M_simple.2.1 78 = .ok (.ifCond .eq 7, 3) := by decide +kernel
theorem d_M_simple_81 : decode mi_M_simple.2.1 81 = .ok (.iload_n 2, 1) := by decide +kernel
theorem d_M_simple_82 : decode mi_M_simple.2.1 82 = .ok (.goto 4, 3) := by decide +kernel
theorem d_M_simple_85 : decode mi_M_simple.2.1 85 = .ok (.iconst (-1), 1) := by decide +kernel
theorem d_M_simple_86 : decode mi_M_simple.2.1 86 = .ok (.ireturn, 1) := by decide +kernel
theorem d_M_simple_87 : decode mi_M_simple.2.1 87 = .ok (.iload_n 1, 1) := by decide +kernel
theorem d_M_simple_88 : decode mi_M_simple.2.1 88 = .ok (.bipush 42, 2) := by decide +kernel
theorem d_M_simple_90 : decode mi_M_simple.2.1 90 = .ok (.if_icmp .ne 22, 3) := by decide +kernel
theorem d_M_simple_93 : decode mi_M_simple.2.1 93 = .ok (.aload_n 0, 1) := by decide +kernel
theorem d_M_simple_94 : decode mi_M_simple.2.1 94 = .ok (.dup, 1) := by decide +kernel
theorem d_M_simple_95 : decode mi_M_simple.2.1 95 = .ok (.getfield 112, 3) := by decide +kernel
theorem d_M_simple_98 : decode mi_M_simple.2.1 98 = .ok (.iconst 1, 1) := by decide +kernel
theorem d_M_simple_99 : decode mi_M_simple.2.1 99 = .ok (.iadd, 1) := by decide +kernel
theorem d_M_simple_100 : decode mi_M_simple.2.1 100 = .ok (.putfield 112, 3) := by decide +kernel
theorem d_M_simple_103 : decode mi_M_simple.2.1 103 = .ok (.aload_n 0, 1) := by decide +kernel
theorem d_M_simple_104 : decode mi_M_simple.2.1 104 = .ok (.iconst 4, 1) := by decide +kernel
theorem d_M_simple_105 : decode mi_M_simple.2.1 105 = .ok (.iconst 0, 1) := by decide +kernel
theorem d_M_simple_106 : decode mi_M_simple.2.1 106 = .ok (.iconst 0, 1) := by decide +kernel
theorem d_M_simple_107 : decode mi_M_simple.2.1 107 = .ok (.iconst 0, 1) := by decide +kernel
theorem d_M_simple_108 : decode mi_M_simple.2.1 108 = .ok (.invokevirtual 129, 3) := by decide +kernel
theorem d_M_simple_111 : decode mi_M_simple.2.1 111 = .ok (.ireturn, 1) := by decide +kernel
theorem d_M_simple_112 : decode mi_M_simple.2.1 112 = .ok (.iload_n 1, 1) := by decide +kernel
theorem d_M_simple_113 : decode mi_M_simple.2.1 113 = .ok (.bipush 35, 2) := by decide +kernel
theorem d_M_simple_115 : decode mi_M_simple.2.1 115 = .ok (.if_icmp .ne 8, 3) := by decide +kernel
theorem d_M_simple_118 : decode mi_M_simple.2.1 118 = .ok (.aload_n 0, 1) := by decide +kernel
theorem d_M_simple_119 : decode mi_M_simple.2.1 119 = .ok (.invokevirtual 142, 3) := by decide +kernel
theorem d_M_simple_122 : decode mi_M_simple.2.1 122 = .ok (.ireturn, 1) := by decide +kernel
theorem d_M_simple_123 : decode mi_M_simple.2.1 123 = .ok (.iload_n 1, 1) := by decide +kernel
theorem d_M_simple_124 : decode mi_M_simple.2.1 124 = .ok (.i2l, 1) := by decide +kernel
theorem d_M_simple_125 : decode mi_M_simple.2.1 125 = .ok (.ldc2_w 145, 3) := by decide +kernel
theorem d_M_simple_128 : decode mi_M_simple.2.1 128 = .ok (.ldc2_w 147, 3) := by decide +kernel
theorem d_M_simple_131 : decode mi_M_simple.2.1 131 = .ok (.invokestatic 68, 3) := by decide +kernel
theorem d_M_simple_134 : decode mi_M_simple.2.1 134 = .ok (.ifCond .ne 5, 3) := by decide +kernel
theorem d_M_simple_137 : decode mi_M_simple.2.1 137 = .ok (.iconst (-1), 1) := by decide +kernel
theorem d_M_simple_138 : decode mi_M_simple.2.1 138 = .ok (.ireturn, 1) := by decide +kernel
theorem d_M_simple_139 : decode mi_M_simple.2.1 139 = .ok (.aload_n 0, 1) := by decide +kernel
theorem d_M_simple_140 : decode mi_M_simple.2.1 140 = .ok (.dup, 1) := by decide +kernel
theorem d_M_simple_141 : decode mi_M_simple.2.1 141 = .ok (.getfield 112, 3) := by decide +kernel
theorem d_M_simple_144 : decode mi_M_simple.2.1 144 = .ok (.iconst 1, 1) := by decide +kernel
theorem d_M_simple_145 : decode mi_M_simple.2.1 145 = .ok (.iadd, 1) := by decide +kernel
theorem d_M_simple_146 : decode mi_M_simple.2.1 146 = .ok (.putfield 112, 3) := by decide +kernel
theorem d_M_simple_149 : decode mi_M_simple.2.1 149 = .ok (.aload_n 0, 1) := by decide +kernel
theorem d_M_simple_150 : decode mi_M_simple.2.1 150 = .ok (.aload_n 0, 1) := by decide +kernel
theorem d_M_simple_151 : decode mi_M_simple.2.1 151 = .ok (.getfield 112, 3) := by decide +kernel
theorem d_M_simple_154 : decode mi_M_simple.2.1 154 = .ok (.invokevirtual 115, 3) := by decide +kernel
theorem d_M_simple_157 : decode mi_M_simple.2.1 157 = .ok (.istore_n 2, 1) := by decide +kernel
theorem d_M_simple_158 : decode mi_M_simple.2.1 158 = .ok (.iload_n 2, 1) := by decide +kernel
theorem d_M_simple_159 : decode mi_M_simple.2.1 159 = .ok (.bipush 60, 2) := by decide +kernel
theorem d_M_simple_161 : decode mi_M_simple.2.1 161 = .ok (.if_icmp .eq 17, 3) := by decide +kernel
theorem d_M_simple_164 : decode mi_M_simple.2.1 164 = .ok (.iload_n 2, 1) := by decide +kernel
theorem d_M_simple_165 : decode mi_M_simple.2.1 165 = .ok (.bipush 61, 2) := by decide +kernel
theorem d_M_simple_167 : decode mi_M_simple.2.1 167 = .ok (.if_icmp .eq 11, 3) := by decide +kernel
theorem d_M_simple_170 : decode mi_M_simple.2.1 170 = .ok (.iload_n 2, 1) := by decide +kernel
theorem d_M_simple_171 : decode mi_M_simple.2.1 171 = .ok (.bipush 62, 2) := by decide +kernel
theorem d_M_simple_173 : decode mi_M_simple.2.1 173 = .ok (.if_icmp .eq 5, 3) := by decide +kernel
theorem d_M_simple_176 : decode mi_M_simple.2.1 176 = .ok (.iconst (-1), 1) := by decide +kernel
theorem d_M_simple_177 : decode mi_M_simple.2.1 177 = .ok (.ireturn, 1) := by decide +kernel
theorem d_M_simple_178 : decode mi_M_simple.2.1 178 = .ok (.aload_n 0, 1) := by decide +kernel
theorem d_M_simple_179 : decode mi_M_simple.2.1 179 = .ok (.dup, 1) := by decide +kernel
theorem d_M_simple_180 : decode mi_M_simple.2.1 180 = .ok (.getfield 112, 3) := by decide +kernel
theorem d_M_simple_183 : decode mi_M_simple.2.1 183 = .ok (.iconst 1, 1) := by decide +kernel
theorem d_M_simple_184 : decode mi_M_simple.2.1 184 = .ok (.iadd, 1) := by decide +kernel
theorem d_M_simple_185 : decode mi_M_simple.2.1 185 = .ok (.putfield 112, 3) := by decide +kernel
theorem d_M_simple_188 : decode mi_M_simple.2.1 188 = .ok (.aload_n 0, 1) := by decide +kernel
theorem d_M_simple_189 : decode mi_M_simple.2.1 189 = .ok (.iconst 1, 1) := by decide +kernel
theorem d_M_simple_190 : decode mi_M_simple.2.1 190 = .ok (.iconst 0, 1) := by decide +kernel
theorem d_M_simple_191 : decode mi_M_simple.2.1 191 = .ok (.bipush 9, 2) := by decide +kernel
theorem d_M_simple_193 : decode mi_M_simple.2.1 193 = .ok (.invokevirtual 149, 3) := by decide +kernel
theorem d_M_simple_196 : decode mi_M_simple.2.1 196 = .ok (.ifCond .eq 20, 3) := by decide +kernel
theorem d_M_simple_199 : decode mi_M_simple.2.1 199 = .ok (.aload_n 0, 1) := by decide +kernel
theorem d_M_simple_200 : decode mi_M_simple.2.1 200 = .ok (.iconst 5, 1) := by decide +kernel
theorem d_M_simple_201 : decode mi_M_simple.2.1 201 = .ok (.iload_n 1, 1) := by decide +kernel
theorem d_M_simple_202 : decode mi_M_simple.2.1 202 = .ok (.bipush 97, 2) := by decide +kernel
theorem d_M_simple_204 : decode mi_M_simple.2.1 204 = .ok (.isub, 1) := by decide +kernel
theorem d_M_simple_205 : decode mi_M_simple.2.1 205 = .ok (.aload_n 0, 1) := by decide +kernel
theorem d_M_simple_206 : decode mi_M_simple.2.1 206 = .ok (.getfield 122, 3) := by decide +kernel
theorem d_M_simple_209 : decode mi_M_simple.2.1 209 = .ok (.iload_n 2, 1) := by decide +kernel
theorem d_M_simple_210 : decode mi_M_simple.2.1 210 = .ok (.invokevirtual 129, 3) := by decide +kernel
theorem d_M_simple_213 : decode mi_M_simple.2.1 213 = .ok (.goto 4, 3) := by decide +kernel
theorem d_M_simple_216 : decode mi_M_simple.2.1 216 = .ok (.iconst (-1), 1) := by decide +kernel
theorem d_M_simple_217 : decode mi_M_simple.2.1 217 = .ok (.ireturn, 1) := by decide +kernel
theorem d_M_byteAt_0 : decode mi_M_byteAt.2.1 0 = .ok (.iload_n 1, 1) := by decide +kernel
theorem d_M_byteAt_1 : decode mi_M_byteAt.2.1 1 = .ok (.aload_n 0, 1) := by decide +kernel
theorem d_M_byteAt_2 : decode mi_M_byteAt.2.1 2 = .ok (.getfield 109, 3) := by decide +kernel
theorem d_M_byteAt_5 : decode mi_M_byteAt.2.1 5 = .ok (.if_icmp .ge 12, 3) := by decide +kernel
theorem d_M_byteAt_8 : decode mi_M_byteAt.2.1 8 = .ok (.aload_n 0, 1) := by decide +kernel
theorem d_M_byteAt_9 : decode mi_M_byteAt.2.1 9 = .ok (.getfield 34, 3) := by decide +kernel
theorem d_M_byteAt_12 : decode mi_M_byteAt.2.1 12 = .ok (.iload_n 1, 1) := by decide +kernel
theorem d_M_byteAt_13 : decode mi_M_byteAt.2.1 13 = .ok (.iaload, 1) := by decide +kernel
theorem d_M_byteAt_14 : decode mi_M_byteAt.2.1 14 = .ok (.goto 4, 3) := by decide +kernel
theorem d_M_byteAt_17 : decode mi_M_byteAt.2.1 17 = .ok (.iconst (-1), 1) := by decide +kernel
theorem d_M_byteAt_18 : decode mi_M_byteAt.2.1 18 = .ok (.ireturn, 1) := by decide +kernel
theorem d_M_newPart_0 : decode mi_M_newPart.2.1 0 = .ok (.aload_n 0, 1) := by decide +kernel
theorem d_M_newPart_1 : decode mi_M_newPart.2.1 1 = .ok (.aload_n 0, 1) := by decide +kernel
theorem d_M_newPart_2 : decode mi_M_newPart.2.1 2 = .ok (.getfield 22, 3) := by decide +kernel
theorem d_M_newPart_5 : decode mi_M_newPart.2.1 5 = .ok (.aload_n 0, 1) := by decide +kernel
theorem d_M_newPart_6 : decode mi_M_newPart.2.1 6 = .ok (.getfield 89, 3) := by decide +kernel
theorem d_M_newPart_9 : decode mi_M_newPart.2.1 9 = .ok (.iconst 1, 1) := by decide +kernel
theorem d_M_newPart_10 : decode mi_M_newPart.2.1 10 = .ok (.iadd, 1) := by decide +kernel
theorem d_M_newPart_11 : decode mi_M_newPart.2.1 11 = .ok (.invokestatic 93, 3) := by decide +kernel
theorem d_M_newPart_14 : decode mi_M_newPart.2.1 14 = .ok (.putfield 22, 3) := by decide +kernel
theorem d_M_newPart_17 : decode mi_M_newPart.2.1 17 = .ok (.aload_n 0, 1) := by decide +kernel
theorem d_M_newPart_18 : decode mi_M_newPart.2.1 18 = .ok (.aload_n 0, 1) := by decide +kernel
theorem d_M_newPart_19 : decode mi_M_newPart.2.1 19 = .ok (.getfield 25, 3) := by decide +kernel
theorem d_M_newPart_22 : decode mi_M_newPart.2.1 22 = .ok (.aload_n 0, 1) := by decide +kernel
theorem d_M_newPart_23 : decode mi_M_newPart.2.1 23 = .ok (.getfield 89, 3) := by decide +kernel
theorem d_M_newPart_26 : decode mi_M_newPart.2.1 26 = .ok (.iconst 1, 1) := by decide +kernel
theorem d_M_newPart_27 : decode mi_M_newPart.2.1 27 = .ok (.iadd, 1) := by decide +kernel
theorem d_M_newPart_28 : decode mi_M_newPart.2.1 28 = .ok (.invokestatic 93, 3) := by decide +kernel
theorem d_M_newPart_31 : decode mi_M_newPart.2.1 31 = .ok (.putfield 25, 3) := by decide +kernel
theorem d_M_newPart_34 : decode mi_M_newPart.2.1 34 = .ok (.aload_n 0, 1) := by decide +kernel
theorem d_M_newPart_35 : decode mi_M_newPart.2.1 35 = .ok (.aload_n 0, 1) := by decide +kernel
theorem d_M_newPart_36 : decode mi_M_newPart.2.1 36 = .ok (.getfield 28, 3) := by decide +kernel
theorem d_M_newPart_39 : decode mi_M_newPart.2.1 39 = .ok (.aload_n 0, 1) := by decide +kernel
theorem d_M_newPart_40 : decode mi_M_newPart.2.1 40 = .ok (.getfield 89, 3) := by decide +kernel
theorem d_M_newPart_43 : decode mi_M_newPart.2.1 43 = .ok (.iconst 1, 1) := by decide +kernel
theorem d_M_newPart_44 : decode mi_M_newPart.2.1 44 = .ok (.iadd, 1) := by decide +kernel
theorem d_M_newPart_45 : decode mi_M_newPart.2.1 45 = .ok (.invokestatic 93, 3) := by decide +kernel
theorem d_M_newPart_48 : decode mi_M_newPart.2.1 48 = .ok (.putfield 28, 3) := by decide +kernel
theorem d_M_newPart_51 : decode mi_M_newPart.2.1 51 = .ok (.aload_n 0, 1) := by decide +kernel
theorem d_M_newPart_52 : decode mi_M_newPart.2.1 52 = .ok (.aload_n 0, 1) := by decide +kernel
theorem d_M_newPart_53 : decode mi_M_newPart.2.1 53 = .ok (.getfield 31, 3) := by decide +kernel
theorem d_M_newPart_56 : decode mi_M_newPart.2.1 56 = .ok (.aload_n 0, 1) := by decide +kernel
theorem d_M_newPart_57 : decode mi_M_newPart.2.1 57 = .ok (.getfield 89, 3) := by decide +kernel
theorem d_M_newPart_60 : decode mi_M_newPart.2.1 60 = .ok (.iconst 1, 1) := by decide +kernel
theorem d_M_newPart_61 : decode mi_M_newPart.2.1 61 = .ok (.iadd, 1) := by decide +kernel
theorem d_M_newPart_62 : decode mi_M_newPart.2.1 62 = .ok (.invokestatic 93, 3) := by decide +kernel
theorem d_M_newPart_65 : decode mi_M_newPart.2.1 65 = .ok (.putfield 31, 3) := by decide +kernel
theorem d_M_newPart_68 : decode mi_M_newPart.2.1 68 = .ok (.aload_n 0, 1) := by decide +kernel
theorem d_M_newPart_69 : decode mi_M_newPart.2.1 69 = .ok (.getfield 22, 3) := by decide +kernel
theorem d_M_newPart_72 : decode mi_M_newPart.2.1 72 = .ok (.aload_n 0, 1) := by decide +kernel
theorem d_M_newPart_73 : decode mi_M_newPart.2.1 73 = .ok (.getfield 89, 3) := by decide +kernel
theorem d_M_newPart_76 : decode mi_M_newPart.2.1 76 = .ok (.iload_n 1, 1) := by decide +kernel
theorem d_M_newPart_77 : decode mi_M_newPart.2.1 77 = .ok (.iastore, 1) := by decide +kernel
theorem d_M_newPart_78 : decode mi_M_newPart.2.1 78 = .ok (.aload_n 0, 1) := by decide +kernel
theorem d_M_newPart_79 : decode mi_M_newPart.2.1 79 = .ok (.getfield 25, 3) := by decide +kernel
theorem d_M_newPart_82 : decode mi_M_newPart.2.1 82 = .ok (.aload_n 0, 1) := by decide +kernel
theorem d_M_newPart_83 : decode mi_M_newPart.2.1 83 = .ok (.getfield 89, 3) := by decide +kernel
theorem d_M_newPart_86 : decode mi_M_newPart.2.1 86 = .ok (.iload_n 2, 1) := by decide +kernel
theorem d_M_newPart_87 : decode mi_M_newPart.2.1 87 = .ok (.iastore, 1) := by decide +kernel
theorem d_M_newPart_88 : decode mi_M_newPart.2.1 88 = .ok (.aload_n 0, 1) := by decide +kernel
theorem d_M_newPart_89 : decode mi_M_newPart.2.1 89 = .ok (.getfield 28, 3) := by decide +kernel
theorem d_M_newPart_92 : decode mi_M_newPart.2.1 92 = .ok (.aload_n 0, 1) := by decide +kernel
theorem d_M_newPart_93 : decode mi_M_newPart.2.1 93 = .ok (.getfield 89, 3) := by decide +kernel
theorem d_M_newPart_96 : decode mi_M_newPart.2.1 96 = .ok (.iload_n 3, 1) := by decide +kernel
theorem d_M_newPart_97 : decode mi_M_newPart.2.1 97 = .ok (.iastore, 1) := by decide +kernel
theorem d_M_newPart_98 : decode mi_M_newPart.2.1 98 = .ok (.aload_n 0, 1) := by decide +kernel
theorem d_M_newPart_99 : decode mi_M_newPart.2.1 99 = .ok (.getfield 31, 3) := by decide +kernel
theorem d_M_newPart_102 : decode mi_M_newPart.2.1 102 = .ok (.aload_n 0, 1) := by decide +kernel
theorem d_M_newPart_103 : decode mi_M_newPart.2.1 103 = .ok (.getfield 89, 3) := by decide +kernel
theorem d_M_newPart_106 : decode mi_M_newPart.2.1 106 = .ok (.iload 4, 2) := by decide +kernel
theorem d_M_newPart_108 : decode mi_M_newPart.2.1 108 = .ok (.iastore, 1) := by decide +kernel
theorem d_M_newPart_109 : decode mi_M_newPart.2.1 109 = .ok (.aload_n 0, 1) := by decide +kernel
theorem d_M_newPart_110 : decode mi_M_newPart.2.1 110 = .ok (.dup, 1) := by decide +kernel
theorem d_M_newPart_111 : decode mi_M_newPart.2.1 111 = .ok (.getfield 89, 3) := by decide +kernel
theorem d_M_newPart_114 : decode mi_M_newPart.2.1 114 = .ok (.iconst 1, 1) := by decide +kernel
theorem d_M_newPart_115 : decode mi_M_newPart.2.1 115 = .ok (.iadd, 1) := by decide +kernel
theorem d_M_newPart_116 : decode mi_M_newPart.2.1 116 = .ok (.putfield 89, 3) := by decide +kernel
theorem d_M_newPart_119 : decode mi_M_newPart.2.1 119 = .ok (.aload_n 0, 1) := by decide +kernel
theorem d_M_newPart_120 : decode mi_M_newPart.2.1 120 = .ok (.getfield 89, 3) := by decide +kernel
theorem d_M_newPart_123 : decode mi_M_newPart.2.1 123 = .ok (.iconst 1, 1) := by decide +kernel
theorem d_M_newPart_124 : decode mi_M_newPart.2.1 124 = .ok (.isub, 1) := by decide +kernel
theorem d_M_newPart_125 : decode mi_M_newPart.2.1 125 = .ok (.ireturn, 1) := by decide +kernel
theorem d_M_grown_0 : decode mi_M_grown.2.1 0 = .ok (.iload_n 1, 1) := by decide +kernel
theorem d_M_grown_1 : decode mi_M_grown.2.1 1 = .ok (.aload_n 0, 1) := by decide +kernel
theorem d_M_grown_2 : decode mi_M_grown.2.1 2 = .ok (.arraylength, 1) := by decide +kernel
theorem d_M_grown_3 : decode mi_M_grown.2.1 3 = .ok (.if_icmp .gt 5, 3) := by decide +kernel
theorem d_M_grown_6 : decode mi_M_grown.2.1 6 = .ok (.aload_n 0, 1) := by decide +kernel
theorem d_M_grown_7 : decode mi_M_grown.2.1 7 = .ok (.areturn, 1) := by decide +kernel
theorem d_M_grown_8 : decode mi_M_grown.2.1 8 = .ok (.iconst 2, 1) := by decide +kernel
theorem d_M_grown_9 : decode mi_M_grown.2.1 9 = .ok (.iload_n 1, 1) := by decide +kernel
theorem d_M_grown_10 : decode mi_M_grown.2.1 10 = .ok (.imul, 1) := by decide +kernel
theorem d_M_grown_11 : decode mi_M_grown.2.1 11 = .ok (.newarray .int, 2) := by decide +kernel
theorem d_M_grown_13 : decode mi_M_grown.2.1 13 = .ok (.astore_n 2, 1) := by decide +kernel
theorem d_M_grown_14 : decode mi_M_grown.2.1 14 = .ok (.iconst 0, 1) := by decide +kernel
theorem d_M_grown_15 : decode mi_M_grown.2.1 15 = .ok (.istore_n 3, 1) := by decide +kernel
theorem d_M_grown_16 : decode mi_M_grown.2.1 16 = .ok (.iload_n 3, 1) := by decide +kernel
theorem d_M_grown_17 : decode mi_M_grown.2.1 17 = .ok (.aload_n 0, 1) := by decide +kernel
theorem d_M_grown_18 : decode mi_M_grown.2.1 18 = .ok (.arraylength, 1) := by decide +kernel
theorem d_M_grown_19 : decode mi_M_grown.2.1 19 = .ok (.if_icmp .ge 15, 3) := by decide +kernel
theorem d_M_grown_22 : decode mi_M_grown.2.1 22 = .ok (.aload_n 2, 1) := by decide +kernel
theorem d_M_grown_23 : decode mi_M_grown.2.1 23 = .ok (.iload_n 3, 1) := by decide +kernel
theorem d_M_grown_24 : decode mi_M_grown.2.1 24 = .ok (.aload_n 0, 1) := by decide +kernel
theorem d_M_grown_25 : decode mi_M_grown.2.1 25 = .ok (.iload_n 3, 1) := by decide +kernel
theorem d_M_grown_26 : decode mi_M_grown.2.1 26 = .ok (.iaload, 1) := by decide +kernel
theorem d_M_grown_27 : decode mi_M_grown.2.1 27 = .ok (.iastore, 1) := by decide +kernel
theorem d_M_grown_28 : decode mi_M_grown.2.1 28 = .ok (.iinc 3 1, 3) := by decide +kernel
theorem d_M_grown_31 : decode mi_M_grown.2.1 31 = .ok (.goto (-15), 3) := by decide +kernel
theorem d_M_grown_34 : decode mi_M_grown.2.1 34 = .ok (.aload_n 2, 1) := by decide +kernel
theorem d_M_grown_35 : decode mi_M_grown.2.1 35 = .ok (.areturn, 1) := by decide +kernel
theorem d_M_isSign_0 : decode mi_M_isSign.2.1 0 = .ok (.aload_n 0, 1) := by decide +kernel
theorem d_M_isSign_1 : decode mi_M_isSign.2.1 1 = .ok (.aload_n 0, 1) := by decide +kernel
theorem d_M_isSign_2 : decode mi_M_isSign.2.1 2 = .ok (.getfield 112, 3) := by decide +kernel
theorem d_M_isSign_5 : decode mi_M_isSign.2.1 5 = .ok (.invokevirtual 115, 3) := by decide +kernel
theorem d_M_isSign_8 : decode mi_M_isSign.2.1 8 = .ok (.iload_n 1, 1) := by decide +kernel
theorem d_M_isSign_9 : decode mi_M_isSign.2.1 9 = .ok (.if_icmp .eq 5, 3) := by decide +kernel
theorem d_M_isSign_12 : decode mi_M_isSign.2.1 12 = .ok (.iconst 0, 1) := by decide +kernel
theorem d_M_isSign_13 : decode mi_M_isSign.2.1 13 = .ok (.ireturn, 1) := by decide +kernel
theorem d_M_isSign_14 : decode mi_M_isSign.2.1 14 = .ok (.aload_n 0, 1) := by decide +kernel
theorem d_M_isSign_15 : decode mi_M_isSign.2.1 15 = .ok (.dup, 1) := by decide +kernel
theorem d_M_isSign_16 : decode mi_M_isSign.2.1 16 = .ok (.getfield 112, 3) := by decide +kernel
theorem d_M_isSign_19 : decode mi_M_isSign.2.1 19 = .ok (.iconst 1, 1) := by decide +kernel
theorem d_M_isSign_20 : decode mi_M_isSign.2.1 20 = .ok (.iadd, 1) := by decide +kernel
theorem d_M_isSign_21 : decode mi_M_isSign.2.1 21 = .ok (.putfield 112, 3) := by decide +kernel
theorem d_M_isSign_24 : decode mi_M_isSign.2.1 24 = .ok (.iconst 1, 1) := by decide +kernel
theorem d_M_isSign_25 : decode mi_M_isSign.2.1 25 = .ok (.ireturn, 1) := by decide +kernel
theorem d_M_keys_0 : decode mi_M_keys.2.1 0 = .ok (.aload_n 0, 1) := by decide +kernel
theorem d_M_keys_1 : decode mi_M_keys.2.1 1 = .ok (.dup, 1) := by decide +kernel
theorem d_M_keys_2 : decode mi_M_keys.2.1 2 = .ok (.getfield 112, 3) := by decide +kernel
theorem d_M_keys_5 : decode mi_M_keys.2.1 5 = .ok (.iconst 1, 1) := by decide +kernel
theorem d_M_keys_6 : decode mi_M_keys.2.1 6 = .ok (.iadd, 1) := by decide +kernel
theorem d_M_keys_7 : decode mi_M_keys.2.1 7 = .ok (.putfield 112, 3) := by decide +kernel
theorem d_M_keys_10 : decode mi_M_keys.2.1 10 = .ok (.aload_n 0, 1) := by decide +kernel
theorem d_M_keys_11 : decode mi_M_keys.2.1 11 = .ok (.bipush 6, 2) := by decide +kernel
theorem d_M_keys_13 : decode mi_M_keys.2.1 13 = .ok (.iconst 0, 1) := by decide +kernel
theorem d_M_keys_14 : decode mi_M_keys.2.1 14 = .ok (.ldc 153, 2) := by decide +kernel
theorem d_M_keys_16 : decode mi_M_keys.2.1 16 = .ok (.invokevirtual 149, 3) := by decide +kernel
theorem d_M_keys_19 : decode mi_M_keys.2.1 19 = .ok (.ifCond .ne 5, 3) := by decide +kernel
theorem d_M_keys_22 : decode mi_M_keys.2.1 22 = .ok (.iconst (-1), 1) := by decide +kernel
theorem d_M_keys_23 : decode mi_M_keys.2.1 23 = .ok (.ireturn, 1) := by decide +kernel
theorem d_M_keys_24 : decode mi_M_keys.2.1 24 = .ok (.aload_n 0, 1) := by decide +kernel
theorem d_M_keys_25 : decode mi_M_keys.2.1 25 = .ok (.getfield 122, 3) := by decide +kernel
theorem d_M_keys_28 : decode mi_M_keys.2.1 28 = .ok (.istore_n 1, 1) := by decide +kernel
theorem d_M_keys_29 : decode mi_M_keys.2.1 29 = .ok (.aload_n 0, 1) := by decide +kernel
theorem d_M_keys_30 : decode mi_M_keys.2.1 30 = .ok (.bipush 45, 2) := by decide +kernel
theorem d_M_keys_32 : decode mi_M_keys.2.1 32 = .ok (.invokevirtual 139, 3) := by decide +kernel
theorem d_M_keys_35 : decode mi_M_keys.2.1 35 = .ok (.ifCond .eq 15, 3) := by decide +kernel
theorem d_M_keys_38 : decode mi_M_keys.2.1 38 = .ok (.aload_n 0, 1) := by decide +kernel
theorem d_M_keys_39 : decode mi_M_keys.2.1 39 = .ok (.bipush 6, 2) := by decide +kernel
theorem d_M_keys_41 : decode mi_M_keys.2.1 41 = .ok (.iload_n 1, 1) := by decide +kernel
theorem d_M_keys_42 : decode mi_M_keys.2.1 42 = .ok (.ldc 153, 2) := by decide +kernel
theorem d_M_keys_44 : decode mi_M_keys.2.1 44 = .ok (.invokevirtual 149, 3) := by decide +kernel
theorem d_M_keys_47 : decode mi_M_keys.2.1 47 = .ok (.ifCond .ne 5, 3) := by decide +kernel
theorem d_M_keys_50 : decode mi_M_keys.2.1 50 = .ok (.iconst (-1), 1) := by decide +kernel
theorem d_M_keys_51 : decode mi_M_keys.2.1 51 = .ok (.ireturn, 1) := by decide +kernel
theorem d_M_keys_52 : decode mi_M_keys.2.1 52 = .ok (.aload_n 0, 1) := by decide +kernel
theorem d_M_keys_53 : decode mi_M_keys.2.1 53 = .ok (.bipush 6, 2) := by decide +kernel
theorem d_M_keys_55 : decode mi_M_keys.2.1 55 = .ok (.iload_n 1, 1) := by decide +kernel
theorem d_M_keys_56 : decode mi_M_keys.2.1 56 = .ok (.aload_n 0, 1) := by decide +kernel
theorem d_M_keys_57 : decode mi_M_keys.2.1 57 = .ok (.getfield 122, 3) := by decide +kernel
theorem d_M_keys_60 : decode mi_M_keys.2.1 60 = .ok (.iconst 0, 1) := by decide +kernel
theorem d_M_keys_61 : decode mi_M_keys.2.1 61 = .ok (.invokevirtual 129, 3) := by decide +kernel
theorem d_M_keys_64 : decode mi_M_keys.2.1 64 = .ok (.ireturn, 1) := by decide +kernel
theorem d_M_isNumber_0 : decode mi_M_isNumber.2.1 0 = .ok (.iconst 0, 1) := by decide +kernel
theorem d_M_isNumber_1 : decode mi_M_isNumber.2.1 1 = .ok (.istore 4, 2) := by decide +kernel
theorem d_M_isNumber_3 : decode mi_M_isNumber.2.1 3 = .ok (.iconst 0, 1) := by decide +kernel
theorem d_M_isNumber_4 : decode mi_M_isNumber.2.1 4 = .ok (.istore 5, 2) := by decide +kernel
theorem d_M_isNumber_6 : decode mi_M_isNumber.2.1 6 = .ok (.iload 5, 2) := by decide +kernel
theorem d_M_isNumber_8 : decode mi_M_isNumber.2.1 8 = .ok (.iload_n 1, 1) := by decide +kernel
theorem d_M_isNumber_9 : decode mi_M_isNumber.2.1 9 = .ok (.if_icmp .ge 55, 3) := by decide +kernel
theorem d_M_isNumber_12 : decode mi_M_isNumber.2.1 12 = .ok (.aload_n 0, 1) := by decide +kernel
theorem d_M_isNumber_13 : decode mi_M_isNumber.2.1 13 = .ok (.aload_n 0, 1) := by decide +kernel
theorem d_M_isNumber_14 : decode mi_M_isNumber.2.1 14 = .ok (.getfield 112, 3) := by decide +kernel
theorem d_M_isNumber_17 : decode mi_M_isNumber.2.1 17 = .ok (.iload 5, 2) := by decide +kernel
theorem d_M_isNumber_19 : decode mi_M_isNumber.2.1 19 = .ok (.iadd, 1) := by decide +kernel
theorem d_M_isNumber_20 : decode mi_M_isNumber.2.1 20 = .ok (.invokevirtual 115, 3) := by decide +kernel
theorem d_M_isNumber_23 : decode mi_M_isNumber.2.1 23 = .ok (.i2l, 1) := by decide +kernel
theorem d_M_isNumber_24 : decode mi_M_isNumber.2.1 24 = .ok (.ldc2_w 118, 3) := by decide +kernel
theorem d_M_isNumber_27 : decode mi_M_isNumber.2.1 27 = .ok (.ldc2_w 120, 3) := by decide +kernel
theorem d_M_isNumber_30 : decode mi_M_isNumber.2.1 30 = .ok (.invokestatic 68, 3) := by decide +kernel
theorem d_M_isNumber_33 : decode mi_M_isNumber.2.1 33 = .ok (.ifCond .eq 31, 3) := by decide +kernel
theorem d_M_isNumber_36 : decode mi_M_isNumber.2.1 36 = .ok (.bipush 10, 2) := by decide +kernel
theorem d_M_isNumber_38 : decode mi_M_isNumber.2.1 38 = .ok (.iload 4, 2) := by decide +kernel
theorem d_M_isNumber_40 : decode mi_M_isNumber.2.1 40 = .ok (.imul, 1) := by decide +kernel
theorem d_M_isNumber_41 : decode mi_M_isNumber.2.1 41 = .ok (.aload_n 0, 1) := by decide +kernel
theorem d_M_isNumber_42 : decode mi_M_isNumber.2.1 42 = .ok (.aload_n 0, 1) := by decide +kernel
theorem d_M_isNumber_43 : decode mi_M_isNumber.2.1 43 = .ok (.getfield 112, 3) := by decide +kernel
theorem d_M_isNumber_46 : decode mi_M_isNumber.2.1 46 = .ok (.iload 5, 2) := by decide +kernel
theorem d_M_isNumber_48 : decode mi_M_isNumber.2.1 48 = .ok (.iadd, 1) := by decide +kernel
theorem d_M_isNumber_49 : decode mi_M_isNumber.2.1 49 = .ok (.invokevirtual 115, 3) := by decide +kernel
theorem d_M_isNumber_52 : decode mi_M_isNumber.2.1 52 = .ok (.iadd, 1) := by decide +kernel
theorem d_M_isNumber_53 : decode mi_M_isNumber.2.1 53 = .ok (.bipush 48, 2) := by decide +kernel
theorem d_M_isNumber_55 : decode mi_M_isNumber.2.1 55 = .ok (.isub, 1) := by decide +kernel
theorem d_M_isNumber_56 : decode mi_M_isNumber.2.1 56 = .ok (.istore 4, 2) := by decide +kernel
theorem d_M_isNumber_58 : decode mi_M_isNumber.2.1 58 = .ok (.iinc 5 1, 3) := by decide +kernel
theorem d_M_isNumber_61 : decode mi_M_isNumber.2.1 61 = .ok (.goto (-55), 3) := by decide +kernel
theorem d_M_isNumber_64 : decode mi_M_isNumber.2.1 64 = .ok (.iload 5, 2) := by decide +kernel
theorem d_M_isNumber_66 : decode mi_M_isNumber.2.1 66 = .ok (.ifCond .eq 16, 3) := by decide +kernel
theorem d_M_isNumber_69 : decode mi_M_isNumber.2.1 69 = .ok (.iload 4, 2) := by decide +kernel
theorem d_M_isNumber_71 : decode mi_M_isNumber.2.1 71 = .ok (.i2l, 1) := by decide +kernel
theorem d_M_isNumber_72 : decode mi_M_isNumber.2.1 72 = .ok (.iload_n 2, 1) := by decide +kernel
theorem d_M_isNumber_73 : decode mi_M_isNumber.2.1 73 = .ok (.i2l, 1) := by decide +kernel
theorem d_M_isNumber_74 : decode mi_M_isNumber.2.1 74 = .ok (.iload_n 3, 1) := by decide +kernel
theorem d_M_isNumber_75 : decode mi_M_isNumber.2.1 75 = .ok (.i2l, 1) := by decide +kernel
theorem d_M_isNumber_76 : decode mi_M_isNumber.2.1 76 = .ok (.invokestatic 68, 3) := by decide +kernel
theorem d_M_isNumber_79 : decode mi_M_isNumber.2.1 79 = .ok (.ifCond .ne 5, 3) := by decide +kernel
theorem d_M_isNumber_82 : decode mi_M_isNumber.2.1 82 = .ok (.iconst 0, 1) := by decide +kernel
theorem d_M_isNumber_83 : decode mi_M_isNumber.2.1 83 = .ok (.ireturn, 1) := by decide +kernel
theorem d_M_isNumber_84 : decode mi_M_isNumber.2.1 84 = .ok (.aload_n 0, 1) := by decide +kernel
theorem d_M_isNumber_85 : decode mi_M_isNumber.2.1 85 = .ok (.iload 4, 2) := by decide +kernel
theorem d_M_isNumber_87 : decode mi_M_isNumber.2.1 87 = .ok (.putfield 122, 3) := by decide +kernel
theorem d_M_isNumber_90 : decode mi_M_isNumber.2.1 90 = .ok (.aload_n 0, 1) := by decide +kernel
theorem d_M_isNumber_91 : decode mi_M_isNumber.2.1 91 = .ok (.dup, 1) := by decide +kernel
theorem d_M_isNumber_92 : decode mi_M_isNumber.2.1 92 = .ok (.getfield 112, 3) := by decide +kernel
theorem d_M_isNumber_95 : decode mi_M_isNumber.2.1 95 = .ok (.iload 5, 2) := by decide +kernel
theorem d_M_isNumber_97 : decode mi_M_isNumber.2.1 97 = .ok (.iadd, 1) := by decide +kernel
theorem d_M_isNumber_98 : decode mi_M_isNumber.2.1 98 = .ok (.putfield 112, 3) := by decide +kernel
theorem d_M_isNumber_101 : decode mi_M_isNumber.2.1 101 = .ok (.iconst 1, 1) := by decide +kernel
theorem d_M_isNumber_102 : decode mi_M_isNumber.2.1 102 = .ok (.ireturn, 1) := by decide +kernel
theorem d_M_isAnswer_0 : decode mi_M_isAnswer.2.1 0 = .ok (.aload_n 0, 1) := by decide +kernel
theorem d_M_isAnswer_1 : decode mi_M_isAnswer.2.1 1 = .ok (.bipush 58, 2) := by decide +kernel
theorem d_M_isAnswer_3 : decode mi_M_isAnswer.2.1 3 = .ok (.invokevirtual 139, 3) := by decide +kernel
theorem d_M_isAnswer_6 : decode mi_M_isAnswer.2.1 6 = .ok (.ifCond .eq 50, 3) := by decide +kernel
theorem d_M_isAnswer_9 : decode mi_M_isAnswer.2.1 9 = .ok (.aload_n 0, 1) := by decide +kernel
theorem d_M_isAnswer_10 : decode mi_M_isAnswer.2.1 10 = .ok (.iconst 1, 1) := by decide +kernel
theorem d_M_isAnswer_11 : decode mi_M_isAnswer.2.1 11 = .ok (.iconst 0, 1) := by decide +kernel
theorem d_M_isAnswer_12 : decode mi_M_isAnswer.2.1 12 = .ok (.aload_n 0, 1) := by decide +kernel
theorem d_M_isAnswer_13 : decode mi_M_isAnswer.2.1 13 = .ok (.iload_n 1, 1) := by decide +kernel
theorem d_M_isAnswer_14 : decode mi_M_isAnswer.2.1 14 = .ok (.iconst 0, 1) := by decide +kernel
theorem d_M_isAnswer_15 : decode mi_M_isAnswer.2.1 15 = .ok (.invokevirtual 76, 3) := by decide +kernel
theorem d_M_isAnswer_18 : decode mi_M_isAnswer.2.1 18 = .ok (.invokevirtual 149, 3) := by decide +kernel
theorem d_M_isAnswer_21 : decode mi_M_isAnswer.2.1 21 = .ok (.ifCond .ne 5, 3) := by decide +kernel
theorem d_M_isAnswer_24 : decode mi_M_isAnswer.2.1 24 = .ok (.iconst 0, 1) := by decide +kernel
theorem d_M_isAnswer_25 : decode mi_M_isAnswer.2.1 25 = .ok (.ireturn, 1) := by decide +kernel
theorem d_M_isAnswer_26 : decode mi_M_isAnswer.2.1 26 = .ok (.aload_n 0, 1) := by decide +kernel
theorem d_M_isAnswer_27 : decode mi_M_isAnswer.2.1 27 = .ok (.getfield 37, 3) := by decide +kernel
theorem d_M_isAnswer_30 : decode mi_M_isAnswer.2.1 30 = .ok (.iconst 0, 1) := by decide +kernel
theorem d_M_isAnswer_31 : decode mi_M_isAnswer.2.1 31 = .ok (.sipush 1000, 3) := by decide +kernel
theorem d_M_isAnswer_34 : decode mi_M_isAnswer.2.1 34 = .ok (.aload_n 0, 1) := by decide +kernel
theorem d_M_isAnswer_35 : decode mi_M_isAnswer.2.1 35 = .ok (.getfield 122, 3) := by decide +kernel
theorem d_M_isAnswer_38 : decode mi_M_isAnswer.2.1 38 = .ok (.iadd, 1) := by decide +kernel
theorem d_M_isAnswer_39 : decode mi_M_isAnswer.2.1 39 = .ok (.iastore, 1) := by decide +kernel
theorem d_M_isAnswer_40 : decode mi_M_isAnswer.2.1 40 = .ok (.aload_n 0, 1) := by decide +kernel
theorem d_M_isAnswer_41 : decode mi_M_isAnswer.2.1 41 = .ok (.getfield 37, 3) := by decide +kernel
theorem d_M_isAnswer_44 : decode mi_M_isAnswer.2.1 44 = .ok (.iconst 1, 1) := by decide +kernel
theorem d_M_isAnswer_45 : decode mi_M_isAnswer.2.1 45 = .ok (.iconst 0, 1) := by decide +kernel
theorem d_M_isAnswer_46 : decode mi_M_isAnswer.2.1 46 = .ok (.iastore, 1) := by decide +kernel
theorem d_M_isAnswer_47 : decode mi_M_isAnswer.2.1 47 = .ok (.aload_n 0, 1) := by decide +kernel
theorem d_M_isAnswer_48 : decode mi_M_isAnswer.2.1 48 = .ok (.getfield 37, 3) := by decide +kernel
theorem d_M_isAnswer_51 : decode mi_M_isAnswer.2.1 51 = .ok (.iconst 2, 1) := by decide +kernel
theorem d_M_isAnswer_52 : decode mi_M_isAnswer.2.1 52 = .ok (.iconst 0, 1) := by decide +kernel
theorem d_M_isAnswer_53 : decode mi_M_isAnswer.2.1 53 = .ok (.iastore, 1) := by decide +kernel
theorem d_M_isAnswer_54 : decode mi_M_isAnswer.2.1 54 = .ok (.iconst 1, 1) := by decide +kernel
theorem d_M_isAnswer_55 : decode mi_M_isAnswer.2.1 55 = .ok (.ireturn, 1) := by decide +kernel
theorem d_M_isAnswer_56 : decode mi_M_isAnswer.2.1 56 = .ok (.aload_n 0, 1) := by decide +kernel
theorem d_M_isAnswer_57 : decode mi_M_isAnswer.2.1 57 = .ok (.bipush 37, 2) := by decide +kernel
theorem d_M_isAnswer_59 : decode mi_M_isAnswer.2.1 59 = .ok (.invokevirtual 139, 3) := by decide +kernel
theorem d_M_isAnswer_62 : decode mi_M_isAnswer.2.1 62 = .ok (.ifCond .ne 5, 3) := by decide +kernel
theorem d_M_isAnswer_65 : decode mi_M_isAnswer.2.1 65 = .ok (.iconst 0, 1) := by decide +kernel
theorem d_M_isAnswer_66 : decode mi_M_isAnswer.2.1 66 = .ok (.ireturn, 1) := by decide +kernel
theorem d_M_isAnswer_67 : decode mi_M_isAnswer.2.1 67 = .ok (.iconst 1, 1) := by decide +kernel
theorem d_M_isAnswer_68 : decode mi_M_isAnswer.2.1 68 = .ok (.istore_n 2, 1) := by decide +kernel
theorem d_M_isAnswer_69 : decode mi_M_isAnswer.2.1 69 = .ok (.iload_n 2, 1) := by decide +kernel
theorem d_M_isAnswer_70 : decode mi_M_isAnswer.2.1 70 = .ok (.iconst 3, 1) := by decide +kernel
theorem d_M_isAnswer_71 : decode mi_M_isAnswer.2.1 71 = .ok (.if_icmp .gt 63, 3) := by decide +kernel
theorem d_M_isAnswer_74 : decode mi_M_isAnswer.2.1 74 = .ok (.iload_n 2, 1) := by decide +kernel
theorem d_M_isAnswer_75 : decode mi_M_isAnswer.2.1 75 = .ok (.iconst 1, 1) := by decide +kernel
theorem d_M_isAnswer_76 : decode mi_M_isAnswer.2.1 76 = .ok (.if_icmp .le 12, 3) := by decide +kernel
theorem d_M_isAnswer_79 : decode mi_M_isAnswer.2.1 79 = .ok (.aload_n 0, 1) := by decide +kernel
theorem d_M_isAnswer_80 : decode mi_M_isAnswer.2.1 80 = .ok (.bipush 44, 2) := by decide +kernel
theorem d_M_isAnswer_82 : decode mi_M_isAnswer.2.1 82 = .ok (.invokevirtual 139, 3) := by decide +kernel
theorem d_M_isAnswer_85 : decode mi_M_isAnswer.2.1 85 = .ok (.ifCond .eq 29, 3) := by decide +kernel
theorem d_M_isAnswer_88 : decode mi_M_isAnswer.2.1 88 = .ok (.aload_n 0, 1) := by decide +kernel
theorem d_M_isAnswer_89 : decode mi_M_isAnswer.2.1 89 = .ok (.iconst 3, 1) := by decide +kernel
theorem d_M_isAnswer_90 : decode mi_M_isAnswer.2.1 90 = .ok (.iconst 0, 1) := by decide +kernel
theorem d_M_isAnswer_91 : decode mi_M_isAnswer.2.1 91 = .ok (.iload_n 2, 1) := by decide +kernel
theorem d_M_isAnswer_92 : decode mi_M_isAnswer.2.1 92 = .ok (.aload_n 0, 1) := by decide +kernel
theorem d_M_isAnswer_93 : decode mi_M_isAnswer.2.1 93 = .ok (.iload_n 1, 1) := by decide +kernel
theorem d_M_isAnswer_94 : decode mi_M_isAnswer.2.1 94 = .ok (.iconst 0, 1) := by decide +kernel
theorem d_M_isAnswer_95 : decode mi_M_isAnswer.2.1 95 = .ok (.invokevirtual 76, 3) := by decide +kernel
theorem d_M_isAnswer_98 : decode mi_M_isAnswer.2.1 98 = .ok (.if_icmp .gt 9, 3) := by decide +kernel
theorem d_M_isAnswer_101 : decode mi_M_isAnswer.2.1 101 = .ok (.sipush 333, 3) := by decide +kernel
theorem d_M_isAnswer_104 : decode mi_M_isAnswer.2.1 104 = .ok (.goto 4, 3) := by decide +kernel
theorem d_M_isAnswer_107 : decode mi_M_isAnswer.2.1 107 = .ok (.iconst 0, 1) := by decide +kernel
theorem d_M_isAnswer_108 : decode mi_M_isAnswer.2.1 108 = .ok (.invokevirtual 149, 3) := by decide +kernel
theorem d_M_isAnswer_111 : decode mi_M_isAnswer.2.1 111 = .ok (.ifCond .ne 5, 3) := by decide +kernel
theorem d_M_isAnswer_114 : decode mi_M_isAnswer.2.1 114 = .ok (.iconst 0, 1) := by decide +kernel
theorem d_M_isAnswer_115 : decode mi_M_isAnswer.2.1 115 = .ok (.ireturn, 1) := by decide +kernel
theorem d_M_isAnswer_116 : decode mi_M_isAnswer.2.1 116 = .ok (.aload_n 0, 1) := by decide +kernel
theorem d_M_isAnswer_117 : decode mi_M_isAnswer.2.1 117 = .ok (.getfield 37, 3) := by decide +kernel
theorem d_M_isAnswer_120 : decode mi_M_isAnswer.2.1 120 = .ok (.iload_n 2, 1) := by decide +kernel
theorem d_M_isAnswer_121 : decode mi_M_isAnswer.2.1 121 = .ok (.iconst 1, 1) := by decide +kernel
theorem d_M_isAnswer_122 : decode mi_M_isAnswer.2.1 122 = .ok (.isub, 1) := by decide +kernel
theorem d_M_isAnswer_123 : decode mi_M_isAnswer.2.1 123 = .ok (.aload_n 0, 1) := by decide +kernel
theorem d_M_isAnswer_124 : decode mi_M_isAnswer.2.1 124 = .ok (.getfield 122, 3) := by decide +kernel
theorem d_M_isAnswer_127 : decode mi_M_isAnswer.2.1 127 = .ok (.iastore, 1) := by decide +kernel
theorem d_M_isAnswer_128 : decode mi_M_isAnswer.2.1 128 = .ok (.iinc 2 1, 3) := by decide +kernel
theorem d_M_isAnswer_131 : decode mi_M_isAnswer.2.1 131 = .ok (.goto (-62), 3) := by decide +kernel
theorem d_M_isAnswer_134 : decode mi_M_isAnswer.2.1 134 = .ok (.iconst 1, 1) := by decide +kernel
theorem d_M_isAnswer_135 : decode mi_M_isAnswer.2.1 135 = .ok (.ireturn, 1) := by decide +kernel
theorem d_M_of_0 : decode mi_M_of.2.1 0 = .ok (.aload_n 0, 1) := by decide +kernel
theorem d_M_of_1 : decode mi_M_of.2.1 1 = .ok (.getfield 9, 3) := by decide +kernel
theorem d_M_of_4 : decode mi_M_of.2.1 4 = .ok (.sipush 174, 3) := by decide +kernel
theorem d_M_of_7 : decode mi_M_of.2.1 7 = .ok (.bipush 84, 2) := by decide +kernel
theorem d_M_of_9 : decode mi_M_of.2.1 9 = .ok (.iload_n 1, 1) := by decide +kernel
theorem d_M_of_10 : decode mi_M_of.2.1 10 = .ok (.imul, 1) := by decide +kernel
theorem d_M_of_11 : decode mi_M_of.2.1 11 = .ok (.iadd, 1) := by decide +kernel
theorem d_M_of_12 : decode mi_M_of.2.1 12 = .ok (.iload_n 2, 1) := by decide +kernel
theorem d_M_of_13 : decode mi_M_of.2.1 13 = .ok (.iadd, 1) := by decide +kernel
theorem d_M_of_14 : decode mi_M_of.2.1 14 = .ok (.iaload, 1) := by decide +kernel
theorem d_M_of_15 : decode mi_M_of.2.1 15 = .ok (.ireturn, 1) := by decide +kernel
theorem d_M_ruleAt_0 : decode mi_M_ruleAt.2.1 0 = .ok (.sipush 174, 3) := by decide +kernel
theorem d_M_ruleAt_3 : decode mi_M_ruleAt.2.1 3 = .ok (.bipush 84, 2) := by decide +kernel
theorem d_M_ruleAt_5 : decode mi_M_ruleAt.2.1 5 = .ok (.iload_n 0, 1) := by decide +kernel
theorem d_M_ruleAt_6 : decode mi_M_ruleAt.2.1 6 = .ok (.imul, 1) := by decide +kernel
theorem d_M_ruleAt_7 : decode mi_M_ruleAt.2.1 7 = .ok (.iadd, 1) := by decide +kernel
theorem d_M_ruleAt_8 : decode mi_M_ruleAt.2.1 8 = .ok (.bipush 60, 2) := by decide +kernel
theorem d_M_ruleAt_10 : decode mi_M_ruleAt.2.1 10 = .ok (.iadd, 1) := by decide +kernel
theorem d_M_ruleAt_11 : decode mi_M_ruleAt.2.1 11 = .ok (.iconst 4, 1) := by decide +kernel
theorem d_M_ruleAt_12 : decode mi_M_ruleAt.2.1 12 = .ok (.iload_n 1, 1) := by decide +kernel
theorem d_M_ruleAt_13 : decode mi_M_ruleAt.2.1 13 = .ok (.imul, 1) := by decide +kernel
theorem d_M_ruleAt_14 : decode mi_M_ruleAt.2.1 14 = .ok (.iadd, 1) := by decide +kernel
theorem d_M_ruleAt_15 : decode mi_M_ruleAt.2.1 15 = .ok (.iload_n 2, 1) := by decide +kernel
theorem d_M_ruleAt_16 : decode mi_M_ruleAt.2.1 16 = .ok (.iadd, 1) := by decide +kernel
theorem d_M_ruleAt_17 : decode mi_M_ruleAt.2.1 17 = .ok (.ireturn, 1) := by decide +kernel
theorem d_M_is_0 : decode mi_M_is.2.1 0 = .ok (.aload_n 0, 1) := by decide +kernel
theorem d_M_is_1 : decode mi_M_is.2.1 1 = .ok (.getfield 9, 3) := by decide +kernel
theorem d_M_is_4 : decode mi_M_is.2.1 4 = .ok (.sipush 174, 3) := by decide +kernel
theorem d_M_is_7 : decode mi_M_is.2.1 7 = .ok (.bipush 84, 2) := by decide +kernel
theorem d_M_is_9 : decode mi_M_is.2.1 9 = .ok (.iload_n 1, 1) := by decide +kernel
theorem d_M_is_10 : decode mi_M_is.2.1 10 = .ok (.imul, 1) := by decide +kernel
theorem d_M_is_11 : decode mi_M_is.2.1 11 = .ok (.iadd, 1) := by decide +kernel
theorem d_M_is_12 : decode mi_M_is.2.1 12 = .ok (.iload_n 2, 1) := by decide +kernel
theorem d_M_is_13 : decode mi_M_is.2.1 13 = .ok (.iadd, 1) := by decide +kernel
theorem d_M_is_14 : decode mi_M_is.2.1 14 = .ok (.iload_n 3, 1) := by decide +kernel
theorem d_M_is_15 : decode mi_M_is.2.1 15 = .ok (.iastore, 1) := by decide +kernel
theorem d_M_is_16 : decode mi_M_is.2.1 16 = .ok (.return_, 1) := by decide +kernel
theorem d_M_ask_0 : decode mi_M_ask.2.1 0 = .ok (.aload_n 0, 1) := by decide +kernel
theorem d_M_ask_1 : decode mi_M_ask.2.1 1 = .ok (.iload_n 2, 1) := by decide +kernel
theorem d_M_ask_2 : decode mi_M_ask.2.1 2 = .ok (.invokevirtual 204, 3) := by decide +kernel
theorem d_M_ask_5 : decode mi_M_ask.2.1 5 = .ok (.istore_n 3, 1) := by decide +kernel
theorem d_M_ask_6 : decode mi_M_ask.2.1 6 = .ok (.aload_n 0, 1) := by decide +kernel
theorem d_M_ask_7 : decode mi_M_ask.2.1 7 = .ok (.iload_n 1, 1) := by decide +kernel
theorem d_M_ask_8 : decode mi_M_ask.2.1 8 = .ok (.invokevirtual 72, 3) := by decide +kernel
theorem d_M_ask_11 : decode mi_M_ask.2.1 11 = .ok (.ifCond .eq 16, 3) := by decide +kernel
theorem d_M_ask_14 : decode mi_M_ask.2.1 14 = .ok (.iload_n 3, 1) := by decide +kernel
theorem d_M_ask_15 : decode mi_M_ask.2.1 15 = .ok (.ifCond .lt 12, 3) := by decide +kernel
theorem d_M_ask_18 : decode mi_M_ask.2.1 18 = .ok (.aload_n 0, 1) := by decide +kernel
theorem d_M_ask_19 : decode mi_M_ask.2.1 19 = .ok (.iload_n 1, 1) := by decide +kernel
theorem d_M_ask_20 : decode mi_M_ask.2.1 20 = .ok (.iload_n 3, 1) := by decide +kernel
theorem d_M_ask_21 : decode mi_M_ask.2.1 21 = .ok (.invokevirtual 207, 3) := by decide +kernel
theorem d_M_ask_24 : decode mi_M_ask.2.1 24 = .ok (.goto 9, 3) := by decide +kernel
theorem d_M_ask_27 : decode mi_M_ask.2.1 27 = .ok (.aload_n 0, 1) := by decide +kernel
theorem d_M_ask_28 : decode mi_M_ask.2.1 28 = .ok (.bipush (-32), 2) := by decide +kernel
theorem d_M_ask_30 : decode mi_M_ask.2.1 30 = .ok (.invokevirtual 106, 3) := by decide +kernel
theorem d_M_ask_33 : decode mi_M_ask.2.1 33 = .ok (.ireturn, 1) := by decide +kernel
theorem d_M_personBy_0 : decode mi_M_personBy.2.1 0 = .ok (.iconst 0, 1) := by decide +kernel
theorem d_M_personBy_1 : decode mi_M_personBy.2.1 1 = .ok (.istore_n 2, 1) := by decide +kernel
theorem d_M_personBy_2 : decode mi_M_personBy.2.1 2 = .ok (.iload_n 2, 1) := by decide +kernel
theorem d_M_personBy_3 : decode mi_M_personBy.2.1 3 = .ok (.aload_n 0, 1) := by decide +kernel
theorem d_M_personBy_4 : decode mi_M_personBy.2.1 4 = .ok (.getfield 9, 3) := by decide +kernel
theorem d_M_personBy_7 : decode mi_M_personBy.2.1 7 = .ok (.iconst 0, 1) := by decide +kernel
theorem d_M_personBy_8 : decode mi_M_personBy.2.1 8 = .ok (.iaload, 1) := by decide +kernel
theorem d_M_personBy_9 : decode mi_M_personBy.2.1 9 = .ok (.if_icmp .ge 20, 3) := by decide +kernel
theorem d_M_personBy_12 : decode mi_M_personBy.2.1 12 = .ok (.aload_n 0, 1) := by decide +kernel
theorem d_M_personBy_13 : decode mi_M_personBy.2.1 13 = .ok (.iload_n 2, 1) := by decide +kernel
theorem d_M_personBy_14 : decode mi_M_personBy.2.1 14 = .ok (.invokevirtual 84, 3) := by decide +kernel
theorem d_M_personBy_17 : decode mi_M_personBy.2.1 17 = .ok (.iload_n 1, 1) := by decide +kernel
theorem d_M_personBy_18 : decode mi_M_personBy.2.1 18 = .ok (.if_icmp .ne 5, 3) := by decide +kernel
theorem d_M_personBy_21 : decode mi_M_personBy.2.1 21 = .ok (.iload_n 2, 1) := by decide +kernel
theorem d_M_personBy_22 : decode mi_M_personBy.2.1 22 = .ok (.ireturn, 1) := by decide +kernel
theorem d_M_personBy_23 : decode mi_M_personBy.2.1 23 = .ok (.iinc 2 1, 3) := by decide +kernel
theorem d_M_personBy_26 : decode mi_M_personBy.2.1 26 = .ok (.goto (-24), 3) := by decide +kernel
theorem d_M_personBy_29 : decode mi_M_personBy.2.1 29 = .ok (.iconst (-1), 1) := by decide +kernel
theorem d_M_personBy_30 : decode mi_M_personBy.2.1 30 = .ok (.ireturn, 1) := by decide +kernel
theorem d_M_keyOf_0 : decode mi_M_keyOf.2.1 0 = .ok (.aload_n 0, 1) := by decide +kernel
theorem d_M_keyOf_1 : decode mi_M_keyOf.2.1 1 = .ok (.getfield 9, 3) := by decide +kernel
theorem d_M_keyOf_4 : decode mi_M_keyOf.2.1 4 = .ok (.bipush 6, 2) := by decide +kernel
theorem d_M_keyOf_6 : decode mi_M_keyOf.2.1 6 = .ok (.iconst 2, 1) := by decide +kernel
theorem d_M_keyOf_7 : decode mi_M_keyOf.2.1 7 = .ok (.iload_n 1, 1) := by decide +kernel
theorem d_M_keyOf_8 : decode mi_M_keyOf.2.1 8 = .ok (.imul, 1) := by decide +kernel
theorem d_M_keyOf_9 : decode mi_M_keyOf.2.1 9 = .ok (.iadd, 1) := by decide +kernel
theorem d_M_keyOf_10 : decode mi_M_keyOf.2.1 10 = .ok (.iaload, 1) := by decide +kernel
theorem d_M_keyOf_11 : decode mi_M_keyOf.2.1 11 = .ok (.ireturn, 1) := by decide +kernel
theorem d_M_askTruly_0 : decode mi_M_askTruly.2.1 0 = .ok (.aload_n 0, 1) := by decide +kernel
theorem d_M_askTruly_1 : decode mi_M_askTruly.2.1 1 = .ok (.iload_n 1, 1) := by decide +kernel
theorem d_M_askTruly_2 : decode mi_M_askTruly.2.1 2 = .ok (.iload_n 2, 1) := by decide +kernel
theorem d_M_askTruly_3 : decode mi_M_askTruly.2.1 3 = .ok (.invokevirtual 201, 3) := by decide +kernel
theorem d_M_askTruly_6 : decode mi_M_askTruly.2.1 6 = .ok (.istore_n 3, 1) := by decide +kernel
theorem d_M_askTruly_7 : decode mi_M_askTruly.2.1 7 = .ok (.aload_n 0, 1) := by decide +kernel
theorem d_M_askTruly_8 : decode mi_M_askTruly.2.1 8 = .ok (.iload_n 1, 1) := by decide +kernel
theorem d_M_askTruly_9 : decode mi_M_askTruly.2.1 9 = .ok (.bipush 10, 2) := by decide +kernel
theorem d_M_askTruly_11 : decode mi_M_askTruly.2.1 11 = .ok (.iload_n 3, 1) := by decide +kernel
theorem d_M_askTruly_12 : decode mi_M_askTruly.2.1 12 = .ok (.iadd, 1) := by decide +kernel
theorem d_M_askTruly_13 : decode mi_M_askTruly.2.1 13 = .ok (.aload_n 0, 1) := by decide +kernel
theorem d_M_askTruly_14 : decode mi_M_askTruly.2.1 14 = .ok (.iload_n 1, 1) := by decide +kernel
theorem d_M_askTruly_15 : decode mi_M_askTruly.2.1 15 = .ok (.bipush 10, 2) := by decide +kernel
theorem d_M_askTruly_17 : decode mi_M_askTruly.2.1 17 = .ok (.iload_n 3, 1) := by decide +kernel
theorem d_M_askTruly_18 : decode mi_M_askTruly.2.1 18 = .ok (.iadd, 1) := by decide +kernel
theorem d_M_askTruly_19 : decode mi_M_askTruly.2.1 19 = .ok (.invokevirtual 76, 3) := by decide +kernel
theorem d_M_askTruly_22 : decode mi_M_askTruly.2.1 22 = .ok (.iconst 1, 1) := by decide +kernel
theorem d_M_askTruly_23 : decode mi_M_askTruly.2.1 23 = .ok (.iadd, 1) := by decide +kernel
theorem d_M_askTruly_24 : decode mi_M_askTruly.2.1 24 = .ok (.invokevirtual 157, 3) := by decide +kernel
theorem d_M_askTruly_27 : decode mi_M_askTruly.2.1 27 = .ok (.aload_n 0, 1) := by decide +kernel
theorem d_M_askTruly_28 : decode mi_M_askTruly.2.1 28 = .ok (.getfield 9, 3) := by decide +kernel
theorem d_M_askTruly_31 : decode mi_M_askTruly.2.1 31 = .ok (.iconst 4, 1) := by decide +kernel
theorem d_M_askTruly_32 : decode mi_M_askTruly.2.1 32 = .ok (.dup2, 1) := by decide +kernel
theorem d_M_askTruly_33 : decode mi_M_askTruly.2.1 33 = .ok (.iaload, 1) := by decide +kernel
theorem d_M_askTruly_34 : decode mi_M_askTruly.2.1 34 = .ok (.iconst 1, 1) := by decide +kernel
theorem d_M_askTruly_35 : decode mi_M_askTruly.2.1 35 = .ok (.iadd, 1) := by decide +kernel
theorem d_M_askTruly_36 : decode mi_M_askTruly.2.1 36 = .ok (.iastore, 1) := by decide +kernel
theorem d_M_askTruly_37 : decode mi_M_askTruly.2.1 37 = .ok (.aload_n 0, 1) := by decide +kernel
theorem d_M_askTruly_38 : decode mi_M_askTruly.2.1 38 = .ok (.iload_n 1, 1) := by decide +kernel
theorem d_M_askTruly_39 : decode mi_M_askTruly.2.1 39 = .ok (.iconst 2, 1) := by decide +kernel
theorem d_M_askTruly_40 : decode mi_M_askTruly.2.1 40 = .ok (.invokevirtual 76, 3) := by decide +kernel
theorem d_M_askTruly_43 : decode mi_M_askTruly.2.1 43 = .ok (.iconst 1, 1) := by decide +kernel
theorem d_M_askTruly_44 : decode mi_M_askTruly.2.1 44 = .ok (.if_icmp .ne 42, 3) := by decide +kernel
theorem d_M_askTruly_47 : decode mi_M_askTruly.2.1 47 = .ok (.aload_n 0, 1) := by decide +kernel
theorem d_M_askTruly_48 : decode mi_M_askTruly.2.1 48 = .ok (.getfield 43, 3) := by decide +kernel
theorem d_M_askTruly_51 : decode mi_M_askTruly.2.1 51 = .ok (.iload_n 1, 1) := by decide +kernel
theorem d_M_askTruly_52 : decode mi_M_askTruly.2.1 52 = .ok (.iaload, 1) := by decide +kernel
theorem d_M_askTruly_53 : decode mi_M_askTruly.2.1 53 = .ok (.bipush 6, 2) := by decide +kernel
theorem d_M_askTruly_55 : decode mi_M_askTruly.2.1 55 = .ok (.if_icmp .ne 31, 3) := by decide +kernel
theorem d_M_askTruly_58 : decode mi_M_askTruly.2.1 58 = .ok (.iload_n 3, 1) := by decide +kernel
theorem d_M_askTruly_59 : decode mi_M_askTruly.2.1 59 = .ok (.ifCond .le 27, 3) := by decide +kernel
theorem d_M_askTruly_62 : decode mi_M_askTruly.2.1 62 = .ok (.aload_n 0, 1) := by decide +kernel
theorem d_M_askTruly_63 : decode mi_M_askTruly.2.1 63 = .ok (.iload_n 1, 1) := by decide +kernel
theorem d_M_askTruly_64 : decode mi_M_askTruly.2.1 64 = .ok (.aload_n 0, 1) := by decide +kernel
theorem d_M_askTruly_65 : decode mi_M_askTruly.2.1 65 = .ok (.getfield 46, 3) := by decide +kernel
theorem d_M_askTruly_68 : decode mi_M_askTruly.2.1 68 = .ok (.iload_n 1, 1) := by decide +kernel
theorem d_M_askTruly_69 : decode mi_M_askTruly.2.1 69 = .ok (.iaload, 1) := by decide +kernel
theorem d_M_askTruly_70 : decode mi_M_askTruly.2.1 70 = .ok (.invokevirtual 188, 3) := by decide +kernel
theorem d_M_askTruly_73 : decode mi_M_askTruly.2.1 73 = .ok (.ifCond .ne 13, 3) := by decide +kernel
theorem d_M_askTruly_76 : decode mi_M_askTruly.2.1 76 = .ok (.aload_n 0, 1) := by decide +kernel
theorem d_M_askTruly_77 : decode mi_M_askTruly.2.1 77 = .ok (.iload_n 1, 1) := by decide +kernel
theorem d_M_askTruly_78 : decode mi_M_askTruly.2.1 78 = .ok (.bipush 36, 2) := by decide +kernel
theorem d_M_askTruly_80 : decode mi_M_askTruly.2.1 80 = .ok (.iload_n 2, 1) := by decide +kernel
theorem d_M_askTruly_81 : decode mi_M_askTruly.2.1 81 = .ok (.iadd, 1) := by decide +kernel
theorem d_M_askTruly_82 : decode mi_M_askTruly.2.1 82 = .ok (.iload_n 3, 1) := by decide +kernel
theorem d_M_askTruly_83 : decode mi_M_askTruly.2.1 83 = .ok (.invokevirtual 157, 3) := by decide +kernel
theorem d_M_askTruly_86 : decode mi_M_askTruly.2.1 86 = .ok (.iload_n 3, 1) := by decide +kernel
theorem d_M_askTruly_87 : decode mi_M_askTruly.2.1 87 = .ok (.ireturn, 1) := by decide +kernel
theorem d_M_fresh_0 : decode mi_M_fresh.2.1 0 = .ok (.aload_n 0, 1) := by decide +kernel
theorem d_M_fresh_1 : decode mi_M_fresh.2.1 1 = .ok (.iconst 0, 1) := by decide +kernel
theorem d_M_fresh_2 : decode mi_M_fresh.2.1 2 = .ok (.putfield 170, 3) := by decide +kernel
theorem d_M_fresh_5 : decode mi_M_fresh.2.1 5 = .ok (.aload_n 0, 1) := by decide +kernel
theorem d_M_fresh_6 : decode mi_M_fresh.2.1 6 = .ok (.iload_n 1, 1) := by decide +kernel
theorem d_M_fresh_7 : decode mi_M_fresh.2.1 7 = .ok (.iload_n 2, 1) := by decide +kernel
theorem d_M_fresh_8 : decode mi_M_fresh.2.1 8 = .ok (.invokevirtual 173, 3) := by decide +kernel
theorem d_M_fresh_11 : decode mi_M_fresh.2.1 11 = .ok (.ireturn, 1) := by decide +kernel
theorem d_M_answer_0 : decode mi_M_answer.2.1 0 = .ok (.aload_n 0, 1) := by decide +kernel
theorem d_M_answer_1 : decode mi_M_answer.2.1 1 = .ok (.getfield 170, 3) := by decide +kernel
theorem d_M_answer_4 : decode mi_M_answer.2.1 4 = .ok (.iload_n 1, 1) := by decide +kernel
theorem d_M_answer_5 : decode mi_M_answer.2.1 5 = .ok (.ishr, 1) := by decide +kernel
theorem d_M_answer_6 : decode mi_M_answer.2.1 6 = .ok (.iconst 1, 1) := by decide +kernel
theorem d_M_answer_7 : decode mi_M_answer.2.1 7 = .ok (.iand, 1) := by decide +kernel
theorem d_M_answer_8 : decode mi_M_answer.2.1 8 = .ok (.ifCond .ne 47, 3) := by decide +kernel
theorem d_M_answer_11 : decode mi_M_answer.2.1 11 = .ok (.aload_n 0, 1) := by decide +kernel
theorem d_M_answer_12 : decode mi_M_answer.2.1 12 = .ok (.getfield 40, 3) := by decide +kernel
theorem d_M_answer_15 : decode mi_M_answer.2.1 15 = .ok (.iload_n 1, 1) := by decide +kernel
theorem d_M_answer_16 : decode mi_M_answer.2.1 16 = .ok (.aload_n 0, 1) := by decide +kernel
theorem d_M_answer_17 : decode mi_M_answer.2.1 17 = .ok (.iload_n 1, 1) := by decide +kernel
theorem d_M_answer_18 : decode mi_M_answer.2.1 18 = .ok (.iload_n 2, 1) := by decide +kernel
theorem d_M_answer_19 : decode mi_M_answer.2.1 19 = .ok (.invokevirtual 176, 3) := by decide +kernel
theorem d_M_answer_22 : decode mi_M_answer.2.1 22 = .ok (.iastore, 1) := by decide +kernel
theorem d_M_answer_23 : decode mi_M_answer.2.1 23 = .ok (.aload_n 0, 1) := by decide +kernel
theorem d_M_answer_24 : decode mi_M_answer.2.1 24 = .ok (.getfield 43, 3) := by decide +kernel
theorem d_M_answer_27 : decode mi_M_answer.2.1 27 = .ok (.iload_n 1, 1) := by decide +kernel
theorem d_M_answer_28 : decode mi_M_answer.2.1 28 = .ok (.aload_n 0, 1) := by decide +kernel
theorem d_M_answer_29 : decode mi_M_answer.2.1 29 = .ok (.getfield 164, 3) := by decide +kernel
theorem d_M_answer_32 : decode mi_M_answer.2.1 32 = .ok (.iastore, 1) := by decide +kernel
theorem d_M_answer_33 : decode mi_M_answer.2.1 33 = .ok (.aload_n 0, 1) := by decide +kernel
theorem d_M_answer_34 : decode mi_M_answer.2.1 34 = .ok (.getfield 46, 3) := by decide +kernel
theorem d_M_answer_37 : decode mi_M_answer.2.1 37 = .ok (.iload_n 1, 1) := by decide +kernel
theorem d_M_answer_38 : decode mi_M_answer.2.1 38 = .ok (.aload_n 0, 1) := by decide +kernel
theorem d_M_answer_39 : decode mi_M_answer.2.1 39 = .ok (.getfield 167, 3) := by decide +kernel
theorem d_M_answer_42 : decode mi_M_answer.2.1 42 = .ok (.iastore, 1) := by decide +kernel
theorem d_M_answer_43 : decode mi_M_answer.2.1 43 = .ok (.aload_n 0, 1) := by decide +kernel
theorem d_M_answer_44 : decode mi_M_answer.2.1 44 = .ok (.dup, 1) := by decide +kernel
theorem d_M_answer_45 : decode mi_M_answer.2.1 45 = .ok (.getfield 170, 3) := by decide +kernel
theorem d_M_answer_48 : decode mi_M_answer.2.1 48 = .ok (.iconst 1, 1) := by decide +kernel
theorem d_M_answer_49 : decode mi_M_answer.2.1 49 = .ok (.iload_n 1, 1) := by decide +kernel
theorem d_M_answer_50 : decode mi_M_answer.2.1 50 = .ok (.ishl, 1) := by decide +kernel
theorem d_M_answer_51 : decode mi_M_answer.2.1 51 = .ok (.ior, 1) := by decide +kernel
theorem d_M_answer_52 : decode mi_M_answer.2.1 52 = .ok (.putfield 170, 3) := by decide +kernel
theorem d_M_answer_55 : decode mi_M_answer.2.1 55 = .ok (.aload_n 0, 1) := by decide +kernel
theorem d_M_answer_56 : decode mi_M_answer.2.1 56 = .ok (.getfield 40, 3) := by decide +kernel
theorem d_M_answer_59 : decode mi_M_answer.2.1 59 = .ok (.iload_n 1, 1) := by decide +kernel
theorem d_M_answer_60 : decode mi_M_answer.2.1 60 = .ok (.iaload, 1) := by decide +kernel
theorem d_M_answer_61 : decode mi_M_answer.2.1 61 = .ok (.ireturn, 1) := by decide +kernel
theorem d_M_workedOut_0 : decode mi_M_workedOut.2.1 0 = .ok (.aload_n 0, 1) := by decide +kernel
theorem d_M_workedOut_1 : decode mi_M_workedOut.2.1 1 = .ok (.iload_n 2, 1) := by decide +kernel
theorem d_M_workedOut_2 : decode mi_M_workedOut.2.1 2 = .ok (.invokevirtual 84, 3) := by decide +kernel
theorem d_M_workedOut_5 : decode mi_M_workedOut.2.1 5 = .ok (.istore_n 3, 1) := by decide +kernel
theorem d_M_workedOut_6 : decode mi_M_workedOut.2.1 6 = .ok (.aload_n 0, 1) := by decide +kernel
theorem d_M_workedOut_7 : decode mi_M_workedOut.2.1 7 = .ok (.iload_n 1, 1) := by decide +kernel
theorem d_M_workedOut_8 : decode mi_M_workedOut.2.1 8 = .ok (.iload_n 3, 1) := by decide +kernel
theorem d_M_workedOut_9 : decode mi_M_workedOut.2.1 9 = .ok (.invokevirtual 179, 3) := by decide +kernel
theorem d_M_workedOut_12 : decode mi_M_workedOut.2.1 12 = .ok (.istore 4, 2) := by decide +kernel
theorem d_M_workedOut_14 : decode mi_M_workedOut.2.1 14 = .ok (.iload 4, 2) := by decide +kernel
theorem d_M_workedOut_16 : decode mi_M_workedOut.2.1 16 = .ok (.ifCond .lt 24, 3) := by decide +kernel
theorem d_M_workedOut_19 : decode mi_M_workedOut.2.1 19 = .ok (.aload_n 0, 1) := by decide +kernel
theorem d_M_workedOut_20 : decode mi_M_workedOut.2.1 20 = .ok (.aload_n 0, 1) := by decide +kernel
theorem d_M_workedOut_21 : decode mi_M_workedOut.2.1 21 = .ok (.iload_n 1, 1) := by decide +kernel
theorem d_M_workedOut_22 : decode mi_M_workedOut.2.1 22 = .ok (.bipush 20, 2) := by decide +kernel
theorem d_M_workedOut_24 : decode mi_M_workedOut.2.1 24 = .ok (.iconst 2, 1) := by decide +kernel
theorem d_M_workedOut_25 : decode mi_M_workedOut.2.1 25 = .ok (.iload 4, 2) := by decide +kernel
theorem d_M_workedOut_27 : decode mi_M_workedOut.2.1 27 = .ok (.imul, 1) := by decide +kernel
theorem d_M_workedOut_28 : decode mi_M_workedOut.2.1 28 = .ok (.iadd, 1) := by decide +kernel
theorem d_M_workedOut_29 : decode mi_M_workedOut.2.1 29 = .ok (.iconst 1, 1) := by decide +kernel
theorem d_M_workedOut_30 : decode mi_M_workedOut.2.1 30 = .ok (.iadd, 1) := by decide +kernel
theorem d_M_workedOut_31 : decode mi_M_workedOut.2.1 31 = .ok (.invokevirtual 76, 3) := by decide +kernel
theorem d_M_workedOut_34 : decode mi_M_workedOut.2.1 34 = .ok (.iconst 1, 1) := by decide +kernel
theorem d_M_workedOut_35 : decode mi_M_workedOut.2.1 35 = .ok (.iconst (-1), 1) := by decide +kernel
theorem d_M_workedOut_36 : decode mi_M_workedOut.2.1 36 = .ok (.invokevirtual 182, 3) := by decide +kernel
theorem d_M_workedOut_39 : decode mi_M_workedOut.2.1 39 = .ok (.ireturn, 1) := by decide +kernel
theorem d_M_workedOut_40 : decode mi_M_workedOut.2.1 40 = .ok (.aload_n 0, 1) := by decide +kernel
theorem d_M_workedOut_41 : decode mi_M_workedOut.2.1 41 = .ok (.iload_n 1, 1) := by decide +kernel
theorem d_M_workedOut_42 : decode mi_M_workedOut.2.1 42 = .ok (.iconst 1, 1) := by decide +kernel
theorem d_M_workedOut_43 : decode mi_M_workedOut.2.1 43 = .ok (.invokevirtual 76, 3) := by decide +kernel
theorem d_M_workedOut_46 : decode mi_M_workedOut.2.1 46 = .ok (.iconst 1, 1) := by decide +kernel
theorem d_M_workedOut_47 : decode mi_M_workedOut.2.1 47 = .ok (.if_icmp .ne 11, 3) := by decide +kernel
theorem d_M_workedOut_50 : decode mi_M_workedOut.2.1 50 = .ok (.aload_n 0, 1) := by decide +kernel
theorem d_M_workedOut_51 : decode mi_M_workedOut.2.1 51 = .ok (.iconst 0, 1) := by decide +kernel
theorem d_M_workedOut_52 : decode mi_M_workedOut.2.1 52 = .ok (.iconst 2, 1) := by decide +kernel
theorem d_M_workedOut_53 : decode mi_M_workedOut.2.1 53 = .ok (.iconst (-1), 1) := by decide +kernel
theorem d_M_workedOut_54 : decode mi_M_workedOut.2.1 54 = .ok (.invokevirtual 182, 3) := by decide +kernel
theorem d_M_workedOut_57 : decode mi_M_workedOut.2.1 57 = .ok (.ireturn, 1) := by decide +kernel
theorem d_M_workedOut_58 : decode mi_M_workedOut.2.1 58 = .ok (.iconst 0, 1) := by decide +kernel
theorem d_M_workedOut_59 : decode mi_M_workedOut.2.1 59 = .ok (.istore 5, 2) := by decide +kernel
theorem d_M_workedOut_61 : decode mi_M_workedOut.2.1 61 = .ok (.iload 5, 2) := by decide +kernel
theorem d_M_workedOut_63 : decode mi_M_workedOut.2.1 63 = .ok (.aload_n 0, 1) := by decide +kernel
theorem d_M_workedOut_64 : decode mi_M_workedOut.2.1 64 = .ok (.iload_n 1, 1) := by decide +kernel
theorem d_M_workedOut_65 : decode mi_M_workedOut.2.1 65 = .ok (.iconst 5, 1) := by decide +kernel
theorem d_M_workedOut_66 : decode mi_M_workedOut.2.1 66 = .ok (.invokevirtual 76, 3) := by decide +kernel
theorem d_M_workedOut_69 : decode mi_M_workedOut.2.1 69 = .ok (.if_icmp .ge 56, 3) := by decide +kernel
theorem d_M_workedOut_72 : decode mi_M_workedOut.2.1 72 = .ok (.aload_n 0, 1) := by decide +kernel
theorem d_M_workedOut_73 : decode mi_M_workedOut.2.1 73 = .ok (.iload_n 1, 1) := by decide +kernel
theorem d_M_workedOut_74 : decode mi_M_workedOut.2.1 74 = .ok (.bipush 14, 2) := by decide +kernel
theorem d_M_workedOut_76 : decode mi_M_workedOut.2.1 76 = .ok (.iconst 2, 1) := by decide +kernel
theorem d_M_workedOut_77 : decode mi_M_workedOut.2.1 77 = .ok (.iload 5, 2) := by decide +kernel
theorem d_M_workedOut_79 : decode mi_M_workedOut.2.1 79 = .ok (.imul, 1) := by decide +kernel
theorem d_M_workedOut_80 : decode mi_M_workedOut.2.1 80 = .ok (.iadd, 1) := by decide +kernel
theorem d_M_workedOut_81 : decode mi_M_workedOut.2.1 81 = .ok (.invokevirtual 76, 3) := by decide +kernel
theorem d_M_workedOut_84 : decode mi_M_workedOut.2.1 84 = .ok (.istore 6, 2) := by decide +kernel
theorem d_M_workedOut_86 : decode mi_M_workedOut.2.1 86 = .ok (.aload_n 0, 1) := by decide +kernel
theorem d_M_workedOut_87 : decode mi_M_workedOut.2.1 87 = .ok (.iload 6, 2) := by decide +kernel
theorem d_M_workedOut_89 : decode mi_M_workedOut.2.1 89 = .ok (.iload_n 2, 1) := by decide +kernel
theorem d_M_workedOut_90 : decode mi_M_workedOut.2.1 90 = .ok (.invokevirtual 173, 3) := by decide +kernel
theorem d_M_workedOut_93 : decode mi_M_workedOut.2.1 93 = .ok (.aload_n 0, 1) := by decide +kernel
theorem d_M_workedOut_94 : decode mi_M_workedOut.2.1 94 = .ok (.iload_n 1, 1) := by decide +kernel
theorem d_M_workedOut_95 : decode mi_M_workedOut.2.1 95 = .ok (.bipush 14, 2) := by decide +kernel
theorem d_M_workedOut_97 : decode mi_M_workedOut.2.1 97 = .ok (.iconst 2, 1) := by decide +kernel
theorem d_M_workedOut_98 : decode mi_M_workedOut.2.1 98 = .ok (.iload 5, 2) := by decide +kernel
theorem d_M_workedOut_100 : decode mi_M_workedOut.2.1 100 = .ok (.imul, 1) := by decide +kernel
theorem d_M_workedOut_101 : decode mi_M_workedOut.2.1 101 = .ok (.iadd, 1) := by decide +kernel
theorem d_M_workedOut_102 : decode mi_M_workedOut.2.1 102 = .ok (.iconst 1, 1) := by decide +kernel
theorem d_M_workedOut_103 : decode mi_M_workedOut.2.1 103 = .ok (.iadd, 1) := by decide +kernel
theorem d_M_workedOut_104 : decode mi_M_workedOut.2.1 104 = .ok (.invokevirtual 76, 3) := by decide +kernel
theorem d_M_workedOut_107 : decode mi_M_workedOut.2.1 107 = .ok (.if_icmp .eq 12, 3) := by decide +kernel
theorem d_M_workedOut_110 : decode mi_M_workedOut.2.1 110 = .ok (.aload_n 0, 1) := by decide +kernel
theorem d_M_workedOut_111 : decode mi_M_workedOut.2.1 111 = .ok (.iconst 0, 1) := by decide +kernel
theorem d_M_workedOut_112 : decode mi_M_workedOut.2.1 112 = .ok (.iconst 3, 1) := by decide +kernel
theorem d_M_workedOut_113 : decode mi_M_workedOut.2.1 113 = .ok (.iload 6, 2) := by decide +kernel
theorem d_M_workedOut_115 : decode mi_M_workedOut.2.1 115 = .ok (.invokevirtual 182, 3) := by decide +kernel
theorem d_M_workedOut_118 : decode mi_M_workedOut.2.1 118 = .ok (.ireturn, 1) := by decide +kernel
theorem d_M_workedOut_119 : decode mi_M_workedOut.2.1 119 = .ok (.iinc 5 1, 3) := by decide +kernel
theorem d_M_workedOut_122 : decode mi_M_workedOut.2.1 122 = .ok (.goto (-61), 3) := by decide +kernel
theorem d_M_workedOut_125 : decode mi_M_workedOut.2.1 125 = .ok (.aload_n 0, 1) := by decide +kernel
theorem d_M_workedOut_126 : decode mi_M_workedOut.2.1 126 = .ok (.iload_n 1, 1) := by decide +kernel
theorem d_M_workedOut_127 : decode mi_M_workedOut.2.1 127 = .ok (.bipush 7, 2) := by decide +kernel
theorem d_M_workedOut_129 : decode mi_M_workedOut.2.1 129 = .ok (.invokevirtual 76, 3) := by decide +kernel
theorem d_M_workedOut_132 : decode mi_M_workedOut.2.1 132 = .ok (.istore 5, 2) := by decide +kernel
theorem d_M_workedOut_134 : decode mi_M_workedOut.2.1 134 = .ok (.iload 5, 2) := by decide +kernel
theorem d_M_workedOut_136 : decode mi_M_workedOut.2.1 136 = .ok (.ifCond .lt 44, 3) := by decide +kernel
theorem d_M_workedOut_139 : decode mi_M_workedOut.2.1 139 = .ok (.iload 5, 2) := by decide +kernel
theorem d_M_workedOut_141 : decode mi_M_workedOut.2.1 141 = .ok (.bipush 100, 2) := by decide +kernel
theorem d_M_workedOut_143 : decode mi_M_workedOut.2.1 143 = .ok (.iadd, 1) := by decide +kernel
theorem d_M_workedOut_144 : decode mi_M_workedOut.2.1 144 = .ok (.iload_n 3, 1) := by decide +kernel
theorem d_M_workedOut_145 : decode mi_M_workedOut.2.1 145 = .ok (.invokestatic 161, 3) := by decide +kernel
theorem d_M_workedOut_148 : decode mi_M_workedOut.2.1 148 = .ok (.i2l, 1) := by decide +kernel
theorem d_M_workedOut_149 : decode mi_M_workedOut.2.1 149 = .ok (.aload_n 0, 1) := by decide +kernel
theorem d_M_workedOut_150 : decode mi_M_workedOut.2.1 150 = .ok (.iload_n 1, 1) := by decide +kernel
theorem d_M_workedOut_151 : decode mi_M_workedOut.2.1 151 = .ok (.bipush 8, 2) := by decide +kernel
theorem d_M_workedOut_153 : decode mi_M_workedOut.2.1 153 = .ok (.invokevirtual 76, 3) := by decide +kernel
theorem d_M_workedOut_156 : decode mi_M_workedOut.2.1 156 = .ok (.i2l, 1) := by decide +kernel
theorem d_M_workedOut_157 : decode mi_M_workedOut.2.1 157 = .ok (.aload_n 0, 1) := by decide +kernel
theorem d_M_workedOut_158 : decode mi_M_workedOut.2.1 158 = .ok (.iload_n 1, 1) := by decide +kernel
theorem d_M_workedOut_159 : decode mi_M_workedOut.2.1 159 = .ok (.bipush 9, 2) := by decide +kernel
theorem d_M_workedOut_161 : decode mi_M_workedOut.2.1 161 = .ok (.invokevirtual 76, 3) := by decide +kernel
theorem d_M_workedOut_164 : decode mi_M_workedOut.2.1 164 = .ok (.i2l, 1) := by decide +kernel
theorem d_M_workedOut_165 : decode mi_M_workedOut.2.1 165 = .ok (.invokestatic 68, 3) := by decide +kernel
theorem d_M_workedOut_168 : decode mi_M_workedOut.2.1 168 = .ok (.ifCond .ne 12, 3) := by decide +kernel
theorem d_M_workedOut_171 : decode mi_M_workedOut.2.1 171 = .ok (.aload_n 0, 1) := by decide +kernel
theorem d_M_workedOut_172 : decode mi_M_workedOut.2.1 172 = .ok (.iconst 0, 1) := by decide +kernel
theorem d_M_workedOut_173 : decode mi_M_workedOut.2.1 173 = .ok (.iconst 4, 1) := by decide +kernel
theorem d_M_workedOut_174 : decode mi_M_workedOut.2.1 174 = .ok (.iload 5, 2) := by decide +kernel
theorem d_M_workedOut_176 : decode mi_M_workedOut.2.1 176 = .ok (.invokevirtual 182, 3) := by decide +kernel
theorem d_M_workedOut_179 : decode mi_M_workedOut.2.1 179 = .ok (.ireturn, 1) := by decide +kernel
theorem d_M_workedOut_180 : decode mi_M_workedOut.2.1 180 = .ok (.aload_n 0, 1) := by decide +kernel
theorem d_M_workedOut_181 : decode mi_M_workedOut.2.1 181 = .ok (.iload_n 1, 1) := by decide +kernel
theorem d_M_workedOut_182 : decode mi_M_workedOut.2.1 182 = .ok (.bipush 36, 2) := by decide +kernel
theorem d_M_workedOut_184 : decode mi_M_workedOut.2.1 184 = .ok (.iload_n 2, 1) := by decide +kernel
theorem d_M_workedOut_185 : decode mi_M_workedOut.2.1 185 = .ok (.iadd, 1) := by decide +kernel
theorem d_M_workedOut_186 : decode mi_M_workedOut.2.1 186 = .ok (.invokevirtual 76, 3) := by decide +kernel
theorem d_M_workedOut_189 : decode mi_M_workedOut.2.1 189 = .ok (.ifCond .le 19, 3) := by decide +kernel
theorem d_M_workedOut_192 : decode mi_M_workedOut.2.1 192 = .ok (.aload_n 0, 1) := by decide +kernel
theorem d_M_workedOut_193 : decode mi_M_workedOut.2.1 193 = .ok (.aload_n 0, 1) := by decide +kernel
theorem d_M_workedOut_194 : decode mi_M_workedOut.2.1 194 = .ok (.iload_n 1, 1) := by decide +kernel
theorem d_M_workedOut_195 : decode mi_M_workedOut.2.1 195 = .ok (.bipush 36, 2) := by decide +kernel
theorem d_M_workedOut_197 : decode mi_M_workedOut.2.1 197 = .ok (.iload_n 2, 1) := by decide +kernel
theorem d_M_workedOut_198 : decode mi_M_workedOut.2.1 198 = .ok (.iadd, 1) := by decide +kernel
theorem d_M_workedOut_199 : decode mi_M_workedOut.2.1 199 = .ok (.invokevirtual 76, 3) := by decide +kernel
theorem d_M_workedOut_202 : decode mi_M_workedOut.2.1 202 = .ok (.iconst 5, 1) := by decide +kernel
theorem d_M_workedOut_203 : decode mi_M_workedOut.2.1 203 = .ok (.iconst (-1), 1) := by decide +kernel
theorem d_M_workedOut_204 : decode mi_M_workedOut.2.1 204 = .ok (.invokevirtual 182, 3) := by decide +kernel
theorem d_M_workedOut_207 : decode mi_M_workedOut.2.1 207 = .ok (.ireturn, 1) := by decide +kernel
theorem d_M_workedOut_208 : decode mi_M_workedOut.2.1 208 = .ok (.iconst 0, 1) := by decide +kernel
theorem d_M_workedOut_209 : decode mi_M_workedOut.2.1 209 = .ok (.istore 6, 2) := by decide +kernel
theorem d_M_workedOut_211 : decode mi_M_workedOut.2.1 211 = .ok (.iload 6, 2) := by decide +kernel
theorem d_M_workedOut_213 : decode mi_M_workedOut.2.1 213 = .ok (.aload_n 0, 1) := by decide +kernel
theorem d_M_workedOut_214 : decode mi_M_workedOut.2.1 214 = .ok (.iload_n 1, 1) := by decide +kernel
theorem d_M_workedOut_215 : decode mi_M_workedOut.2.1 215 = .ok (.iconst 4, 1) := by decide +kernel
theorem d_M_workedOut_216 : decode mi_M_workedOut.2.1 216 = .ok (.invokevirtual 76, 3) := by decide +kernel
theorem d_M_workedOut_219 : decode mi_M_workedOut.2.1 219 = .ok (.if_icmp .ge 70, 3) := by decide +kernel
theorem d_M_workedOut_222 : decode mi_M_workedOut.2.1 222 = .ok (.aload_n 0, 1) := by decide +kernel
theorem d_M_workedOut_223 : decode mi_M_workedOut.2.1 223 = .ok (.aload_n 0, 1) := by decide +kernel
theorem d_M_workedOut_224 : decode mi_M_workedOut.2.1 224 = .ok (.iload_n 1, 1) := by decide +kernel
theorem d_M_workedOut_225 : decode mi_M_workedOut.2.1 225 = .ok (.iload 6, 2) := by decide +kernel
theorem d_M_workedOut_227 : decode mi_M_workedOut.2.1 227 = .ok (.invokevirtual 185, 3) := by decide +kernel
theorem d_M_workedOut_230 : decode mi_M_workedOut.2.1 230 = .ok (.iload_n 2, 1) := by decide +kernel
theorem d_M_workedOut_231 : decode mi_M_workedOut.2.1 231 = .ok (.invokevirtual 100, 3) := by decide +kernel
theorem d_M_workedOut_234 : decode mi_M_workedOut.2.1 234 = .ok (.ifCond .eq 49, 3) := by decide +kernel
theorem d_M_workedOut_237 : decode mi_M_workedOut.2.1 237 = .ok (.aload_n 0, 1) := by decide +kernel
theorem d_M_workedOut_238 : decode mi_M_workedOut.2.1 238 = .ok (.aload_n 0, 1) := by decide +kernel
theorem d_M_workedOut_239 : decode mi_M_workedOut.2.1 239 = .ok (.iload_n 1, 1) := by decide +kernel
theorem d_M_workedOut_240 : decode mi_M_workedOut.2.1 240 = .ok (.iload 6, 2) := by decide +kernel
theorem d_M_workedOut_242 : decode mi_M_workedOut.2.1 242 = .ok (.invokevirtual 188, 3) := by decide +kernel
theorem d_M_workedOut_245 : decode mi_M_workedOut.2.1 245 = .ok (.ifCond .eq 22, 3) := by decide +kernel
theorem d_M_workedOut_248 : decode mi_M_workedOut.2.1 248 = .ok (.aload_n 0, 1) := by decide +kernel
theorem d_M_workedOut_249 : decode mi_M_workedOut.2.1 249 = .ok (.getfield 9, 3) := by decide +kernel
theorem d_M_workedOut_252 : decode mi_M_workedOut.2.1 252 = .ok (.iload_n 1, 1) := by decide +kernel
theorem d_M_workedOut_253 : decode mi_M_workedOut.2.1 253 = .ok (.iload 6, 2) := by decide +kernel
theorem d_M_workedOut_255 : decode mi_M_workedOut.2.1 255 = .ok (.iconst 1, 1) := by decide +kernel
theorem d_M_workedOut_256 : decode mi_M_workedOut.2.1 256 = .ok (.invokestatic 80, 3) := by decide +kernel
theorem d_M_workedOut_259 : decode mi_M_workedOut.2.1 259 = .ok (.iaload, 1) := by decide +kernel
theorem d_M_workedOut_260 : decode mi_M_workedOut.2.1 260 = .ok (.sipush 1000, 3) := by decide +kernel
theorem d_M_workedOut_263 : decode mi_M_workedOut.2.1 263 = .ok (.isub, 1) := by decide +kernel
theorem d_M_workedOut_264 : decode mi_M_workedOut.2.1 264 = .ok (.goto 11, 3) := by decide +kernel
theorem d_M_workedOut_267 : decode mi_M_workedOut.2.1 267 = .ok (.aload_n 0, 1) := by decide +kernel
theorem d_M_workedOut_268 : decode mi_M_workedOut.2.1 268 = .ok (.iload_n 1, 1) := by decide +kernel
theorem d_M_workedOut_269 : decode mi_M_workedOut.2.1 269 = .ok (.iload 6, 2) := by decide +kernel
theorem d_M_workedOut_271 : decode mi_M_workedOut.2.1 271 = .ok (.iload_n 3, 1) := by decide +kernel
theorem d_M_workedOut_272 : decode mi_M_workedOut.2.1 272 = .ok (.invokevirtual 191, 3) := by decide +kernel
theorem d_M_workedOut_275 : decode mi_M_workedOut.2.1 275 = .ok (.bipush 6, 2) := by decide +kernel
theorem d_M_workedOut_277 : decode mi_M_workedOut.2.1 277 = .ok (.iload 6, 2) := by decide +kernel
theorem d_M_workedOut_279 : decode mi_M_workedOut.2.1 279 = .ok (.invokevirtual 182, 3) := by decide +kernel
theorem d_M_workedOut_282 : decode mi_M_workedOut.2.1 282 = .ok (.ireturn, 1) := by decide +kernel
theorem d_M_workedOut_283 : decode mi_M_workedOut.2.1 283 = .ok (.iinc 6 1, 3) := by decide +kernel
theorem d_M_workedOut_286 : decode mi_M_workedOut.2.1 286 = .ok (.goto (-75), 3) := by decide +kernel
theorem d_M_workedOut_289 : decode mi_M_workedOut.2.1 289 = .ok (.aload_n 0, 1) := by decide +kernel
theorem d_M_workedOut_290 : decode mi_M_workedOut.2.1 290 = .ok (.aload_n 0, 1) := by decide +kernel
theorem d_M_workedOut_291 : decode mi_M_workedOut.2.1 291 = .ok (.iload_n 1, 1) := by decide +kernel
theorem d_M_workedOut_292 : decode mi_M_workedOut.2.1 292 = .ok (.iconst 3, 1) := by decide +kernel
theorem d_M_workedOut_293 : decode mi_M_workedOut.2.1 293 = .ok (.invokevirtual 76, 3) := by decide +kernel
theorem d_M_workedOut_296 : decode mi_M_workedOut.2.1 296 = .ok (.bipush 7, 2) := by decide +kernel
theorem d_M_workedOut_298 : decode mi_M_workedOut.2.1 298 = .ok (.iconst (-1), 1) := by decide +kernel
theorem d_M_workedOut_299 : decode mi_M_workedOut.2.1 299 = .ok (.invokevirtual 182, 3) := by decide +kernel
theorem d_M_workedOut_302 : decode mi_M_workedOut.2.1 302 = .ok (.ireturn, 1) := by decide +kernel
theorem d_M_overrideOf_0 : decode mi_M_overrideOf.2.1 0 = .ok (.iconst 0, 1) := by decide +kernel
theorem d_M_overrideOf_1 : decode mi_M_overrideOf.2.1 1 = .ok (.istore_n 3, 1) := by decide +kernel
theorem d_M_overrideOf_2 : decode mi_M_overrideOf.2.1 2 = .ok (.iload_n 3, 1) := by decide +kernel
theorem d_M_overrideOf_3 : decode mi_M_overrideOf.2.1 3 = .ok (.aload_n 0, 1) := by decide +kernel
theorem d_M_overrideOf_4 : decode mi_M_overrideOf.2.1 4 = .ok (.iload_n 1, 1) := by decide +kernel
theorem d_M_overrideOf_5 : decode mi_M_overrideOf.2.1 5 = .ok (.bipush 6, 2) := by decide +kernel
theorem d_M_overrideOf_7 : decode mi_M_overrideOf.2.1 7 = .ok (.invokevirtual 76, 3) := by decide +kernel
theorem d_M_overrideOf_10 : decode mi_M_overrideOf.2.1 10 = .ok (.if_icmp .ge 26, 3) := by decide +kernel
theorem d_M_overrideOf_13 : decode mi_M_overrideOf.2.1 13 = .ok (.aload_n 0, 1) := by decide +kernel
theorem d_M_overrideOf_14 : decode mi_M_overrideOf.2.1 14 = .ok (.iload_n 1, 1) := by decide +kernel
theorem d_M_overrideOf_15 : decode mi_M_overrideOf.2.1 15 = .ok (.bipush 20, 2) := by decide +kernel
theorem d_M_overrideOf_17 : decode mi_M_overrideOf.2.1 17 = .ok (.iconst 2, 1) := by decide +kernel
theorem d_M_overrideOf_18 : decode mi_M_overrideOf.2.1 18 = .ok (.iload_n 3, 1) := by decide +kernel
theorem d_M_overrideOf_19 : decode mi_M_overrideOf.2.1 19 = .ok (.imul, 1) := by decide +kernel
theorem d_M_overrideOf_20 : decode mi_M_overrideOf.2.1 20 = .ok (.iadd, 1) := by decide +kernel
theorem d_M_overrideOf_21 : decode mi_M_overrideOf.2.1 21 = .ok (.invokevirtual 76, 3) := by decide +kernel
theorem d_M_overrideOf_24 : decode mi_M_overrideOf.2.1 24 = .ok (.iload_n 2, 1) := by decide +kernel
theorem d_M_overrideOf_25 : decode mi_M_overrideOf.2.1 25 = .ok (.if_icmp .ne 5, 3) := by decide +kernel
theorem d_M_overrideOf_28 : decode mi_M_overrideOf.2.1 28 = .ok (.iload_n 3, 1) := by decide +kernel
theorem d_M_overrideOf_29 : decode mi_M_overrideOf.2.1 29 = .ok (.ireturn, 1) := by decide +kernel
theorem d_M_overrideOf_30 : decode mi_M_overrideOf.2.1 30 = .ok (.iinc 3 1, 3) := by decide +kernel
theorem d_M_overrideOf_33 : decode mi_M_overrideOf.2.1 33 = .ok (.goto (-31), 3) := by decide +kernel
theorem d_M_overrideOf_36 : decode mi_M_overrideOf.2.1 36 = .ok (.iconst (-1), 1) := by decide +kernel
theorem d_M_overrideOf_37 : decode mi_M_overrideOf.2.1 37 = .ok (.ireturn, 1) := by decide +kernel
theorem d_M_isIt_0 : decode mi_M_isIt.2.1 0 = .ok (.aload_n 0, 1) := by decide +kernel
theorem d_M_isIt_1 : decode mi_M_isIt.2.1 1 = .ok (.iload_n 2, 1) := by decide +kernel
theorem d_M_isIt_2 : decode mi_M_isIt.2.1 2 = .ok (.putfield 164, 3) := by decide +kernel
theorem d_M_isIt_5 : decode mi_M_isIt.2.1 5 = .ok (.aload_n 0, 1) := by decide +kernel
theorem d_M_isIt_6 : decode mi_M_isIt.2.1 6 = .ok (.iload_n 3, 1) := by decide +kernel
theorem d_M_isIt_7 : decode mi_M_isIt.2.1 7 = .ok (.putfield 167, 3) := by decide +kernel
theorem d_M_isIt_10 : decode mi_M_isIt.2.1 10 = .ok (.iload_n 1, 1) := by decide +kernel
theorem d_M_isIt_11 : decode mi_M_isIt.2.1 11 = .ok (.ireturn, 1) := by decide +kernel
theorem d_M_bucketOf_0 : decode mi_M_bucketOf.2.1 0 = .ok (.iload_n 1, 1) := by decide +kernel
theorem d_M_bucketOf_1 : decode mi_M_bucketOf.2.1 1 = .ok (.bipush 101, 2) := by decide +kernel
theorem d_M_bucketOf_3 : decode mi_M_bucketOf.2.1 3 = .ok (.iload_n 0, 1) := by decide +kernel
theorem d_M_bucketOf_4 : decode mi_M_bucketOf.2.1 4 = .ok (.imul, 1) := by decide +kernel
theorem d_M_bucketOf_5 : decode mi_M_bucketOf.2.1 5 = .ok (.iadd, 1) := by decide +kernel
theorem d_M_bucketOf_6 : decode mi_M_bucketOf.2.1 6 = .ok (.istore_n 2, 1) := by decide +kernel
theorem d_M_bucketOf_7 : decode mi_M_bucketOf.2.1 7 = .ok (.iconst 0, 1) := by decide +kernel
theorem d_M_bucketOf_8 : decode mi_M_bucketOf.2.1 8 = .ok (.istore_n 3, 1) := by decide +kernel
theorem d_M_bucketOf_9 : decode mi_M_bucketOf.2.1 9 = .ok (.iload_n 3, 1) := by decide +kernel
theorem d_M_bucketOf_10 : decode mi_M_bucketOf.2.1 10 = .ok (.iconst 2, 1) := by decide +kernel
theorem d_M_bucketOf_11 : decode mi_M_bucketOf.2.1 11 = .ok (.if_icmp .ge 21, 3) := by decide +kernel
theorem d_M_bucketOf_14 : decode mi_M_bucketOf.2.1 14 = .ok (.iload_n 2, 1) := by decide +kernel
theorem d_M_bucketOf_15 : decode mi_M_bucketOf.2.1 15 = .ok (.iload_n 2, 1) := by decide +kernel
theorem d_M_bucketOf_16 : decode mi_M_bucketOf.2.1 16 = .ok (.bipush 16, 2) := by decide +kernel
theorem d_M_bucketOf_18 : decode mi_M_bucketOf.2.1 18 = .ok (.iushr, 1) := by decide +kernel
theorem d_M_bucketOf_19 : decode mi_M_bucketOf.2.1 19 = .ok (.ixor, 1) := by decide +kernel
theorem d_M_bucketOf_20 : decode mi_M_bucketOf.2.1 20 = .ok (.istore_n 2, 1) := by decide +kernel
theorem d_M_bucketOf_21 : decode mi_M_bucketOf.2.1 21 = .ok (.iload_n 2, 1) := by decide +kernel
theorem d_M_bucketOf_22 : decode mi_M_bucketOf.2.1 22 = .ok (.ldc 88, 2) := by decide +kernel
theorem d_M_bucketOf_24 : decode mi_M_bucketOf.2.1 24 = .ok (.imul, 1) := by decide +kernel
theorem d_M_bucketOf_25 : decode mi_M_bucketOf.2.1 25 = .ok (.istore_n 2, 1) := by decide +kernel
theorem d_M_bucketOf_26 : decode mi_M_bucketOf.2.1 26 = .ok (.iinc 3 1, 3) := by decide +kernel
theorem d_M_bucketOf_29 : decode mi_M_bucketOf.2.1 29 = .ok (.goto (-20), 3) := by decide +kernel
theorem d_M_bucketOf_32 : decode mi_M_bucketOf.2.1 32 = .ok (.iload_n 2, 1) := by decide +kernel
theorem d_M_bucketOf_33 : decode mi_M_bucketOf.2.1 33 = .ok (.iload_n 2, 1) := by decide +kernel
theorem d_M_bucketOf_34 : decode mi_M_bucketOf.2.1 34 = .ok (.bipush 16, 2) := by decide +kernel
theorem d_M_bucketOf_36 : decode mi_M_bucketOf.2.1 36 = .ok (.iushr, 1) := by decide +kernel
theorem d_M_bucketOf_37 : decode mi_M_bucketOf.2.1 37 = .ok (.ixor, 1) := by decide +kernel
theorem d_M_bucketOf_38 : decode mi_M_bucketOf.2.1 38 = .ok (.istore_n 2, 1) := by decide +kernel
theorem d_M_bucketOf_39 : decode mi_M_bucketOf.2.1 39 = .ok (.iload_n 2, 1) := by decide +kernel
theorem d_M_bucketOf_40 : decode mi_M_bucketOf.2.1 40 = .ok (.iconst 1, 1) := by decide +kernel
theorem d_M_bucketOf_41 : decode mi_M_bucketOf.2.1 41 = .ok (.iushr, 1) := by decide +kernel
theorem d_M_bucketOf_42 : decode mi_M_bucketOf.2.1 42 = .ok (.sipush 1000, 3) := by decide +kernel
theorem d_M_bucketOf_45 : decode mi_M_bucketOf.2.1 45 = .ok (.irem, 1) := by decide +kernel
theorem d_M_bucketOf_46 : decode mi_M_bucketOf.2.1 46 = .ok (.ireturn, 1) := by decide +kernel
theorem d_M_tree_0 : decode mi_M_tree.2.1 0 = .ok (.aload_n 0, 1) := by decide +kernel
theorem d_M_tree_1 : decode mi_M_tree.2.1 1 = .ok (.getfield 9, 3) := by decide +kernel
theorem d_M_tree_4 : decode mi_M_tree.2.1 4 = .ok (.iload_n 1, 1) := by decide +kernel
theorem d_M_tree_5 : decode mi_M_tree.2.1 5 = .ok (.iload_n 2, 1) := by decide +kernel
theorem d_M_tree_6 : decode mi_M_tree.2.1 6 = .ok (.iconst 0, 1) := by decide +kernel
theorem d_M_tree_7 : decode mi_M_tree.2.1 7 = .ok (.invokestatic 80, 3) := by decide +kernel
theorem d_M_tree_10 : decode mi_M_tree.2.1 10 = .ok (.iaload, 1) := by decide +kernel
theorem d_M_tree_11 : decode mi_M_tree.2.1 11 = .ok (.ireturn, 1) := by decide +kernel
theorem d_M_isSo_0 : decode mi_M_isSo.2.1 0 = .ok (.aload_n 0, 1) := by decide +kernel
theorem d_M_isSo_1 : decode mi_M_isSo.2.1 1 = .ok (.getfield 9, 3) := by decide +kernel
theorem d_M_isSo_4 : decode mi_M_isSo.2.1 4 = .ok (.bipush 6, 2) := by decide +kernel
theorem d_M_isSo_6 : decode mi_M_isSo.2.1 6 = .ok (.iconst 2, 1) := by decide +kernel
theorem d_M_isSo_7 : decode mi_M_isSo.2.1 7 = .ok (.iload_n 2, 1) := by decide +kernel
theorem d_M_isSo_8 : decode mi_M_isSo.2.1 8 = .ok (.imul, 1) := by decide +kernel
theorem d_M_isSo_9 : decode mi_M_isSo.2.1 9 = .ok (.iadd, 1) := by decide +kernel
theorem d_M_isSo_10 : decode mi_M_isSo.2.1 10 = .ok (.iconst 1, 1) := by decide +kernel
theorem d_M_isSo_11 : decode mi_M_isSo.2.1 11 = .ok (.iadd, 1) := by decide +kernel
theorem d_M_isSo_12 : decode mi_M_isSo.2.1 12 = .ok (.iaload, 1) := by decide +kernel
theorem d_M_isSo_13 : decode mi_M_isSo.2.1 13 = .ok (.aload_n 0, 1) := by decide +kernel
theorem d_M_isSo_14 : decode mi_M_isSo.2.1 14 = .ok (.getfield 25, 3) := by decide +kernel
theorem d_M_isSo_17 : decode mi_M_isSo.2.1 17 = .ok (.iload_n 1, 1) := by decide +kernel
theorem d_M_isSo_18 : decode mi_M_isSo.2.1 18 = .ok (.iaload, 1) := by decide +kernel
theorem d_M_isSo_19 : decode mi_M_isSo.2.1 19 = .ok (.invokestatic 97, 3) := by decide +kernel
theorem d_M_isSo_22 : decode mi_M_isSo.2.1 22 = .ok (.istore_n 3, 1) := by decide +kernel
theorem d_M_isSo_23 : decode mi_M_isSo.2.1 23 = .ok (.aload_n 0, 1) := by decide +kernel
theorem d_M_isSo_24 : decode mi_M_isSo.2.1 24 = .ok (.getfield 22, 3) := by decide +kernel
theorem d_M_isSo_27 : decode mi_M_isSo.2.1 27 = .ok (.iload_n 1, 1) := by decide +kernel
theorem d_M_isSo_28 : decode mi_M_isSo.2.1 28 = .ok (.iaload, 1) := by decide +kernel
theorem d_M_isSo_29 : decode mi_M_isSo.2.1 29 = .ok (.tableswitch 225 3 8 #[39, 225, 59, 133, 157, 191], 39) := by decide +kernel
theorem d_M_isSo_68 : decode mi_M_isSo.2.1 68 = .ok (.aload_n 0, 1) := by decide +kernel
theorem d_M_isSo_69 : decode mi_M_isSo.2.1 69 = .ok (.aload_n 0, 1) := by decide +kernel
theorem d_M_isSo_70 : decode mi_M_isSo.2.1 70 = .ok (.getfield 25, 3) := by decide +kernel
theorem d_M_isSo_73 : decode mi_M_isSo.2.1 73 = .ok (.iload_n 1, 1) := by decide +kernel
theorem d_M_isSo_74 : decode mi_M_isSo.2.1 74 = .ok (.iaload, 1) := by decide +kernel
theorem d_M_isSo_75 : decode mi_M_isSo.2.1 75 = .ok (.iload_n 2, 1) := by decide +kernel
theorem d_M_isSo_76 : decode mi_M_isSo.2.1 76 = .ok (.invokevirtual 100, 3) := by decide +kernel
theorem d_M_isSo_79 : decode mi_M_isSo.2.1 79 = .ok (.ifCond .ne 7, 3) := by decide +kernel
theorem d_M_isSo_82 : decode mi_M_isSo.2.1 82 = .ok (.iconst 1, 1) := by decide +kernel
theorem d_M_isSo_83 : decode mi_M_isSo.2.1 83 = .ok (.goto 4, 3) := by decide +kernel
theorem d_M_isSo_86 : decode mi_M_isSo.2.1 86 = .ok (.iconst 0, 1) := by decide +kernel
theorem d_M_isSo_87 : decode mi_M_isSo.2.1 87 = .ok (.ireturn, 1) := by decide +kernel
theorem d_M_isSo_88 : decode mi_M_isSo.2.1 88 = .ok (.aload_n 0, 1) := by decide +kernel
theorem d_M_isSo_89 : decode mi_M_isSo.2.1 89 = .ok (.getfield 31, 3) := by decide +kernel
theorem d_M_isSo_92 : decode mi_M_isSo.2.1 92 = .ok (.iload_n 1, 1) := by decide +kernel
theorem d_M_isSo_93 : decode mi_M_isSo.2.1 93 = .ok (.iaload, 1) := by decide +kernel
theorem d_M_isSo_94 : decode mi_M_isSo.2.1 94 = .ok (.bipush 60, 2) := by decide +kernel
theorem d_M_isSo_96 : decode mi_M_isSo.2.1 96 = .ok (.if_icmp .ne 21, 3) := by decide +kernel
theorem d_M_isSo_99 : decode mi_M_isSo.2.1 99 = .ok (.iload_n 3, 1) := by decide +kernel
theorem d_M_isSo_100 : decode mi_M_isSo.2.1 100 = .ok (.aload_n 0, 1) := by decide +kernel
theorem d_M_isSo_101 : decode mi_M_isSo.2.1 101 = .ok (.getfield 28, 3) := by decide +kernel
theorem d_M_isSo_104 : decode mi_M_isSo.2.1 104 = .ok (.iload_n 1, 1) := by decide +kernel
theorem d_M_isSo_105 : decode mi_M_isSo.2.1 105 = .ok (.iaload, 1) := by decide +kernel
theorem d_M_isSo_106 : decode mi_M_isSo.2.1 106 = .ok (.if_icmp .ge 7, 3) := by decide +kernel
theorem d_M_isSo_109 : decode mi_M_isSo.2.1 109 = .ok (.iconst 1, 1) := by decide +kernel
theorem d_M_isSo_110 : decode mi_M_isSo.2.1 110 = .ok (.goto 51, 3) := by decide +kernel
theorem d_M_isSo_113 : decode mi_M_isSo.2.1 113 = .ok (.iconst 0, 1) := by decide +kernel
theorem d_M_isSo_114 : decode mi_M_isSo.2.1 114 = .ok (.goto 47, 3) := by decide +kernel
theorem d_M_isSo_117 : decode mi_M_isSo.2.1 117 = .ok (.aload_n 0, 1) := by decide +kernel
theorem d_M_isSo_118 : decode mi_M_isSo.2.1 118 = .ok (.getfield 31, 3) := by decide +kernel
theorem d_M_isSo_121 : decode mi_M_isSo.2.1 121 = .ok (.iload_n 1, 1) := by decide +kernel
theorem d_M_isSo_122 : decode mi_M_isSo.2.1 122 = .ok (.iaload, 1) := by decide +kernel
theorem d_M_isSo_123 : decode mi_M_isSo.2.1 123 = .ok (.bipush 61, 2) := by decide +kernel
theorem d_M_isSo_125 : decode mi_M_isSo.2.1 125 = .ok (.if_icmp .ne 21, 3) := by decide +kernel
theorem d_M_isSo_128 : decode mi_M_isSo.2.1 128 = .ok (.iload_n 3, 1) := by decide +kernel
theorem d_M_isSo_129 : decode mi_M_isSo.2.1 129 = .ok (.aload_n 0, 1) := by decide +kernel
theorem d_M_isSo_130 : decode mi_M_isSo.2.1 130 = .ok (.getfield 28, 3) := by decide +kernel
theorem d_M_isSo_133 : decode mi_M_isSo.2.1 133 = .ok (.iload_n 1, 1) := by decide +kernel
theorem d_M_isSo_134 : decode mi_M_isSo.2.1 134 = .ok (.iaload, 1) := by decide +kernel
theorem d_M_isSo_135 : decode mi_M_isSo.2.1 135 = .ok (.if_icmp .ne 7, 3) := by decide +kernel
theorem d_M_isSo_138 : decode mi_M_isSo.2.1 138 = .ok (.iconst 1, 1) := by decide +kernel
theorem d_M_isSo_139 : decode mi_M_isSo.2.1 139 = .ok (.goto 22, 3) := by decide +kernel
theorem d_M_isSo_142 : decode mi_M_isSo.2.1 142 = .ok (.iconst 0, 1) := by decide +kernel
theorem d_M_isSo_143 : decode mi_M_isSo.2.1 143 = .ok (.goto 18, 3) := by decide +kernel
theorem d_M_isSo_146 : decode mi_M_isSo.2.1 146 = .ok (.iload_n 3, 1) := by decide +kernel
theorem d_M_isSo_147 : decode mi_M_isSo.2.1 147 = .ok (.aload_n 0, 1) := by decide +kernel
theorem d_M_isSo_148 : decode mi_M_isSo.2.1 148 = .ok (.getfield 28, 3) := by decide +kernel
theorem d_M_isSo_151 : decode mi_M_isSo.2.1 151 = .ok (.iload_n 1, 1) := by decide +kernel
theorem d_M_isSo_152 : decode mi_M_isSo.2.1 152 = .ok (.iaload, 1) := by decide +kernel
theorem d_M_isSo_153 : decode mi_M_isSo.2.1 153 = .ok (.if_icmp .le 7, 3) := by decide +kernel
theorem d_M_isSo_156 : decode mi_M_isSo.2.1 156 = .ok (.iconst 1, 1) := by decide +kernel
theorem d_M_isSo_157 : decode mi_M_isSo.2.1 157 = .ok (.goto 4, 3) := by decide +kernel
theorem d_M_isSo_160 : decode mi_M_isSo.2.1 160 = .ok (.iconst 0, 1) := by decide +kernel
theorem d_M_isSo_161 : decode mi_M_isSo.2.1 161 = .ok (.ireturn, 1) := by decide +kernel
theorem d_M_isSo_162 : decode mi_M_isSo.2.1 162 = .ok (.aload_n 0, 1) := by decide +kernel
theorem d_M_isSo_163 : decode mi_M_isSo.2.1 163 = .ok (.iload_n 2, 1) := by decide +kernel
theorem d_M_isSo_164 : decode mi_M_isSo.2.1 164 = .ok (.invokevirtual 84, 3) := by decide +kernel
theorem d_M_isSo_167 : decode mi_M_isSo.2.1 167 = .ok (.i2l, 1) := by decide +kernel
theorem d_M_isSo_168 : decode mi_M_isSo.2.1 168 = .ok (.aload_n 0, 1) := by decide +kernel
theorem d_M_isSo_169 : decode mi_M_isSo.2.1 169 = .ok (.getfield 25, 3) := by decide +kernel
theorem d_M_isSo_172 : decode mi_M_isSo.2.1 172 = .ok (.iload_n 1, 1) := by decide +kernel
theorem d_M_isSo_173 : decode mi_M_isSo.2.1 173 = .ok (.iaload, 1) := by decide +kernel
theorem d_M_isSo_174 : decode mi_M_isSo.2.1 174 = .ok (.i2l, 1) := by decide +kernel
theorem d_M_isSo_175 : decode mi_M_isSo.2.1 175 = .ok (.aload_n 0, 1) := by decide +kernel
theorem d_M_isSo_176 : decode mi_M_isSo.2.1 176 = .ok (.getfield 28, 3) := by decide +kernel
theorem d_M_isSo_179 : decode mi_M_isSo.2.1 179 = .ok (.iload_n 1, 1) := by decide +kernel
theorem d_M_isSo_180 : decode mi_M_isSo.2.1 180 = .ok (.iaload, 1) := by decide +kernel
theorem d_M_isSo_181 : decode mi_M_isSo.2.1 181 = .ok (.i2l, 1) := by decide +kernel
theorem d_M_isSo_182 : decode mi_M_isSo.2.1 182 = .ok (.invokestatic 68, 3) := by decide +kernel
theorem d_M_isSo_185 : decode mi_M_isSo.2.1 185 = .ok (.ireturn, 1) := by decide +kernel
theorem d_M_isSo_186 : decode mi_M_isSo.2.1 186 = .ok (.aload_n 0, 1) := by decide +kernel
theorem d_M_isSo_187 : decode mi_M_isSo.2.1 187 = .ok (.aload_n 0, 1) := by decide +kernel
theorem d_M_isSo_188 : decode mi_M_isSo.2.1 188 = .ok (.getfield 25, 3) := by decide +kernel
theorem d_M_isSo_191 : decode mi_M_isSo.2.1 191 = .ok (.iload_n 1, 1) := by decide +kernel
theorem d_M_isSo_192 : decode mi_M_isSo.2.1 192 = .ok (.iaload, 1) := by decide +kernel
theorem d_M_isSo_193 : decode mi_M_isSo.2.1 193 = .ok (.iload_n 2, 1) := by decide +kernel
theorem d_M_isSo_194 : decode mi_M_isSo.2.1 194 = .ok (.invokevirtual 100, 3) := by decide +kernel
theorem d_M_isSo_197 : decode mi_M_isSo.2.1 197 = .ok (.ifCond .eq 21, 3) := by decide +kernel
theorem d_M_isSo_200 : decode mi_M_isSo.2.1 200 = .ok (.aload_n 0, 1) := by decide +kernel
theorem d_M_isSo_201 : decode mi_M_isSo.2.1 201 = .ok (.aload_n 0, 1) := by decide +kernel
theorem d_M_isSo_202 : decode mi_M_isSo.2.1 202 = .ok (.getfield 28, 3) := by decide +kernel
theorem d_M_isSo_205 : decode mi_M_isSo.2.1 205 = .ok (.iload_n 1, 1) := by decide +kernel
theorem d_M_isSo_206 : decode mi_M_isSo.2.1 206 = .ok (.iaload, 1) := by decide +kernel
theorem d_M_isSo_207 : decode mi_M_isSo.2.1 207 = .ok (.iload_n 2, 1) := by decide +kernel
theorem d_M_isSo_208 : decode mi_M_isSo.2.1 208 = .ok (.invokevirtual 100, 3) := by decide +kernel
theorem d_M_isSo_211 : decode mi_M_isSo.2.1 211 = .ok (.ifCond .eq 7, 3) := by decide +kernel
theorem d_M_isSo_214 : decode mi_M_isSo.2.1 214 = .ok (.iconst 1, 1) := by decide +kernel
theorem d_M_isSo_215 : decode mi_M_isSo.2.1 215 = .ok (.goto 4, 3) := by decide +kernel
theorem d_M_isSo_218 : decode mi_M_isSo.2.1 218 = .ok (.iconst 0, 1) := by decide +kernel
theorem d_M_isSo_219 : decode mi_M_isSo.2.1 219 = .ok (.ireturn, 1) := by decide +kernel
theorem d_M_isSo_220 : decode mi_M_isSo.2.1 220 = .ok (.aload_n 0, 1) := by decide +kernel
theorem d_M_isSo_221 : decode mi_M_isSo.2.1 221 = .ok (.aload_n 0, 1) := by decide +kernel
theorem d_M_isSo_222 : decode mi_M_isSo.2.1 222 = .ok (.getfield 25, 3) := by decide +kernel
theorem d_M_isSo_225 : decode mi_M_isSo.2.1 225 = .ok (.iload_n 1, 1) := by decide +kernel
theorem d_M_isSo_226 : decode mi_M_isSo.2.1 226 = .ok (.iaload, 1) := by decide +kernel
theorem d_M_isSo_227 : decode mi_M_isSo.2.1 227 = .ok (.iload_n 2, 1) := by decide +kernel
theorem d_M_isSo_228 : decode mi_M_isSo.2.1 228 = .ok (.invokevirtual 100, 3) := by decide +kernel
theorem d_M_isSo_231 : decode mi_M_isSo.2.1 231 = .ok (.ifCond .ne 17, 3) := by decide +kernel
theorem d_M_isSo_234 : decode mi_M_isSo.2.1 234 = .ok (.aload_n 0, 1) := by decide +kernel
theorem d_M_isSo_235 : decode mi_M_isSo.2.1 235 = .ok (.aload_n 0, 1) := by decide +kernel
theorem d_M_isSo_236 : decode mi_M_isSo.2.1 236 = .ok (.getfield 28, 3) := by decide +kernel
theorem d_M_isSo_239 : decode mi_M_isSo.2.1 239 = .ok (.iload_n 1, 1) := by decide +kernel
theorem d_M_isSo_240 : decode mi_M_isSo.2.1 240 = .ok (.iaload, 1) := by decide +kernel
theorem d_M_isSo_241 : decode mi_M_isSo.2.1 241 = .ok (.iload_n 2, 1) := by decide +kernel
theorem d_M_isSo_242 : decode mi_M_isSo.2.1 242 = .ok (.invokevirtual 100, 3) := by decide +kernel
theorem d_M_isSo_245 : decode mi_M_isSo.2.1 245 = .ok (.ifCond .eq 7, 3) := by decide +kernel
theorem d_M_isSo_248 : decode mi_M_isSo.2.1 248 = .ok (.iconst 1, 1) := by decide +kernel
theorem d_M_isSo_249 : decode mi_M_isSo.2.1 249 = .ok (.goto 4, 3) := by decide +kernel
theorem d_M_isSo_252 : decode mi_M_isSo.2.1 252 = .ok (.iconst 0, 1) := by decide +kernel
theorem d_M_isSo_253 : decode mi_M_isSo.2.1 253 = .ok (.ireturn, 1) := by decide +kernel
theorem d_M_isSo_254 : decode mi_M_isSo.2.1 254 = .ok (.iconst 1, 1) := by decide +kernel
theorem d_M_isSo_255 : decode mi_M_isSo.2.1 255 = .ok (.ireturn, 1) := by decide +kernel
theorem d_M_digit_0 : decode mi_M_digit.2.1 0 = .ok (.iload_n 0, 1) := by decide +kernel
theorem d_M_digit_1 : decode mi_M_digit.2.1 1 = .ok (.istore_n 2, 1) := by decide +kernel
theorem d_M_digit_2 : decode mi_M_digit.2.1 2 = .ok (.iload_n 1, 1) := by decide +kernel
theorem d_M_digit_3 : decode mi_M_digit.2.1 3 = .ok (.istore_n 3, 1) := by decide +kernel
theorem d_M_digit_4 : decode mi_M_digit.2.1 4 = .ok (.iload_n 3, 1) := by decide +kernel
theorem d_M_digit_5 : decode mi_M_digit.2.1 5 = .ok (.iconst 3, 1) := by decide +kernel
theorem d_M_digit_6 : decode mi_M_digit.2.1 6 = .ok (.if_icmp .ge 14, 3) := by decide +kernel
theorem d_M_digit_9 : decode mi_M_digit.2.1 9 = .ok (.iload_n 2, 1) := by decide +kernel
theorem d_M_digit_10 : decode mi_M_digit.2.1 10 = .ok (.bipush 10, 2) := by decide +kernel
theorem d_M_digit_12 : decode mi_M_digit.2.1 12 = .ok (.idiv, 1) := by decide +kernel
theorem d_M_digit_13 : decode mi_M_digit.2.1 13 = .ok (.istore_n 2, 1) := by decide +kernel
theorem d_M_digit_14 : decode mi_M_digit.2.1 14 = .ok (.iinc 3 1, 3) := by decide +kernel
theorem d_M_digit_17 : decode mi_M_digit.2.1 17 = .ok (.goto (-13), 3) := by decide +kernel
theorem d_M_digit_20 : decode mi_M_digit.2.1 20 = .ok (.iload_n 2, 1) := by decide +kernel
theorem d_M_digit_21 : decode mi_M_digit.2.1 21 = .ok (.bipush 10, 2) := by decide +kernel
theorem d_M_digit_23 : decode mi_M_digit.2.1 23 = .ok (.irem, 1) := by decide +kernel
theorem d_M_digit_24 : decode mi_M_digit.2.1 24 = .ok (.ireturn, 1) := by decide +kernel
theorem d_M_isFixed_0 : decode mi_M_isFixed.2.1 0 = .ok (.aload_n 0, 1) := by decide +kernel
theorem d_M_isFixed_1 : decode mi_M_isFixed.2.1 1 = .ok (.getfield 9, 3) := by decide +kernel
theorem d_M_isFixed_4 : decode mi_M_isFixed.2.1 4 = .ok (.iload_n 1, 1) := by decide +kernel
theorem d_M_isFixed_5 : decode mi_M_isFixed.2.1 5 = .ok (.iload_n 2, 1) := by decide +kernel
theorem d_M_isFixed_6 : decode mi_M_isFixed.2.1 6 = .ok (.iconst 1, 1) := by decide +kernel
theorem d_M_isFixed_7 : decode mi_M_isFixed.2.1 7 = .ok (.invokestatic 80, 3) := by decide +kernel
theorem d_M_isFixed_10 : decode mi_M_isFixed.2.1 10 = .ok (.iaload, 1) := by decide +kernel
theorem d_M_isFixed_11 : decode mi_M_isFixed.2.1 11 = .ok (.sipush 1000, 3) := by decide +kernel
theorem d_M_isFixed_14 : decode mi_M_isFixed.2.1 14 = .ok (.if_icmp .lt 7, 3) := by decide +kernel
theorem d_M_isFixed_17 : decode mi_M_isFixed.2.1 17 = .ok (.iconst 1, 1) := by decide +kernel
theorem d_M_isFixed_18 : decode mi_M_isFixed.2.1 18 = .ok (.goto 4, 3) := by decide +kernel
theorem d_M_isFixed_21 : decode mi_M_isFixed.2.1 21 = .ok (.iconst 0, 1) := by decide +kernel
theorem d_M_isFixed_22 : decode mi_M_isFixed.2.1 22 = .ok (.ireturn, 1) := by decide +kernel
theorem d_M_shared_0 : decode mi_M_shared.2.1 0 = .ok (.iload_n 1, 1) := by decide +kernel
theorem d_M_shared_1 : decode mi_M_shared.2.1 1 = .ok (.iconst 1, 1) := by decide +kernel
theorem d_M_shared_2 : decode mi_M_shared.2.1 2 = .ok (.iadd, 1) := by decide +kernel
theorem d_M_shared_3 : decode mi_M_shared.2.1 3 = .ok (.iload_n 3, 1) := by decide +kernel
theorem d_M_shared_4 : decode mi_M_shared.2.1 4 = .ok (.invokestatic 161, 3) := by decide +kernel
theorem d_M_shared_7 : decode mi_M_shared.2.1 7 = .ok (.istore 4, 2) := by decide +kernel
theorem d_M_shared_9 : decode mi_M_shared.2.1 9 = .ok (.iconst 1, 1) := by decide +kernel
theorem d_M_shared_10 : decode mi_M_shared.2.1 10 = .ok (.istore 5, 2) := by decide +kernel
theorem d_M_shared_12 : decode mi_M_shared.2.1 12 = .ok (.iload 5, 2) := by decide +kernel
theorem d_M_shared_14 : decode mi_M_shared.2.1 14 = .ok (.iconst 3, 1) := by decide +kernel
theorem d_M_shared_15 : decode mi_M_shared.2.1 15 = .ok (.if_icmp .gt 49, 3) := by decide +kernel
theorem d_M_shared_18 : decode mi_M_shared.2.1 18 = .ok (.sipush 333, 3) := by decide +kernel
theorem d_M_shared_21 : decode mi_M_shared.2.1 21 = .ok (.iload 5, 2) := by decide +kernel
theorem d_M_shared_23 : decode mi_M_shared.2.1 23 = .ok (.iconst 1, 1) := by decide +kernel
theorem d_M_shared_24 : decode mi_M_shared.2.1 24 = .ok (.isub, 1) := by decide +kernel
theorem d_M_shared_25 : decode mi_M_shared.2.1 25 = .ok (.imul, 1) := by decide +kernel
theorem d_M_shared_26 : decode mi_M_shared.2.1 26 = .ok (.istore 6, 2) := by decide +kernel
theorem d_M_shared_28 : decode mi_M_shared.2.1 28 = .ok (.iload 4, 2) := by decide +kernel
theorem d_M_shared_30 : decode mi_M_shared.2.1 30 = .ok (.iload 6, 2) := by decide +kernel
theorem d_M_shared_32 : decode mi_M_shared.2.1 32 = .ok (.if_icmp .lt 26, 3) := by decide +kernel
theorem d_M_shared_35 : decode mi_M_shared.2.1 35 = .ok (.iload 4, 2) := by decide +kernel
theorem d_M_shared_37 : decode mi_M_shared.2.1 37 = .ok (.iload 6, 2) := by decide +kernel
theorem d_M_shared_39 : decode mi_M_shared.2.1 39 = .ok (.aload_n 0, 1) := by decide +kernel
theorem d_M_shared_40 : decode mi_M_shared.2.1 40 = .ok (.getfield 9, 3) := by decide +kernel
theorem d_M_shared_43 : decode mi_M_shared.2.1 43 = .ok (.iload_n 1, 1) := by decide +kernel
theorem d_M_shared_44 : decode mi_M_shared.2.1 44 = .ok (.iload_n 2, 1) := by decide +kernel
theorem d_M_shared_45 : decode mi_M_shared.2.1 45 = .ok (.iload 5, 2) := by decide +kernel
theorem d_M_shared_47 : decode mi_M_shared.2.1 47 = .ok (.invokestatic 80, 3) := by decide +kernel
theorem d_M_shared_50 : decode mi_M_shared.2.1 50 = .ok (.iaload, 1) := by decide +kernel
theorem d_M_shared_51 : decode mi_M_shared.2.1 51 = .ok (.iadd, 1) := by decide +kernel
theorem d_M_shared_52 : decode mi_M_shared.2.1 52 = .ok (.if_icmp .ge 6, 3) := by decide +kernel
theorem d_M_shared_55 : decode mi_M_shared.2.1 55 = .ok (.iload 5, 2) := by decide +kernel
theorem d_M_shared_57 : decode mi_M_shared.2.1 57 = .ok (.ireturn, 1) := by decide +kernel
theorem d_M_shared_58 : decode mi_M_shared.2.1 58 = .ok (.iinc 5 1, 3) := by decide +kernel
theorem d_M_shared_61 : decode mi_M_shared.2.1 61 = .ok (.goto (-49), 3) := by decide +kernel
theorem d_M_shared_64 : decode mi_M_shared.2.1 64 = .ok (.iconst 0, 1) := by decide +kernel
theorem d_M_shared_65 : decode mi_M_shared.2.1 65 = .ok (.ireturn, 1) := by decide +kernel
theorem d_M_would_0 : decode mi_M_would.2.1 0 = .ok (.aload_n 0, 1) := by decide +kernel
theorem d_M_would_1 : decode mi_M_would.2.1 1 = .ok (.iload_n 2, 1) := by decide +kernel
theorem d_M_would_2 : decode mi_M_would.2.1 2 = .ok (.invokevirtual 204, 3) := by decide +kernel
theorem d_M_would_5 : decode mi_M_would.2.1 5 = .ok (.istore 4, 2) := by decide +kernel
theorem d_M_would_7 : decode mi_M_would.2.1 7 = .ok (.aload_n 0, 1) := by decide +kernel
theorem d_M_would_8 : decode mi_M_would.2.1 8 = .ok (.iload_n 1, 1) := by decide +kernel
theorem d_M_would_9 : decode mi_M_would.2.1 9 = .ok (.invokevirtual 72, 3) := by decide +kernel
theorem d_M_would_12 : decode mi_M_would.2.1 12 = .ok (.ifCond .eq 20, 3) := by decide +kernel
theorem d_M_would_15 : decode mi_M_would.2.1 15 = .ok (.iload 4, 2) := by decide +kernel
theorem d_M_would_17 : decode mi_M_would.2.1 17 = .ok (.ifCond .lt 15, 3) := by decide +kernel
theorem d_M_would_20 : decode mi_M_would.2.1 20 = .ok (.iload_n 3, 1) := by decide +kernel
theorem d_M_would_21 : decode mi_M_would.2.1 21 = .ok (.i2l, 1) := by decide +kernel
theorem d_M_would_22 : decode mi_M_would.2.1 22 = .ok (.lconst 0, 1) := by decide +kernel
theorem d_M_would_23 : decode mi_M_would.2.1 23 = .ok (.ldc2_w 210, 3) := by decide +kernel
theorem d_M_would_26 : decode mi_M_would.2.1 26 = .ok (.invokestatic 68, 3) := by decide +kernel
theorem d_M_would_29 : decode mi_M_would.2.1 29 = .ok (.ifCond .ne 10, 3) := by decide +kernel
theorem d_M_would_32 : decode mi_M_would.2.1 32 = .ok (.aload_n 0, 1) := by decide +kernel
theorem d_M_would_33 : decode mi_M_would.2.1 33 = .ok (.bipush (-32), 2) := by decide +kernel
theorem d_M_would_35 : decode mi_M_would.2.1 35 = .ok (.invokevirtual 106, 3) := by decide +kernel
theorem d_M_would_38 : decode mi_M_would.2.1 38 = .ok (.ireturn, 1) := by decide +kernel
theorem d_M_would_39 : decode mi_M_would.2.1 39 = .ok (.aload_n 0, 1) := by decide +kernel
theorem d_M_would_40 : decode mi_M_would.2.1 40 = .ok (.iload_n 1, 1) := by decide +kernel
theorem d_M_would_41 : decode mi_M_would.2.1 41 = .ok (.iload 4, 2) := by decide +kernel
theorem d_M_would_43 : decode mi_M_would.2.1 43 = .ok (.invokevirtual 201, 3) := by decide +kernel
theorem d_M_would_46 : decode mi_M_would.2.1 46 = .ok (.istore 5, 2) := by decide +kernel
theorem d_M_would_48 : decode mi_M_would.2.1 48 = .ok (.iload_n 3, 1) := by decide +kernel
theorem d_M_would_49 : decode mi_M_would.2.1 49 = .ok (.iconst 3, 1) := by decide +kernel
theorem d_M_would_50 : decode mi_M_would.2.1 50 = .ok (.if_icmp .ne 20, 3) := by decide +kernel
theorem d_M_would_53 : decode mi_M_would.2.1 53 = .ok (.aload_n 0, 1) := by decide +kernel
theorem d_M_would_54 : decode mi_M_would.2.1 54 = .ok (.iconst 0, 1) := by decide +kernel
theorem d_M_would_55 : decode mi_M_would.2.1 55 = .ok (.putfield 194, 3) := by decide +kernel
theorem d_M_would_58 : decode mi_M_would.2.1 58 = .ok (.aload_n 0, 1) := by decide +kernel
theorem d_M_would_59 : decode mi_M_would.2.1 59 = .ok (.iload_n 1, 1) := by decide +kernel
theorem d_M_would_60 : decode mi_M_would.2.1 60 = .ok (.iload 4, 2) := by decide +kernel
theorem d_M_would_62 : decode mi_M_would.2.1 62 = .ok (.invokevirtual 197, 3) := by decide +kernel
theorem d_M_would_65 : decode mi_M_would.2.1 65 = .ok (.aload_n 0, 1) := by decide +kernel
theorem d_M_would_66 : decode mi_M_would.2.1 66 = .ok (.getfield 194, 3) := by decide +kernel
theorem d_M_would_69 : decode mi_M_would.2.1 69 = .ok (.ireturn, 1) := by decide +kernel
theorem d_M_would_70 : decode mi_M_would.2.1 70 = .ok (.iload_n 3, 1) := by decide +kernel
theorem d_M_would_71 : decode mi_M_would.2.1 71 = .ok (.ifCond .ne 8, 3) := by decide +kernel
theorem d_M_would_74 : decode mi_M_would.2.1 74 = .ok (.iload 5, 2) := by decide +kernel
theorem d_M_would_76 : decode mi_M_would.2.1 76 = .ok (.goto 23, 3) := by decide +kernel
theorem d_M_would_79 : decode mi_M_would.2.1 79 = .ok (.iload_n 3, 1) := by decide +kernel
theorem d_M_would_80 : decode mi_M_would.2.1 80 = .ok (.iconst 1, 1) := by decide +kernel
theorem d_M_would_81 : decode mi_M_would.2.1 81 = .ok (.if_icmp .ne 12, 3) := by decide +kernel
theorem d_M_would_84 : decode mi_M_would.2.1 84 = .ok (.aload_n 0, 1) := by decide +kernel
theorem d_M_would_85 : decode mi_M_would.2.1 85 = .ok (.getfield 43, 3) := by decide +kernel
theorem d_M_would_88 : decode mi_M_would.2.1 88 = .ok (.iload_n 1, 1) := by decide +kernel
theorem d_M_would_89 : decode mi_M_would.2.1 89 = .ok (.iaload, 1) := by decide +kernel
theorem d_M_would_90 : decode mi_M_would.2.1 90 = .ok (.goto 9, 3) := by decide +kernel
theorem d_M_would_93 : decode mi_M_would.2.1 93 = .ok (.aload_n 0, 1) := by decide +kernel
theorem d_M_would_94 : decode mi_M_would.2.1 94 = .ok (.getfield 46, 3) := by decide +kernel
theorem d_M_would_97 : decode mi_M_would.2.1 97 = .ok (.iload_n 1, 1) := by decide +kernel
theorem d_M_would_98 : decode mi_M_would.2.1 98 = .ok (.iaload, 1) := by decide +kernel
theorem d_M_would_99 : decode mi_M_would.2.1 99 = .ok (.ireturn, 1) := by decide +kernel
theorem d_M_goes_0 : decode mi_M_goes.2.1 0 = .ok (.iconst 0, 1) := by decide +kernel
theorem d_M_goes_1 : decode mi_M_goes.2.1 1 = .ok (.istore_n 3, 1) := by decide +kernel
theorem d_M_goes_2 : decode mi_M_goes.2.1 2 = .ok (.iload_n 3, 1) := by decide +kernel
theorem d_M_goes_3 : decode mi_M_goes.2.1 3 = .ok (.aload_n 0, 1) := by decide +kernel
theorem d_M_goes_4 : decode mi_M_goes.2.1 4 = .ok (.getfield 194, 3) := by decide +kernel
theorem d_M_goes_7 : decode mi_M_goes.2.1 7 = .ok (.if_icmp .ge 20, 3) := by decide +kernel
theorem d_M_goes_10 : decode mi_M_goes.2.1 10 = .ok (.aload_n 0, 1) := by decide +kernel
theorem d_M_goes_11 : decode mi_M_goes.2.1 11 = .ok (.getfield 49, 3) := by decide +kernel
theorem d_M_goes_14 : decode mi_M_goes.2.1 14 = .ok (.iload_n 3, 1) := by decide +kernel
theorem d_M_goes_15 : decode mi_M_goes.2.1 15 = .ok (.iaload, 1) := by decide +kernel
theorem d_M_goes_16 : decode mi_M_goes.2.1 16 = .ok (.iload_n 1, 1) := by decide +kernel
theorem d_M_goes_17 : decode mi_M_goes.2.1 17 = .ok (.if_icmp .ne 4, 3) := by decide +kernel
theorem d_M_goes_20 : decode mi_M_goes.2.1 20 = .ok (.return_, 1) := by decide +kernel
theorem d_M_goes_21 : decode mi_M_goes.2.1 21 = .ok (.iinc 3 1, 3) := by decide +kernel
theorem d_M_goes_24 : decode mi_M_goes.2.1 24 = .ok (.goto (-22), 3) := by decide +kernel
theorem d_M_goes_27 : decode mi_M_goes.2.1 27 = .ok (.aload_n 0, 1) := by decide +kernel
theorem d_M_goes_28 : decode mi_M_goes.2.1 28 = .ok (.iload_n 1, 1) := by decide +kernel
theorem d_M_goes_29 : decode mi_M_goes.2.1 29 = .ok (.iload_n 2, 1) := by decide +kernel
theorem d_M_goes_30 : decode mi_M_goes.2.1 30 = .ok (.invokevirtual 173, 3) := by decide +kernel
theorem d_M_goes_33 : decode mi_M_goes.2.1 33 = .ok (.istore_n 3, 1) := by decide +kernel
theorem d_M_goes_34 : decode mi_M_goes.2.1 34 = .ok (.iconst 0, 1) := by decide +kernel
theorem d_M_goes_35 : decode mi_M_goes.2.1 35 = .ok (.istore 4, 2) := by decide +kernel
theorem d_M_goes_37 : decode mi_M_goes.2.1 37 = .ok (.aload_n 0, 1) := by decide +kernel
theorem d_M_goes_38 : decode mi_M_goes.2.1 38 = .ok (.getfield 43, 3) := by decide +kernel
theorem d_M_goes_41 : decode mi_M_goes.2.1 41 = .ok (.iload_n 1, 1) := by decide +kernel
theorem d_M_goes_42 : decode mi_M_goes.2.1 42 = .ok (.iaload, 1) := by decide +kernel
theorem d_M_goes_43 : decode mi_M_goes.2.1 43 = .ok (.iconst 2, 1) := by decide +kernel
theorem d_M_goes_44 : decode mi_M_goes.2.1 44 = .ok (.if_icmp .le 68, 3) := by decide +kernel
theorem d_M_goes_47 : decode mi_M_goes.2.1 47 = .ok (.iload 4, 2) := by decide +kernel
theorem d_M_goes_49 : decode mi_M_goes.2.1 49 = .ok (.aload_n 0, 1) := by decide +kernel
theorem d_M_goes_50 : decode mi_M_goes.2.1 50 = .ok (.iload_n 1, 1) := by decide +kernel
theorem d_M_goes_51 : decode mi_M_goes.2.1 51 = .ok (.iconst 5, 1) := by decide +kernel
theorem d_M_goes_52 : decode mi_M_goes.2.1 52 = .ok (.invokevirtual 76, 3) := by decide +kernel
theorem d_M_goes_55 : decode mi_M_goes.2.1 55 = .ok (.if_icmp .ge 57, 3) := by decide +kernel
theorem d_M_goes_58 : decode mi_M_goes.2.1 58 = .ok (.aload_n 0, 1) := by decide +kernel
theorem d_M_goes_59 : decode mi_M_goes.2.1 59 = .ok (.iload_n 1, 1) := by decide +kernel
theorem d_M_goes_60 : decode mi_M_goes.2.1 60 = .ok (.bipush 14, 2) := by decide +kernel
theorem d_M_goes_62 : decode mi_M_goes.2.1 62 = .ok (.iconst 2, 1) := by decide +kernel
theorem d_M_goes_63 : decode mi_M_goes.2.1 63 = .ok (.iload 4, 2) := by decide +kernel
theorem d_M_goes_65 : decode mi_M_goes.2.1 65 = .ok (.imul, 1) := by decide +kernel
theorem d_M_goes_66 : decode mi_M_goes.2.1 66 = .ok (.iadd, 1) := by decide +kernel
theorem d_M_goes_67 : decode mi_M_goes.2.1 67 = .ok (.invokevirtual 76, 3) := by decide +kernel
theorem d_M_goes_70 : decode mi_M_goes.2.1 70 = .ok (.istore 5, 2) := by decide +kernel
theorem d_M_goes_72 : decode mi_M_goes.2.1 72 = .ok (.aload_n 0, 1) := by decide +kernel
theorem d_M_goes_73 : decode mi_M_goes.2.1 73 = .ok (.iload 5, 2) := by decide +kernel
theorem d_M_goes_75 : decode mi_M_goes.2.1 75 = .ok (.iload_n 2, 1) := by decide +kernel
theorem d_M_goes_76 : decode mi_M_goes.2.1 76 = .ok (.invokevirtual 197, 3) := by decide +kernel
theorem d_M_goes_79 : decode mi_M_goes.2.1 79 = .ok (.aload_n 0, 1) := by decide +kernel
theorem d_M_goes_80 : decode mi_M_goes.2.1 80 = .ok (.getfield 40, 3) := by decide +kernel
theorem d_M_goes_83 : decode mi_M_goes.2.1 83 = .ok (.iload 5, 2) := by decide +kernel
theorem d_M_goes_85 : decode mi_M_goes.2.1 85 = .ok (.iaload, 1) := by decide +kernel
theorem d_M_goes_86 : decode mi_M_goes.2.1 86 = .ok (.aload_n 0, 1) := by decide +kernel
theorem d_M_goes_87 : decode mi_M_goes.2.1 87 = .ok (.iload_n 1, 1) := by decide +kernel
theorem d_M_goes_88 : decode mi_M_goes.2.1 88 = .ok (.bipush 14, 2) := by decide +kernel
theorem d_M_goes_90 : decode mi_M_goes.2.1 90 = .ok (.iconst 2, 1) := by decide +kernel
theorem d_M_goes_91 : decode mi_M_goes.2.1 91 = .ok (.iload 4, 2) := by decide +kernel
theorem d_M_goes_93 : decode mi_M_goes.2.1 93 = .ok (.imul, 1) := by decide +kernel
theorem d_M_goes_94 : decode mi_M_goes.2.1 94 = .ok (.iadd, 1) := by decide +kernel
theorem d_M_goes_95 : decode mi_M_goes.2.1 95 = .ok (.iconst 1, 1) := by decide +kernel
theorem d_M_goes_96 : decode mi_M_goes.2.1 96 = .ok (.iadd, 1) := by decide +kernel
theorem d_M_goes_97 : decode mi_M_goes.2.1 97 = .ok (.invokevirtual 76, 3) := by decide +kernel
theorem d_M_goes_100 : decode mi_M_goes.2.1 100 = .ok (.if_icmp .eq 6, 3) := by decide +kernel
theorem d_M_goes_103 : decode mi_M_goes.2.1 103 = .ok (.goto 9, 3) := by decide +kernel
theorem d_M_goes_106 : decode mi_M_goes.2.1 106 = .ok (.iinc 4 1, 3) := by decide +kernel
theorem d_M_goes_109 : decode mi_M_goes.2.1 109 = .ok (.goto (-72), 3) := by decide +kernel
theorem d_M_goes_112 : decode mi_M_goes.2.1 112 = .ok (.aload_n 0, 1) := by decide +kernel
theorem d_M_goes_113 : decode mi_M_goes.2.1 113 = .ok (.getfield 49, 3) := by decide +kernel
theorem d_M_goes_116 : decode mi_M_goes.2.1 116 = .ok (.aload_n 0, 1) := by decide +kernel
theorem d_M_goes_117 : decode mi_M_goes.2.1 117 = .ok (.getfield 194, 3) := by decide +kernel
theorem d_M_goes_120 : decode mi_M_goes.2.1 120 = .ok (.iload_n 1, 1) := by decide +kernel
theorem d_M_goes_121 : decode mi_M_goes.2.1 121 = .ok (.iastore, 1) := by decide +kernel
theorem d_M_goes_122 : decode mi_M_goes.2.1 122 = .ok (.aload_n 0, 1) := by decide +kernel
theorem d_M_goes_123 : decode mi_M_goes.2.1 123 = .ok (.dup, 1) := by decide +kernel
theorem d_M_goes_124 : decode mi_M_goes.2.1 124 = .ok (.getfield 194, 3) := by decide +kernel
theorem d_M_goes_127 : decode mi_M_goes.2.1 127 = .ok (.iconst 1, 1) := by decide +kernel
theorem d_M_goes_128 : decode mi_M_goes.2.1 128 = .ok (.iadd, 1) := by decide +kernel
theorem d_M_goes_129 : decode mi_M_goes.2.1 129 = .ok (.putfield 194, 3) := by decide +kernel
theorem d_M_goes_132 : decode mi_M_goes.2.1 132 = .ok (.return_, 1) := by decide +kernel
theorem d_M_path_0 : decode mi_M_path.2.1 0 = .ok (.aload_n 0, 1) := by decide +kernel
theorem d_M_path_1 : decode mi_M_path.2.1 1 = .ok (.iload_n 2, 1) := by decide +kernel
theorem d_M_path_2 : decode mi_M_path.2.1 2 = .ok (.invokevirtual 204, 3) := by decide +kernel
theorem d_M_path_5 : decode mi_M_path.2.1 5 = .ok (.istore 5, 2) := by decide +kernel
theorem d_M_path_7 : decode mi_M_path.2.1 7 = .ok (.aload_n 0, 1) := by decide +kernel
theorem d_M_path_8 : decode mi_M_path.2.1 8 = .ok (.iload_n 1, 1) := by decide +kernel
theorem d_M_path_9 : decode mi_M_path.2.1 9 = .ok (.invokevirtual 72, 3) := by decide +kernel
theorem d_M_path_12 : decode mi_M_path.2.1 12 = .ok (.ifCond .eq 21, 3) := by decide +kernel
theorem d_M_path_15 : decode mi_M_path.2.1 15 = .ok (.iload 5, 2) := by decide +kernel
theorem d_M_path_17 : decode mi_M_path.2.1 17 = .ok (.ifCond .lt 16, 3) := by decide +kernel
theorem d_M_path_20 : decode mi_M_path.2.1 20 = .ok (.iload 4, 2) := by decide +kernel
theorem d_M_path_22 : decode mi_M_path.2.1 22 = .ok (.i2l, 1) := by decide +kernel
theorem d_M_path_23 : decode mi_M_path.2.1 23 = .ok (.lconst 0, 1) := by decide +kernel
theorem d_M_path_24 : decode mi_M_path.2.1 24 = .ok (.ldc2_w 210, 3) := by decide +kernel
theorem d_M_path_27 : decode mi_M_path.2.1 27 = .ok (.invokestatic 68, 3) := by decide +kernel
theorem d_M_path_30 : decode mi_M_path.2.1 30 = .ok (.ifCond .ne 10, 3) := by decide +kernel
theorem d_M_path_33 : decode mi_M_path.2.1 33 = .ok (.aload_n 0, 1) := by decide +kernel
theorem d_M_path_34 : decode mi_M_path.2.1 34 = .ok (.bipush (-32), 2) := by decide +kernel
theorem d_M_path_36 : decode mi_M_path.2.1 36 = .ok (.invokevirtual 106, 3) := by decide +kernel
theorem d_M_path_39 : decode mi_M_path.2.1 39 = .ok (.ireturn, 1) := by decide +kernel
theorem d_M_path_40 : decode mi_M_path.2.1 40 = .ok (.aload_n 0, 1) := by decide +kernel
theorem d_M_path_41 : decode mi_M_path.2.1 41 = .ok (.iload_n 1, 1) := by decide +kernel
theorem d_M_path_42 : decode mi_M_path.2.1 42 = .ok (.iload 5, 2) := by decide +kernel
theorem d_M_path_44 : decode mi_M_path.2.1 44 = .ok (.invokevirtual 201, 3) := by decide +kernel
theorem d_M_path_47 : decode mi_M_path.2.1 47 = .ok (.istore 6, 2) := by decide +kernel
theorem d_M_path_49 : decode mi_M_path.2.1 49 = .ok (.aload_n 0, 1) := by decide +kernel
theorem d_M_path_50 : decode mi_M_path.2.1 50 = .ok (.iconst 0, 1) := by decide +kernel
theorem d_M_path_51 : decode mi_M_path.2.1 51 = .ok (.putfield 194, 3) := by decide +kernel
theorem d_M_path_54 : decode mi_M_path.2.1 54 = .ok (.aload_n 0, 1) := by decide +kernel
theorem d_M_path_55 : decode mi_M_path.2.1 55 = .ok (.iload_n 1, 1) := by decide +kernel
theorem d_M_path_56 : decode mi_M_path.2.1 56 = .ok (.iload 5, 2) := by decide +kernel
theorem d_M_path_58 : decode mi_M_path.2.1 58 = .ok (.invokevirtual 197, 3) := by decide +kernel
theorem d_M_path_61 : decode mi_M_path.2.1 61 = .ok (.iload_n 3, 1) := by decide +kernel
theorem d_M_path_62 : decode mi_M_path.2.1 62 = .ok (.i2l, 1) := by decide +kernel
theorem d_M_path_63 : decode mi_M_path.2.1 63 = .ok (.lconst 0, 1) := by decide +kernel
theorem d_M_path_64 : decode mi_M_path.2.1 64 = .ok (.aload_n 0, 1) := by decide +kernel
theorem d_M_path_65 : decode mi_M_path.2.1 65 = .ok (.getfield 194, 3) := by decide +kernel
theorem d_M_path_68 : decode mi_M_path.2.1 68 = .ok (.iconst 1, 1) := by decide +kernel
theorem d_M_path_69 : decode mi_M_path.2.1 69 = .ok (.isub, 1) := by decide +kernel
theorem d_M_path_70 : decode mi_M_path.2.1 70 = .ok (.i2l, 1) := by decide +kernel
theorem d_M_path_71 : decode mi_M_path.2.1 71 = .ok (.invokestatic 68, 3) := by decide +kernel
theorem d_M_path_74 : decode mi_M_path.2.1 74 = .ok (.ifCond .ne 10, 3) := by decide +kernel
theorem d_M_path_77 : decode mi_M_path.2.1 77 = .ok (.aload_n 0, 1) := by decide +kernel
theorem d_M_path_78 : decode mi_M_path.2.1 78 = .ok (.bipush (-32), 2) := by decide +kernel
theorem d_M_path_80 : decode mi_M_path.2.1 80 = .ok (.invokevirtual 106, 3) := by decide +kernel
theorem d_M_path_83 : decode mi_M_path.2.1 83 = .ok (.ireturn, 1) := by decide +kernel
theorem d_M_path_84 : decode mi_M_path.2.1 84 = .ok (.aload_n 0, 1) := by decide +kernel
theorem d_M_path_85 : decode mi_M_path.2.1 85 = .ok (.getfield 49, 3) := by decide +kernel
theorem d_M_path_88 : decode mi_M_path.2.1 88 = .ok (.iload_n 3, 1) := by decide +kernel
theorem d_M_path_89 : decode mi_M_path.2.1 89 = .ok (.iaload, 1) := by decide +kernel
theorem d_M_path_90 : decode mi_M_path.2.1 90 = .ok (.istore 7, 2) := by decide +kernel
theorem d_M_path_92 : decode mi_M_path.2.1 92 = .ok (.iload 4, 2) := by decide +kernel
theorem d_M_path_94 : decode mi_M_path.2.1 94 = .ok (.ifCond .ne 8, 3) := by decide +kernel
theorem d_M_path_97 : decode mi_M_path.2.1 97 = .ok (.iload 7, 2) := by decide +kernel
theorem d_M_path_99 : decode mi_M_path.2.1 99 = .ok (.goto 42, 3) := by decide +kernel
theorem d_M_path_102 : decode mi_M_path.2.1 102 = .ok (.iload 4, 2) := by decide +kernel
theorem d_M_path_104 : decode mi_M_path.2.1 104 = .ok (.iconst 1, 1) := by decide +kernel
theorem d_M_path_105 : decode mi_M_path.2.1 105 = .ok (.if_icmp .ne 13, 3) := by decide +kernel
theorem d_M_path_108 : decode mi_M_path.2.1 108 = .ok (.aload_n 0, 1) := by decide +kernel
theorem d_M_path_109 : decode mi_M_path.2.1 109 = .ok (.getfield 43, 3) := by decide +kernel
theorem d_M_path_112 : decode mi_M_path.2.1 112 = .ok (.iload 7, 2) := by decide +kernel
theorem d_M_path_114 : decode mi_M_path.2.1 114 = .ok (.iaload, 1) := by decide +kernel
theorem d_M_path_115 : decode mi_M_path.2.1 115 = .ok (.goto 26, 3) := by decide +kernel
theorem d_M_path_118 : decode mi_M_path.2.1 118 = .ok (.iload 4, 2) := by decide +kernel
theorem d_M_path_120 : decode mi_M_path.2.1 120 = .ok (.iconst 2, 1) := by decide +kernel
theorem d_M_path_121 : decode mi_M_path.2.1 121 = .ok (.if_icmp .ne 13, 3) := by decide +kernel
theorem d_M_path_124 : decode mi_M_path.2.1 124 = .ok (.aload_n 0, 1) := by decide +kernel
theorem d_M_path_125 : decode mi_M_path.2.1 125 = .ok (.getfield 46, 3) := by decide +kernel
theorem d_M_path_128 : decode mi_M_path.2.1 128 = .ok (.iload 7, 2) := by decide +kernel
theorem d_M_path_130 : decode mi_M_path.2.1 130 = .ok (.iaload, 1) := by decide +kernel
theorem d_M_path_131 : decode mi_M_path.2.1 131 = .ok (.goto 10, 3) := by decide +kernel
theorem d_M_path_134 : decode mi_M_path.2.1 134 = .ok (.aload_n 0, 1) := by decide +kernel
theorem d_M_path_135 : decode mi_M_path.2.1 135 = .ok (.getfield 40, 3) := by decide +kernel
theorem d_M_path_138 : decode mi_M_path.2.1 138 = .ok (.iload 7, 2) := by decide +kernel
theorem d_M_path_140 : decode mi_M_path.2.1 140 = .ok (.iaload, 1) := by decide +kernel
theorem d_M_path_141 : decode mi_M_path.2.1 141 = .ok (.ireturn, 1) := by decide +kernel
theorem d_M_person_0 : decode mi_M_person.2.1 0 = .ok (.iload_n 1, 1) := by decide +kernel
theorem d_M_person_1 : decode mi_M_person.2.1 1 = .ok (.i2l, 1) := by decide +kernel
theorem d_M_person_2 : decode mi_M_person.2.1 2 = .ok (.lconst 0, 1) := by decide +kernel
theorem d_M_person_3 : decode mi_M_person.2.1 3 = .ok (.ldc2_w 212, 3) := by decide +kernel
theorem d_M_person_6 : decode mi_M_person.2.1 6 = .ok (.invokestatic 68, 3) := by decide +kernel
theorem d_M_person_9 : decode mi_M_person.2.1 9 = .ok (.ifCond .eq 15, 3) := by decide +kernel
theorem d_M_person_12 : decode mi_M_person.2.1 12 = .ok (.iload_n 2, 1) := by decide +kernel
theorem d_M_person_13 : decode mi_M_person.2.1 13 = .ok (.i2l, 1) := by decide +kernel
theorem d_M_person_14 : decode mi_M_person.2.1 14 = .ok (.lconst 0, 1) := by decide +kernel
theorem d_M_person_15 : decode mi_M_person.2.1 15 = .ok (.ldc2_w 214, 3) := by decide +kernel
theorem d_M_person_18 : decode mi_M_person.2.1 18 = .ok (.invokestatic 68, 3) := by decide +kernel
theorem d_M_person_21 : decode mi_M_person.2.1 21 = .ok (.ifCond .ne 10, 3) := by decide +kernel
theorem d_M_person_24 : decode mi_M_person.2.1 24 = .ok (.aload_n 0, 1) := by decide +kernel
theorem d_M_person_25 : decode mi_M_person.2.1 25 = .ok (.bipush (-32), 2) := by decide +kernel
theorem d_M_person_27 : decode mi_M_person.2.1 27 = .ok (.invokevirtual 106, 3) := by decide +kernel
theorem d_M_person_30 : decode mi_M_person.2.1 30 = .ok (.ireturn, 1) := by decide +kernel
theorem d_M_person_31 : decode mi_M_person.2.1 31 = .ok (.aload_n 0, 1) := by decide +kernel
theorem d_M_person_32 : decode mi_M_person.2.1 32 = .ok (.iload_n 1, 1) := by decide +kernel
theorem d_M_person_33 : decode mi_M_person.2.1 33 = .ok (.invokevirtual 204, 3) := by decide +kernel
theorem d_M_person_36 : decode mi_M_person.2.1 36 = .ok (.istore_n 3, 1) := by decide +kernel
theorem d_M_person_37 : decode mi_M_person.2.1 37 = .ok (.aload_n 0, 1) := by decide +kernel
theorem d_M_person_38 : decode mi_M_person.2.1 38 = .ok (.getfield 9, 3) := by decide +kernel
theorem d_M_person_41 : decode mi_M_person.2.1 41 = .ok (.iconst 0, 1) := by decide +kernel
theorem d_M_person_42 : decode mi_M_person.2.1 42 = .ok (.iaload, 1) := by decide +kernel
theorem d_M_person_43 : decode mi_M_person.2.1 43 = .ok (.istore 4, 2) := by decide +kernel
theorem d_M_person_45 : decode mi_M_person.2.1 45 = .ok (.iload_n 3, 1) := by decide +kernel
theorem d_M_person_46 : decode mi_M_person.2.1 46 = .ok (.ifCond .ge 69, 3) := by decide +kernel
theorem d_M_person_49 : decode mi_M_person.2.1 49 = .ok (.iload 4, 2) := by decide +kernel
theorem d_M_person_51 : decode mi_M_person.2.1 51 = .ok (.bipush 24, 2) := by decide +kernel
theorem d_M_person_53 : decode mi_M_person.2.1 53 = .ok (.if_icmp .ne 10, 3) := by decide +kernel
theorem d_M_person_56 : decode mi_M_person.2.1 56 = .ok (.aload_n 0, 1) := by decide +kernel
theorem d_M_person_57 : decode mi_M_person.2.1 57 = .ok (.bipush (-36), 2) := by decide +kernel
theorem d_M_person_59 : decode mi_M_person.2.1 59 = .ok (.invokevirtual 106, 3) := by decide +kernel
theorem d_M_person_62 : decode mi_M_person.2.1 62 = .ok (.ireturn, 1) := by decide +kernel
theorem d_M_person_63 : decode mi_M_person.2.1 63 = .ok (.iload 4, 2) := by decide +kernel
theorem d_M_person_65 : decode mi_M_person.2.1 65 = .ok (.istore_n 3, 1) := by decide +kernel
theorem d_M_person_66 : decode mi_M_person.2.1 66 = .ok (.aload_n 0, 1) := by decide +kernel
theorem d_M_person_67 : decode mi_M_person.2.1 67 = .ok (.getfield 9, 3) := by decide +kernel
theorem d_M_person_70 : decode mi_M_person.2.1 70 = .ok (.iconst 0, 1) := by decide +kernel
theorem d_M_person_71 : decode mi_M_person.2.1 71 = .ok (.iload 4, 2) := by decide +kernel
theorem d_M_person_73 : decode mi_M_person.2.1 73 = .ok (.iconst 1, 1) := by decide +kernel
theorem d_M_person_74 : decode mi_M_person.2.1 74 = .ok (.iadd, 1) := by decide +kernel
theorem d_M_person_75 : decode mi_M_person.2.1 75 = .ok (.iastore, 1) := by decide +kernel
theorem d_M_person_76 : decode mi_M_person.2.1 76 = .ok (.aload_n 0, 1) := by decide +kernel
theorem d_M_person_77 : decode mi_M_person.2.1 77 = .ok (.getfield 9, 3) := by decide +kernel
theorem d_M_person_80 : decode mi_M_person.2.1 80 = .ok (.bipush 6, 2) := by decide +kernel
theorem d_M_person_82 : decode mi_M_person.2.1 82 = .ok (.iconst 2, 1) := by decide +kernel
theorem d_M_person_83 : decode mi_M_person.2.1 83 = .ok (.iload_n 3, 1) := by decide +kernel
theorem d_M_person_84 : decode mi_M_person.2.1 84 = .ok (.imul, 1) := by decide +kernel
theorem d_M_person_85 : decode mi_M_person.2.1 85 = .ok (.iadd, 1) := by decide +kernel
theorem d_M_person_86 : decode mi_M_person.2.1 86 = .ok (.iload_n 1, 1) := by decide +kernel
theorem d_M_person_87 : decode mi_M_person.2.1 87 = .ok (.iastore, 1) := by decide +kernel
theorem d_M_person_88 : decode mi_M_person.2.1 88 = .ok (.iconst 0, 1) := by decide +kernel
theorem d_M_person_89 : decode mi_M_person.2.1 89 = .ok (.istore 5, 2) := by decide +kernel
theorem d_M_person_91 : decode mi_M_person.2.1 91 = .ok (.iload 5, 2) := by decide +kernel
theorem d_M_person_93 : decode mi_M_person.2.1 93 = .ok (.bipush 12, 2) := by decide +kernel
theorem d_M_person_95 : decode mi_M_person.2.1 95 = .ok (.if_icmp .ge 20, 3) := by decide +kernel
theorem d_M_person_98 : decode mi_M_person.2.1 98 = .ok (.aload_n 0, 1) := by decide +kernel
theorem d_M_person_99 : decode mi_M_person.2.1 99 = .ok (.iload 5, 2) := by decide +kernel
theorem d_M_person_101 : decode mi_M_person.2.1 101 = .ok (.bipush 36, 2) := by decide +kernel
theorem d_M_person_103 : decode mi_M_person.2.1 103 = .ok (.iload_n 3, 1) := by decide +kernel
theorem d_M_person_104 : decode mi_M_person.2.1 104 = .ok (.iadd, 1) := by decide +kernel
theorem d_M_person_105 : decode mi_M_person.2.1 105 = .ok (.iconst 0, 1) := by decide +kernel
theorem d_M_person_106 : decode mi_M_person.2.1 106 = .ok (.invokevirtual 157, 3) := by decide +kernel
theorem d_M_person_109 : decode mi_M_person.2.1 109 = .ok (.iinc 5 1, 3) := by decide +kernel
theorem d_M_person_112 : decode mi_M_person.2.1 112 = .ok (.goto (-21), 3) := by decide +kernel
theorem d_M_person_115 : decode mi_M_person.2.1 115 = .ok (.aload_n 0, 1) := by decide +kernel
theorem d_M_person_116 : decode mi_M_person.2.1 116 = .ok (.getfield 9, 3) := by decide +kernel
theorem d_M_person_119 : decode mi_M_person.2.1 119 = .ok (.bipush 6, 2) := by decide +kernel
theorem d_M_person_121 : decode mi_M_person.2.1 121 = .ok (.iconst 2, 1) := by decide +kernel
theorem d_M_person_122 : decode mi_M_person.2.1 122 = .ok (.iload_n 3, 1) := by decide +kernel
theorem d_M_person_123 : decode mi_M_person.2.1 123 = .ok (.imul, 1) := by decide +kernel
theorem d_M_person_124 : decode mi_M_person.2.1 124 = .ok (.iadd, 1) := by decide +kernel
theorem d_M_person_125 : decode mi_M_person.2.1 125 = .ok (.iconst 1, 1) := by decide +kernel
theorem d_M_person_126 : decode mi_M_person.2.1 126 = .ok (.iadd, 1) := by decide +kernel
theorem d_M_person_127 : decode mi_M_person.2.1 127 = .ok (.iload_n 2, 1) := by decide +kernel
theorem d_M_person_128 : decode mi_M_person.2.1 128 = .ok (.iastore, 1) := by decide +kernel
theorem d_M_person_129 : decode mi_M_person.2.1 129 = .ok (.aload_n 0, 1) := by decide +kernel
theorem d_M_person_130 : decode mi_M_person.2.1 130 = .ok (.getfield 9, 3) := by decide +kernel
theorem d_M_person_133 : decode mi_M_person.2.1 133 = .ok (.iconst 0, 1) := by decide +kernel
theorem d_M_person_134 : decode mi_M_person.2.1 134 = .ok (.iaload, 1) := by decide +kernel
theorem d_M_person_135 : decode mi_M_person.2.1 135 = .ok (.ireturn, 1) := by decide +kernel
theorem d_M_gone_0 : decode mi_M_gone.2.1 0 = .ok (.aload_n 0, 1) := by decide +kernel
theorem d_M_gone_1 : decode mi_M_gone.2.1 1 = .ok (.iload_n 1, 1) := by decide +kernel
theorem d_M_gone_2 : decode mi_M_gone.2.1 2 = .ok (.invokevirtual 204, 3) := by decide +kernel
theorem d_M_gone_5 : decode mi_M_gone.2.1 5 = .ok (.istore_n 2, 1) := by decide +kernel
theorem d_M_gone_6 : decode mi_M_gone.2.1 6 = .ok (.iload_n 2, 1) := by decide +kernel
theorem d_M_gone_7 : decode mi_M_gone.2.1 7 = .ok (.ifCond .ge 10, 3) := by decide +kernel
theorem d_M_gone_10 : decode mi_M_gone.2.1 10 = .ok (.aload_n 0, 1) := by decide +kernel
theorem d_M_gone_11 : decode mi_M_gone.2.1 11 = .ok (.bipush (-32), 2) := by decide +kernel
theorem d_M_gone_13 : decode mi_M_gone.2.1 13 = .ok (.invokevirtual 106, 3) := by decide +kernel
theorem d_M_gone_16 : decode mi_M_gone.2.1 16 = .ok (.ireturn, 1) := by decide +kernel
theorem d_M_gone_17 : decode mi_M_gone.2.1 17 = .ok (.aload_n 0, 1) := by decide +kernel
theorem d_M_gone_18 : decode mi_M_gone.2.1 18 = .ok (.getfield 9, 3) := by decide +kernel
theorem d_M_gone_21 : decode mi_M_gone.2.1 21 = .ok (.iconst 0, 1) := by decide +kernel
theorem d_M_gone_22 : decode mi_M_gone.2.1 22 = .ok (.iaload, 1) := by decide +kernel
theorem d_M_gone_23 : decode mi_M_gone.2.1 23 = .ok (.iconst 1, 1) := by decide +kernel
theorem d_M_gone_24 : decode mi_M_gone.2.1 24 = .ok (.isub, 1) := by decide +kernel
theorem d_M_gone_25 : decode mi_M_gone.2.1 25 = .ok (.istore_n 3, 1) := by decide +kernel
theorem d_M_gone_26 : decode mi_M_gone.2.1 26 = .ok (.iconst 0, 1) := by decide +kernel
theorem d_M_gone_27 : decode mi_M_gone.2.1 27 = .ok (.istore 4, 2) := by decide +kernel
theorem d_M_gone_29 : decode mi_M_gone.2.1 29 = .ok (.iload 4, 2) := by decide +kernel
theorem d_M_gone_31 : decode mi_M_gone.2.1 31 = .ok (.aload_n 0, 1) := by decide +kernel
theorem d_M_gone_32 : decode mi_M_gone.2.1 32 = .ok (.getfield 9, 3) := by decide +kernel
theorem d_M_gone_35 : decode mi_M_gone.2.1 35 = .ok (.iconst 1, 1) := by decide +kernel
theorem d_M_gone_36 : decode mi_M_gone.2.1 36 = .ok (.iaload, 1) := by decide +kernel
theorem d_M_gone_37 : decode mi_M_gone.2.1 37 = .ok (.if_icmp .ge 81, 3) := by decide +kernel
theorem d_M_gone_40 : decode mi_M_gone.2.1 40 = .ok (.aload_n 0, 1) := by decide +kernel
theorem d_M_gone_41 : decode mi_M_gone.2.1 41 = .ok (.iload 4, 2) := by decide +kernel
theorem d_M_gone_43 : decode mi_M_gone.2.1 43 = .ok (.iload_n 1, 1) := by decide +kernel
theorem d_M_gone_44 : decode mi_M_gone.2.1 44 = .ok (.invokevirtual 179, 3) := by decide +kernel
theorem d_M_gone_47 : decode mi_M_gone.2.1 47 = .ok (.istore 5, 2) := by decide +kernel
theorem d_M_gone_49 : decode mi_M_gone.2.1 49 = .ok (.iload 5, 2) := by decide +kernel
theorem d_M_gone_51 : decode mi_M_gone.2.1 51 = .ok (.ifCond .lt 11, 3) := by decide +kernel
theorem d_M_gone_54 : decode mi_M_gone.2.1 54 = .ok (.aload_n 0, 1) := by decide +kernel
theorem d_M_gone_55 : decode mi_M_gone.2.1 55 = .ok (.iload 4, 2) := by decide +kernel
theorem d_M_gone_57 : decode mi_M_gone.2.1 57 = .ok (.iload 5, 2) := by decide +kernel
theorem d_M_gone_59 : decode mi_M_gone.2.1 59 = .ok (.invokevirtual 216, 3) := by decide +kernel
theorem d_M_gone_62 : decode mi_M_gone.2.1 62 = .ok (.iload_n 2, 1) := by decide +kernel
theorem d_M_gone_63 : decode mi_M_gone.2.1 63 = .ok (.istore 6, 2) := by decide +kernel
theorem d_M_gone_65 : decode mi_M_gone.2.1 65 = .ok (.iload 6, 2) := by decide +kernel
theorem d_M_gone_67 : decode mi_M_gone.2.1 67 = .ok (.iload_n 3, 1) := by decide +kernel
theorem d_M_gone_68 : decode mi_M_gone.2.1 68 = .ok (.if_icmp .ge 33, 3) := by decide +kernel
theorem d_M_gone_71 : decode mi_M_gone.2.1 71 = .ok (.aload_n 0, 1) := by decide +kernel
theorem d_M_gone_72 : decode mi_M_gone.2.1 72 = .ok (.iload 4, 2) := by decide +kernel
theorem d_M_gone_74 : decode mi_M_gone.2.1 74 = .ok (.bipush 36, 2) := by decide +kernel
theorem d_M_gone_76 : decode mi_M_gone.2.1 76 = .ok (.iload 6, 2) := by decide +kernel
theorem d_M_gone_78 : decode mi_M_gone.2.1 78 = .ok (.iadd, 1) := by decide +kernel
theorem d_M_gone_79 : decode mi_M_gone.2.1 79 = .ok (.aload_n 0, 1) := by decide +kernel
theorem d_M_gone_80 : decode mi_M_gone.2.1 80 = .ok (.iload 4, 2) := by decide +kernel
theorem d_M_gone_82 : decode mi_M_gone.2.1 82 = .ok (.bipush 36, 2) := by decide +kernel
theorem d_M_gone_84 : decode mi_M_gone.2.1 84 = .ok (.iload 6, 2) := by decide +kernel
theorem d_M_gone_86 : decode mi_M_gone.2.1 86 = .ok (.iadd, 1) := by decide +kernel
theorem d_M_gone_87 : decode mi_M_gone.2.1 87 = .ok (.iconst 1, 1) := by decide +kernel
theorem d_M_gone_88 : decode mi_M_gone.2.1 88 = .ok (.iadd, 1) := by decide +kernel
theorem d_M_gone_89 : decode mi_M_gone.2.1 89 = .ok (.invokevirtual 76, 3) := by decide +kernel
theorem d_M_gone_92 : decode mi_M_gone.2.1 92 = .ok (.invokevirtual 157, 3) := by decide +kernel
theorem d_M_gone_95 : decode mi_M_gone.2.1 95 = .ok (.iinc 6 1, 3) := by decide +kernel
theorem d_M_gone_98 : decode mi_M_gone.2.1 98 = .ok (.goto (-33), 3) := by decide +kernel
theorem d_M_gone_101 : decode mi_M_gone.2.1 101 = .ok (.aload_n 0, 1) := by decide +kernel
theorem d_M_gone_102 : decode mi_M_gone.2.1 102 = .ok (.iload 4, 2) := by decide +kernel
theorem d_M_gone_104 : decode mi_M_gone.2.1 104 = .ok (.bipush 36, 2) := by decide +kernel
theorem d_M_gone_106 : decode mi_M_gone.2.1 106 = .ok (.iload_n 3, 1) := by decide +kernel
theorem d_M_gone_107 : decode mi_M_gone.2.1 107 = .ok (.iadd, 1) := by decide +kernel
theorem d_M_gone_108 : decode mi_M_gone.2.1 108 = .ok (.iconst 0, 1) := by decide +kernel
theorem d_M_gone_109 : decode mi_M_gone.2.1 109 = .ok (.invokevirtual 157, 3) := by decide +kernel
theorem d_M_gone_112 : decode mi_M_gone.2.1 112 = .ok (.iinc 4 1, 3) := by decide +kernel
theorem d_M_gone_115 : decode mi_M_gone.2.1 115 = .ok (.goto (-86), 3) := by decide +kernel
theorem d_M_gone_118 : decode mi_M_gone.2.1 118 = .ok (.iconst 2, 1) := by decide +kernel
theorem d_M_gone_119 : decode mi_M_gone.2.1 119 = .ok (.iload_n 2, 1) := by decide +kernel
theorem d_M_gone_120 : decode mi_M_gone.2.1 120 = .ok (.imul, 1) := by decide +kernel
theorem d_M_gone_121 : decode mi_M_gone.2.1 121 = .ok (.istore 4, 2) := by decide +kernel
theorem d_M_gone_123 : decode mi_M_gone.2.1 123 = .ok (.iload 4, 2) := by decide +kernel
theorem d_M_gone_125 : decode mi_M_gone.2.1 125 = .ok (.iconst 2, 1) := by decide +kernel
theorem d_M_gone_126 : decode mi_M_gone.2.1 126 = .ok (.iload_n 3, 1) := by decide +kernel
theorem d_M_gone_127 : decode mi_M_gone.2.1 127 = .ok (.imul, 1) := by decide +kernel
theorem d_M_gone_128 : decode mi_M_gone.2.1 128 = .ok (.if_icmp .ge 31, 3) := by decide +kernel
theorem d_M_gone_131 : decode mi_M_gone.2.1 131 = .ok (.aload_n 0, 1) := by decide +kernel
theorem d_M_gone_132 : decode mi_M_gone.2.1 132 = .ok (.getfield 9, 3) := by decide +kernel
theorem d_M_gone_135 : decode mi_M_gone.2.1 135 = .ok (.bipush 6, 2) := by decide +kernel
theorem d_M_gone_137 : decode mi_M_gone.2.1 137 = .ok (.iload 4, 2) := by decide +kernel
theorem d_M_gone_139 : decode mi_M_gone.2.1 139 = .ok (.iadd, 1) := by decide +kernel
theorem d_M_gone_140 : decode mi_M_gone.2.1 140 = .ok (.aload_n 0, 1) := by decide +kernel
theorem d_M_gone_141 : decode mi_M_gone.2.1 141 = .ok (.getfield 9, 3) := by decide +kernel
theorem d_M_gone_144 : decode mi_M_gone.2.1 144 = .ok (.bipush 6, 2) := by decide +kernel
theorem d_M_gone_146 : decode mi_M_gone.2.1 146 = .ok (.iload 4, 2) := by decide +kernel
theorem d_M_gone_148 : decode mi_M_gone.2.1 148 = .ok (.iadd, 1) := by decide +kernel
theorem d_M_gone_149 : decode mi_M_gone.2.1 149 = .ok (.iconst 2, 1) := by decide +kernel
theorem d_M_gone_150 : decode mi_M_gone.2.1 150 = .ok (.iadd, 1) := by decide +kernel
theorem d_M_gone_151 : decode mi_M_gone.2.1 151 = .ok (.iaload, 1) := by decide +kernel
theorem d_M_gone_152 : decode mi_M_gone.2.1 152 = .ok (.iastore, 1) := by decide +kernel
theorem d_M_gone_153 : decode mi_M_gone.2.1 153 = .ok (.iinc 4 1, 3) := by decide +kernel
theorem d_M_gone_156 : decode mi_M_gone.2.1 156 = .ok (.goto (-33), 3) := by decide +kernel
theorem d_M_gone_159 : decode mi_M_gone.2.1 159 = .ok (.aload_n 0, 1) := by decide +kernel
theorem d_M_gone_160 : decode mi_M_gone.2.1 160 = .ok (.getfield 9, 3) := by decide +kernel
theorem d_M_gone_163 : decode mi_M_gone.2.1 163 = .ok (.iconst 0, 1) := by decide +kernel
theorem d_M_gone_164 : decode mi_M_gone.2.1 164 = .ok (.iload_n 3, 1) := by decide +kernel
theorem d_M_gone_165 : decode mi_M_gone.2.1 165 = .ok (.iastore, 1) := by decide +kernel
theorem d_M_gone_166 : decode mi_M_gone.2.1 166 = .ok (.iload_n 3, 1) := by decide +kernel
theorem d_M_gone_167 : decode mi_M_gone.2.1 167 = .ok (.ireturn, 1) := by decide +kernel
theorem d_M_loses_0 : decode mi_M_loses.2.1 0 = .ok (.aload_n 0, 1) := by decide +kernel
theorem d_M_loses_1 : decode mi_M_loses.2.1 1 = .ok (.iload_n 1, 1) := by decide +kernel
theorem d_M_loses_2 : decode mi_M_loses.2.1 2 = .ok (.bipush 6, 2) := by decide +kernel
theorem d_M_loses_4 : decode mi_M_loses.2.1 4 = .ok (.invokevirtual 76, 3) := by decide +kernel
theorem d_M_loses_7 : decode mi_M_loses.2.1 7 = .ok (.iconst 1, 1) := by decide +kernel
theorem d_M_loses_8 : decode mi_M_loses.2.1 8 = .ok (.isub, 1) := by decide +kernel
theorem d_M_loses_9 : decode mi_M_loses.2.1 9 = .ok (.istore_n 3, 1) := by decide +kernel
theorem d_M_loses_10 : decode mi_M_loses.2.1 10 = .ok (.iconst 2, 1) := by decide +kernel
theorem d_M_loses_11 : decode mi_M_loses.2.1 11 = .ok (.iload_n 2, 1) := by decide +kernel
theorem d_M_loses_12 : decode mi_M_loses.2.1 12 = .ok (.imul, 1) := by decide +kernel
theorem d_M_loses_13 : decode mi_M_loses.2.1 13 = .ok (.istore 4, 2) := by decide +kernel
theorem d_M_loses_15 : decode mi_M_loses.2.1 15 = .ok (.iload 4, 2) := by decide +kernel
theorem d_M_loses_17 : decode mi_M_loses.2.1 17 = .ok (.iconst 2, 1) := by decide +kernel
theorem d_M_loses_18 : decode mi_M_loses.2.1 18 = .ok (.iload_n 3, 1) := by decide +kernel
theorem d_M_loses_19 : decode mi_M_loses.2.1 19 = .ok (.imul, 1) := by decide +kernel
theorem d_M_loses_20 : decode mi_M_loses.2.1 20 = .ok (.if_icmp .ge 31, 3) := by decide +kernel
theorem d_M_loses_23 : decode mi_M_loses.2.1 23 = .ok (.aload_n 0, 1) := by decide +kernel
theorem d_M_loses_24 : decode mi_M_loses.2.1 24 = .ok (.iload_n 1, 1) := by decide +kernel
theorem d_M_loses_25 : decode mi_M_loses.2.1 25 = .ok (.bipush 20, 2) := by decide +kernel
theorem d_M_loses_27 : decode mi_M_loses.2.1 27 = .ok (.iload 4, 2) := by decide +kernel
theorem d_M_loses_29 : decode mi_M_loses.2.1 29 = .ok (.iadd, 1) := by decide +kernel
theorem d_M_loses_30 : decode mi_M_loses.2.1 30 = .ok (.aload_n 0, 1) := by decide +kernel
theorem d_M_loses_31 : decode mi_M_loses.2.1 31 = .ok (.iload_n 1, 1) := by decide +kernel
theorem d_M_loses_32 : decode mi_M_loses.2.1 32 = .ok (.bipush 20, 2) := by decide +kernel
theorem d_M_loses_34 : decode mi_M_loses.2.1 34 = .ok (.iload 4, 2) := by decide +kernel
theorem d_M_loses_36 : decode mi_M_loses.2.1 36 = .ok (.iadd, 1) := by decide +kernel
theorem d_M_loses_37 : decode mi_M_loses.2.1 37 = .ok (.iconst 2, 1) := by decide +kernel
theorem d_M_loses_38 : decode mi_M_loses.2.1 38 = .ok (.iadd, 1) := by decide +kernel
theorem d_M_loses_39 : decode mi_M_loses.2.1 39 = .ok (.invokevirtual 76, 3) := by decide +kernel
theorem d_M_loses_42 : decode mi_M_loses.2.1 42 = .ok (.invokevirtual 157, 3) := by decide +kernel
theorem d_M_loses_45 : decode mi_M_loses.2.1 45 = .ok (.iinc 4 1, 3) := by decide +kernel
theorem d_M_loses_48 : decode mi_M_loses.2.1 48 = .ok (.goto (-33), 3) := by decide +kernel
theorem d_M_loses_51 : decode mi_M_loses.2.1 51 = .ok (.aload_n 0, 1) := by decide +kernel
theorem d_M_loses_52 : decode mi_M_loses.2.1 52 = .ok (.iload_n 1, 1) := by decide +kernel
theorem d_M_loses_53 : decode mi_M_loses.2.1 53 = .ok (.bipush 6, 2) := by decide +kernel
theorem d_M_loses_55 : decode mi_M_loses.2.1 55 = .ok (.iload_n 3, 1) := by decide +kernel
theorem d_M_loses_56 : decode mi_M_loses.2.1 56 = .ok (.invokevirtual 157, 3) := by decide +kernel
theorem d_M_loses_59 : decode mi_M_loses.2.1 59 = .ok (.return_, 1) := by decide +kernel
theorem d_M_personOf_0 : decode mi_M_personOf.2.1 0 = .ok (.iload_n 1, 1) := by decide +kernel
theorem d_M_personOf_1 : decode mi_M_personOf.2.1 1 = .ok (.i2l, 1) := by decide +kernel
theorem d_M_personOf_2 : decode mi_M_personOf.2.1 2 = .ok (.lconst 0, 1) := by decide +kernel
theorem d_M_personOf_3 : decode mi_M_personOf.2.1 3 = .ok (.aload_n 0, 1) := by decide +kernel
theorem d_M_personOf_4 : decode mi_M_personOf.2.1 4 = .ok (.getfield 9, 3) := by decide +kernel
theorem d_M_personOf_7 : decode mi_M_personOf.2.1 7 = .ok (.iconst 0, 1) := by decide +kernel
theorem d_M_personOf_8 : decode mi_M_personOf.2.1 8 = .ok (.iaload, 1) := by decide +kernel
theorem d_M_personOf_9 : decode mi_M_personOf.2.1 9 = .ok (.iconst 1, 1) := by decide +kernel
theorem d_M_personOf_10 : decode mi_M_personOf.2.1 10 = .ok (.isub, 1) := by decide +kernel
theorem d_M_personOf_11 : decode mi_M_personOf.2.1 11 = .ok (.i2l, 1) := by decide +kernel
theorem d_M_personOf_12 : decode mi_M_personOf.2.1 12 = .ok (.invokestatic 68, 3) := by decide +kernel
theorem d_M_personOf_15 : decode mi_M_personOf.2.1 15 = .ok (.ifCond .eq 11, 3) := by decide +kernel
theorem d_M_personOf_18 : decode mi_M_personOf.2.1 18 = .ok (.aload_n 0, 1) := by decide +kernel
theorem d_M_personOf_19 : decode mi_M_personOf.2.1 19 = .ok (.iload_n 1, 1) := by decide +kernel
theorem d_M_personOf_20 : decode mi_M_personOf.2.1 20 = .ok (.invokevirtual 84, 3) := by decide +kernel
theorem d_M_personOf_23 : decode mi_M_personOf.2.1 23 = .ok (.goto 9, 3) := by decide +kernel
theorem d_M_personOf_26 : decode mi_M_personOf.2.1 26 = .ok (.aload_n 0, 1) := by decide +kernel
theorem d_M_personOf_27 : decode mi_M_personOf.2.1 27 = .ok (.bipush (-32), 2) := by decide +kernel
theorem d_M_personOf_29 : decode mi_M_personOf.2.1 29 = .ok (.invokevirtual 106, 3) := by decide +kernel
theorem d_M_personOf_32 : decode mi_M_personOf.2.1 32 = .ok (.ireturn, 1) := by decide +kernel
theorem d_M_attributes_0 : decode mi_M_attributes.2.1 0 = .ok (.aload_n 0, 1) := by decide +kernel
theorem d_M_attributes_1 : decode mi_M_attributes.2.1 1 = .ok (.iload_n 1, 1) := by decide +kernel
theorem d_M_attributes_2 : decode mi_M_attributes.2.1 2 = .ok (.invokevirtual 204, 3) := by decide +kernel
theorem d_M_attributes_5 : decode mi_M_attributes.2.1 5 = .ok (.istore_n 2, 1) := by decide +kernel
theorem d_M_attributes_6 : decode mi_M_attributes.2.1 6 = .ok (.iload_n 2, 1) := by decide +kernel
theorem d_M_attributes_7 : decode mi_M_attributes.2.1 7 = .ok (.ifCond .lt 19, 3) := by decide +kernel
theorem d_M_attributes_10 : decode mi_M_attributes.2.1 10 = .ok (.aload_n 0, 1) := by decide +kernel
theorem d_M_attributes_11 : decode mi_M_attributes.2.1 11 = .ok (.getfield 9, 3) := by decide +kernel
theorem d_M_attributes_14 : decode mi_M_attributes.2.1 14 = .ok (.bipush 6, 2) := by decide +kernel
theorem d_M_attributes_16 : decode mi_M_attributes.2.1 16 = .ok (.iconst 2, 1) := by decide +kernel
theorem d_M_attributes_17 : decode mi_M_attributes.2.1 17 = .ok (.iload_n 2, 1) := by decide +kernel
theorem d_M_attributes_18 : decode mi_M_attributes.2.1 18 = .ok (.imul, 1) := by decide +kernel
theorem d_M_attributes_19 : decode mi_M_attributes.2.1 19 = .ok (.iadd, 1) := by decide +kernel
theorem d_M_attributes_20 : decode mi_M_attributes.2.1 20 = .ok (.iconst 1, 1) := by decide +kernel
theorem d_M_attributes_21 : decode mi_M_attributes.2.1 21 = .ok (.iadd, 1) := by decide +kernel
theorem d_M_attributes_22 : decode mi_M_attributes.2.1 22 = .ok (.iaload, 1) := by decide +kernel
theorem d_M_attributes_23 : decode mi_M_attributes.2.1 23 = .ok (.goto 9, 3) := by decide +kernel
theorem d_M_attributes_26 : decode mi_M_attributes.2.1 26 = .ok (.aload_n 0, 1) := by decide +kernel
theorem d_M_attributes_27 : decode mi_M_attributes.2.1 27 = .ok (.bipush (-32), 2) := by decide +kernel
theorem d_M_attributes_29 : decode mi_M_attributes.2.1 29 = .ok (.invokevirtual 106, 3) := by decide +kernel
theorem d_M_attributes_32 : decode mi_M_attributes.2.1 32 = .ok (.ireturn, 1) := by decide +kernel
theorem d_M_bucket_0 : decode mi_M_bucket.2.1 0 = .ok (.iload_n 1, 1) := by decide +kernel
theorem d_M_bucket_1 : decode mi_M_bucket.2.1 1 = .ok (.i2l, 1) := by decide +kernel
theorem d_M_bucket_2 : decode mi_M_bucket.2.1 2 = .ok (.lconst 0, 1) := by decide +kernel
theorem d_M_bucket_3 : decode mi_M_bucket.2.1 3 = .ok (.ldc2_w 219, 3) := by decide +kernel
theorem d_M_bucket_6 : decode mi_M_bucket.2.1 6 = .ok (.invokestatic 68, 3) := by decide +kernel
theorem d_M_bucket_9 : decode mi_M_bucket.2.1 9 = .ok (.ifCond .eq 23, 3) := by decide +kernel
theorem d_M_bucket_12 : decode mi_M_bucket.2.1 12 = .ok (.iload_n 2, 1) := by decide +kernel
theorem d_M_bucket_13 : decode mi_M_bucket.2.1 13 = .ok (.i2l, 1) := by decide +kernel
theorem d_M_bucket_14 : decode mi_M_bucket.2.1 14 = .ok (.lconst 0, 1) := by decide +kernel
theorem d_M_bucket_15 : decode mi_M_bucket.2.1 15 = .ok (.ldc2_w 212, 3) := by decide +kernel
theorem d_M_bucket_18 : decode mi_M_bucket.2.1 18 = .ok (.invokestatic 68, 3) := by decide +kernel
theorem d_M_bucket_21 : decode mi_M_bucket.2.1 21 = .ok (.ifCond .eq 11, 3) := by decide +kernel
theorem d_M_bucket_24 : decode mi_M_bucket.2.1 24 = .ok (.iload_n 1, 1) := by decide +kernel
theorem d_M_bucket_25 : decode mi_M_bucket.2.1 25 = .ok (.iload_n 2, 1) := by decide +kernel
theorem d_M_bucket_26 : decode mi_M_bucket.2.1 26 = .ok (.invokestatic 161, 3) := by decide +kernel
theorem d_M_bucket_29 : decode mi_M_bucket.2.1 29 = .ok (.goto 9, 3) := by decide +kernel
theorem d_M_bucket_32 : decode mi_M_bucket.2.1 32 = .ok (.aload_n 0, 1) := by decide +kernel
theorem d_M_bucket_33 : decode mi_M_bucket.2.1 33 = .ok (.bipush (-32), 2) := by decide +kernel
theorem d_M_bucket_35 : decode mi_M_bucket.2.1 35 = .ok (.invokevirtual 106, 3) := by decide +kernel
theorem d_M_bucket_38 : decode mi_M_bucket.2.1 38 = .ok (.ireturn, 1) := by decide +kernel
theorem d_M_feature_0 : decode mi_M_feature.2.1 0 = .ok (.iload_n 1, 1) := by decide +kernel
theorem d_M_feature_1 : decode mi_M_feature.2.1 1 = .ok (.i2l, 1) := by decide +kernel
theorem d_M_feature_2 : decode mi_M_feature.2.1 2 = .ok (.lconst 1, 1) := by decide +kernel
theorem d_M_feature_3 : decode mi_M_feature.2.1 3 = .ok (.ldc2_w 210, 3) := by decide +kernel
theorem d_M_feature_6 : decode mi_M_feature.2.1 6 = .ok (.invokestatic 68, 3) := by decide +kernel
theorem d_M_feature_9 : decode mi_M_feature.2.1 9 = .ok (.ifCond .ne 10, 3) := by decide +kernel
theorem d_M_feature_12 : decode mi_M_feature.2.1 12 = .ok (.aload_n 0, 1) := by decide +kernel
theorem d_M_feature_13 : decode mi_M_feature.2.1 13 = .ok (.bipush (-32), 2) := by decide +kernel
theorem d_M_feature_15 : decode mi_M_feature.2.1 15 = .ok (.invokevirtual 106, 3) := by decide +kernel
theorem d_M_feature_18 : decode mi_M_feature.2.1 18 = .ok (.ireturn, 1) := by decide +kernel
theorem d_M_feature_19 : decode mi_M_feature.2.1 19 = .ok (.aload_n 0, 1) := by decide +kernel
theorem d_M_feature_20 : decode mi_M_feature.2.1 20 = .ok (.getfield 9, 3) := by decide +kernel
theorem d_M_feature_23 : decode mi_M_feature.2.1 23 = .ok (.iconst 1, 1) := by decide +kernel
theorem d_M_feature_24 : decode mi_M_feature.2.1 24 = .ok (.iaload, 1) := by decide +kernel
theorem d_M_feature_25 : decode mi_M_feature.2.1 25 = .ok (.istore_n 2, 1) := by decide +kernel
theorem d_M_feature_26 : decode mi_M_feature.2.1 26 = .ok (.iload_n 2, 1) := by decide +kernel
theorem d_M_feature_27 : decode mi_M_feature.2.1 27 = .ok (.bipush 12, 2) := by decide +kernel
theorem d_M_feature_29 : decode mi_M_feature.2.1 29 = .ok (.if_icmp .ne 10, 3) := by decide +kernel
theorem d_M_feature_32 : decode mi_M_feature.2.1 32 = .ok (.aload_n 0, 1) := by decide +kernel
theorem d_M_feature_33 : decode mi_M_feature.2.1 33 = .ok (.bipush (-36), 2) := by decide +kernel
theorem d_M_feature_35 : decode mi_M_feature.2.1 35 = .ok (.invokevirtual 106, 3) := by decide +kernel
theorem d_M_feature_38 : decode mi_M_feature.2.1 38 = .ok (.ireturn, 1) := by decide +kernel
theorem d_M_feature_39 : decode mi_M_feature.2.1 39 = .ok (.iconst 0, 1) := by decide +kernel
theorem d_M_feature_40 : decode mi_M_feature.2.1 40 = .ok (.istore_n 3, 1) := by decide +kernel
theorem d_M_feature_41 : decode mi_M_feature.2.1 41 = .ok (.iload_n 3, 1) := by decide +kernel
theorem d_M_feature_42 : decode mi_M_feature.2.1 42 = .ok (.bipush 84, 2) := by decide +kernel
theorem d_M_feature_44 : decode mi_M_feature.2.1 44 = .ok (.if_icmp .ge 16, 3) := by decide +kernel
theorem d_M_feature_47 : decode mi_M_feature.2.1 47 = .ok (.aload_n 0, 1) := by decide +kernel
theorem d_M_feature_48 : decode mi_M_feature.2.1 48 = .ok (.iload_n 2, 1) := by decide +kernel
theorem d_M_feature_49 : decode mi_M_feature.2.1 49 = .ok (.iload_n 3, 1) := by decide +kernel
theorem d_M_feature_50 : decode mi_M_feature.2.1 50 = .ok (.iconst 0, 1) := by decide +kernel
theorem d_M_feature_51 : decode mi_M_feature.2.1 51 = .ok (.invokevirtual 157, 3) := by decide +kernel
theorem d_M_feature_54 : decode mi_M_feature.2.1 54 = .ok (.iinc 3 1, 3) := by decide +kernel
theorem d_M_feature_57 : decode mi_M_feature.2.1 57 = .ok (.goto (-16), 3) := by decide +kernel
theorem d_M_feature_60 : decode mi_M_feature.2.1 60 = .ok (.aload_n 0, 1) := by decide +kernel
theorem d_M_feature_61 : decode mi_M_feature.2.1 61 = .ok (.iload_n 2, 1) := by decide +kernel
theorem d_M_feature_62 : decode mi_M_feature.2.1 62 = .ok (.iconst 0, 1) := by decide +kernel
theorem d_M_feature_63 : decode mi_M_feature.2.1 63 = .ok (.iload_n 1, 1) := by decide +kernel
theorem d_M_feature_64 : decode mi_M_feature.2.1 64 = .ok (.invokevirtual 157, 3) := by decide +kernel
theorem d_M_feature_67 : decode mi_M_feature.2.1 67 = .ok (.aload_n 0, 1) := by decide +kernel
theorem d_M_feature_68 : decode mi_M_feature.2.1 68 = .ok (.iload_n 2, 1) := by decide +kernel
theorem d_M_feature_69 : decode mi_M_feature.2.1 69 = .ok (.bipush 7, 2) := by decide +kernel
theorem d_M_feature_71 : decode mi_M_feature.2.1 71 = .ok (.iconst (-1), 1) := by decide +kernel
theorem d_M_feature_72 : decode mi_M_feature.2.1 72 = .ok (.invokevirtual 157, 3) := by decide +kernel
theorem d_M_feature_75 : decode mi_M_feature.2.1 75 = .ok (.aload_n 0, 1) := by decide +kernel
theorem d_M_feature_76 : decode mi_M_feature.2.1 76 = .ok (.getfield 9, 3) := by decide +kernel
theorem d_M_feature_79 : decode mi_M_feature.2.1 79 = .ok (.iconst 1, 1) := by decide +kernel
theorem d_M_feature_80 : decode mi_M_feature.2.1 80 = .ok (.iload_n 2, 1) := by decide +kernel
theorem d_M_feature_81 : decode mi_M_feature.2.1 81 = .ok (.iconst 1, 1) := by decide +kernel
theorem d_M_feature_82 : decode mi_M_feature.2.1 82 = .ok (.iadd, 1) := by decide +kernel
theorem d_M_feature_83 : decode mi_M_feature.2.1 83 = .ok (.iastore, 1) := by decide +kernel
theorem d_M_feature_84 : decode mi_M_feature.2.1 84 = .ok (.iload_n 2, 1) := by decide +kernel
theorem d_M_feature_85 : decode mi_M_feature.2.1 85 = .ok (.ireturn, 1) := by decide +kernel
theorem d_M_tell_0 : decode mi_M_tell.2.1 0 = .ok (.aload_n 0, 1) := by decide +kernel
theorem d_M_tell_1 : decode mi_M_tell.2.1 1 = .ok (.iload_n 1, 1) := by decide +kernel
theorem d_M_tell_2 : decode mi_M_tell.2.1 2 = .ok (.invokevirtual 72, 3) := by decide +kernel
theorem d_M_tell_5 : decode mi_M_tell.2.1 5 = .ok (.ifCond .eq 40, 3) := by decide +kernel
theorem d_M_tell_8 : decode mi_M_tell.2.1 8 = .ok (.iload_n 2, 1) := by decide +kernel
theorem d_M_tell_9 : decode mi_M_tell.2.1 9 = .ok (.i2l, 1) := by decide +kernel
theorem d_M_tell_10 : decode mi_M_tell.2.1 10 = .ok (.lconst 0, 1) := by decide +kernel
theorem d_M_tell_11 : decode mi_M_tell.2.1 11 = .ok (.ldc2_w 221, 3) := by decide +kernel
theorem d_M_tell_14 : decode mi_M_tell.2.1 14 = .ok (.invokestatic 68, 3) := by decide +kernel
theorem d_M_tell_17 : decode mi_M_tell.2.1 17 = .ok (.ifCond .eq 28, 3) := by decide +kernel
theorem d_M_tell_20 : decode mi_M_tell.2.1 20 = .ok (.iload_n 3, 1) := by decide +kernel
theorem d_M_tell_21 : decode mi_M_tell.2.1 21 = .ok (.i2l, 1) := by decide +kernel
theorem d_M_tell_22 : decode mi_M_tell.2.1 22 = .ok (.lconst 0, 1) := by decide +kernel
theorem d_M_tell_23 : decode mi_M_tell.2.1 23 = .ok (.iload_n 2, 1) := by decide +kernel
theorem d_M_tell_24 : decode mi_M_tell.2.1 24 = .ok (.iconst 2, 1) := by decide +kernel
theorem d_M_tell_25 : decode mi_M_tell.2.1 25 = .ok (.if_icmp .ne 13, 3) := by decide +kernel
theorem d_M_tell_28 : decode mi_M_tell.2.1 28 = .ok (.aload_n 0, 1) := by decide +kernel
theorem d_M_tell_29 : decode mi_M_tell.2.1 29 = .ok (.iload_n 1, 1) := by decide +kernel
theorem d_M_tell_30 : decode mi_M_tell.2.1 30 = .ok (.iconst 0, 1) := by decide +kernel
theorem d_M_tell_31 : decode mi_M_tell.2.1 31 = .ok (.invokevirtual 76, 3) := by decide +kernel
theorem d_M_tell_34 : decode mi_M_tell.2.1 34 = .ok (.i2l, 1) := by decide +kernel
theorem d_M_tell_35 : decode mi_M_tell.2.1 35 = .ok (.goto 4, 3) := by decide +kernel
theorem d_M_tell_38 : decode mi_M_tell.2.1 38 = .ok (.lconst 1, 1) := by decide +kernel
theorem d_M_tell_39 : decode mi_M_tell.2.1 39 = .ok (.invokestatic 68, 3) := by decide +kernel
theorem d_M_tell_42 : decode mi_M_tell.2.1 42 = .ok (.ifCond .ne 10, 3) := by decide +kernel
theorem d_M_tell_45 : decode mi_M_tell.2.1 45 = .ok (.aload_n 0, 1) := by decide +kernel
theorem d_M_tell_46 : decode mi_M_tell.2.1 46 = .ok (.bipush (-32), 2) := by decide +kernel
theorem d_M_tell_48 : decode mi_M_tell.2.1 48 = .ok (.invokevirtual 106, 3) := by decide +kernel
theorem d_M_tell_51 : decode mi_M_tell.2.1 51 = .ok (.ireturn, 1) := by decide +kernel
theorem d_M_tell_52 : decode mi_M_tell.2.1 52 = .ok (.aload_n 0, 1) := by decide +kernel
theorem d_M_tell_53 : decode mi_M_tell.2.1 53 = .ok (.iload_n 1, 1) := by decide +kernel
theorem d_M_tell_54 : decode mi_M_tell.2.1 54 = .ok (.iconst 1, 1) := by decide +kernel
theorem d_M_tell_55 : decode mi_M_tell.2.1 55 = .ok (.iload_n 2, 1) := by decide +kernel
theorem d_M_tell_56 : decode mi_M_tell.2.1 56 = .ok (.iadd, 1) := by decide +kernel
theorem d_M_tell_57 : decode mi_M_tell.2.1 57 = .ok (.invokevirtual 76, 3) := by decide +kernel
theorem d_M_tell_60 : decode mi_M_tell.2.1 60 = .ok (.istore 4, 2) := by decide +kernel
theorem d_M_tell_62 : decode mi_M_tell.2.1 62 = .ok (.aload_n 0, 1) := by decide +kernel
theorem d_M_tell_63 : decode mi_M_tell.2.1 63 = .ok (.iload_n 1, 1) := by decide +kernel
theorem d_M_tell_64 : decode mi_M_tell.2.1 64 = .ok (.iconst 1, 1) := by decide +kernel
theorem d_M_tell_65 : decode mi_M_tell.2.1 65 = .ok (.iload_n 2, 1) := by decide +kernel
theorem d_M_tell_66 : decode mi_M_tell.2.1 66 = .ok (.iadd, 1) := by decide +kernel
theorem d_M_tell_67 : decode mi_M_tell.2.1 67 = .ok (.iload_n 3, 1) := by decide +kernel
theorem d_M_tell_68 : decode mi_M_tell.2.1 68 = .ok (.invokevirtual 157, 3) := by decide +kernel
theorem d_M_tell_71 : decode mi_M_tell.2.1 71 = .ok (.iload 4, 2) := by decide +kernel
theorem d_M_tell_73 : decode mi_M_tell.2.1 73 = .ok (.ireturn, 1) := by decide +kernel
theorem d_M_drop_0 : decode mi_M_drop.2.1 0 = .ok (.aload_n 0, 1) := by decide +kernel
theorem d_M_drop_1 : decode mi_M_drop.2.1 1 = .ok (.iload_n 1, 1) := by decide +kernel
theorem d_M_drop_2 : decode mi_M_drop.2.1 2 = .ok (.iload_n 2, 1) := by decide +kernel
theorem d_M_drop_3 : decode mi_M_drop.2.1 3 = .ok (.invokevirtual 223, 3) := by decide +kernel
theorem d_M_drop_6 : decode mi_M_drop.2.1 6 = .ok (.ifCond .ne 10, 3) := by decide +kernel
theorem d_M_drop_9 : decode mi_M_drop.2.1 9 = .ok (.aload_n 0, 1) := by decide +kernel
theorem d_M_drop_10 : decode mi_M_drop.2.1 10 = .ok (.bipush (-32), 2) := by decide +kernel
theorem d_M_drop_12 : decode mi_M_drop.2.1 12 = .ok (.invokevirtual 106, 3) := by decide +kernel
theorem d_M_drop_15 : decode mi_M_drop.2.1 15 = .ok (.ireturn, 1) := by decide +kernel
theorem d_M_drop_16 : decode mi_M_drop.2.1 16 = .ok (.aload_n 0, 1) := by decide +kernel
theorem d_M_drop_17 : decode mi_M_drop.2.1 17 = .ok (.iload_n 1, 1) := by decide +kernel
theorem d_M_drop_18 : decode mi_M_drop.2.1 18 = .ok (.iconst 4, 1) := by decide +kernel
theorem d_M_drop_19 : decode mi_M_drop.2.1 19 = .ok (.invokevirtual 76, 3) := by decide +kernel
theorem d_M_drop_22 : decode mi_M_drop.2.1 22 = .ok (.iconst 1, 1) := by decide +kernel
theorem d_M_drop_23 : decode mi_M_drop.2.1 23 = .ok (.isub, 1) := by decide +kernel
theorem d_M_drop_24 : decode mi_M_drop.2.1 24 = .ok (.istore_n 3, 1) := by decide +kernel
theorem d_M_drop_25 : decode mi_M_drop.2.1 25 = .ok (.bipush 60, 2) := by decide +kernel
theorem d_M_drop_27 : decode mi_M_drop.2.1 27 = .ok (.iconst 4, 1) := by decide +kernel
theorem d_M_drop_28 : decode mi_M_drop.2.1 28 = .ok (.iload_n 2, 1) := by decide +kernel
theorem d_M_drop_29 : decode mi_M_drop.2.1 29 = .ok (.imul, 1) := by decide +kernel
theorem d_M_drop_30 : decode mi_M_drop.2.1 30 = .ok (.iadd, 1) := by decide +kernel
theorem d_M_drop_31 : decode mi_M_drop.2.1 31 = .ok (.istore 4, 2) := by decide +kernel
theorem d_M_drop_33 : decode mi_M_drop.2.1 33 = .ok (.iload 4, 2) := by decide +kernel
theorem d_M_drop_35 : decode mi_M_drop.2.1 35 = .ok (.bipush 60, 2) := by decide +kernel
theorem d_M_drop_37 : decode mi_M_drop.2.1 37 = .ok (.iconst 4, 1) := by decide +kernel
theorem d_M_drop_38 : decode mi_M_drop.2.1 38 = .ok (.iload_n 3, 1) := by decide +kernel
theorem d_M_drop_39 : decode mi_M_drop.2.1 39 = .ok (.imul, 1) := by decide +kernel
theorem d_M_drop_40 : decode mi_M_drop.2.1 40 = .ok (.iadd, 1) := by decide +kernel
theorem d_M_drop_41 : decode mi_M_drop.2.1 41 = .ok (.if_icmp .ge 25, 3) := by decide +kernel
theorem d_M_drop_44 : decode mi_M_drop.2.1 44 = .ok (.aload_n 0, 1) := by decide +kernel
theorem d_M_drop_45 : decode mi_M_drop.2.1 45 = .ok (.iload_n 1, 1) := by decide +kernel
theorem d_M_drop_46 : decode mi_M_drop.2.1 46 = .ok (.iload 4, 2) := by decide +kernel
theorem d_M_drop_48 : decode mi_M_drop.2.1 48 = .ok (.aload_n 0, 1) := by decide +kernel
theorem d_M_drop_49 : decode mi_M_drop.2.1 49 = .ok (.iload_n 1, 1) := by decide +kernel
theorem d_M_drop_50 : decode mi_M_drop.2.1 50 = .ok (.iload 4, 2) := by decide +kernel
theorem d_M_drop_52 : decode mi_M_drop.2.1 52 = .ok (.iconst 4, 1) := by decide +kernel
theorem d_M_drop_53 : decode mi_M_drop.2.1 53 = .ok (.iadd, 1) := by decide +kernel
theorem d_M_drop_54 : decode mi_M_drop.2.1 54 = .ok (.invokevirtual 76, 3) := by decide +kernel
theorem d_M_drop_57 : decode mi_M_drop.2.1 57 = .ok (.invokevirtual 157, 3) := by decide +kernel
theorem d_M_drop_60 : decode mi_M_drop.2.1 60 = .ok (.iinc 4 1, 3) := by decide +kernel
theorem d_M_drop_63 : decode mi_M_drop.2.1 63 = .ok (.goto (-30), 3) := by decide +kernel
theorem d_M_drop_66 : decode mi_M_drop.2.1 66 = .ok (.aload_n 0, 1) := by decide +kernel
theorem d_M_drop_67 : decode mi_M_drop.2.1 67 = .ok (.iload_n 1, 1) := by decide +kernel
theorem d_M_drop_68 : decode mi_M_drop.2.1 68 = .ok (.iconst 4, 1) := by decide +kernel
theorem d_M_drop_69 : decode mi_M_drop.2.1 69 = .ok (.iload_n 3, 1) := by decide +kernel
theorem d_M_drop_70 : decode mi_M_drop.2.1 70 = .ok (.invokevirtual 157, 3) := by decide +kernel
theorem d_M_drop_73 : decode mi_M_drop.2.1 73 = .ok (.iload_n 3, 1) := by decide +kernel
theorem d_M_drop_74 : decode mi_M_drop.2.1 74 = .ok (.ireturn, 1) := by decide +kernel
theorem d_M_isRule_0 : decode mi_M_isRule.2.1 0 = .ok (.aload_n 0, 1) := by decide +kernel
theorem d_M_isRule_1 : decode mi_M_isRule.2.1 1 = .ok (.iload_n 1, 1) := by decide +kernel
theorem d_M_isRule_2 : decode mi_M_isRule.2.1 2 = .ok (.invokevirtual 72, 3) := by decide +kernel
theorem d_M_isRule_5 : decode mi_M_isRule.2.1 5 = .ok (.ifCond .eq 25, 3) := by decide +kernel
theorem d_M_isRule_8 : decode mi_M_isRule.2.1 8 = .ok (.iload_n 2, 1) := by decide +kernel
theorem d_M_isRule_9 : decode mi_M_isRule.2.1 9 = .ok (.i2l, 1) := by decide +kernel
theorem d_M_isRule_10 : decode mi_M_isRule.2.1 10 = .ok (.lconst 0, 1) := by decide +kernel
theorem d_M_isRule_11 : decode mi_M_isRule.2.1 11 = .ok (.aload_n 0, 1) := by decide +kernel
theorem d_M_isRule_12 : decode mi_M_isRule.2.1 12 = .ok (.iload_n 1, 1) := by decide +kernel
theorem d_M_isRule_13 : decode mi_M_isRule.2.1 13 = .ok (.iconst 4, 1) := by decide +kernel
theorem d_M_isRule_14 : decode mi_M_isRule.2.1 14 = .ok (.invokevirtual 76, 3) := by decide +kernel
theorem d_M_isRule_17 : decode mi_M_isRule.2.1 17 = .ok (.iconst 1, 1) := by decide +kernel
theorem d_M_isRule_18 : decode mi_M_isRule.2.1 18 = .ok (.isub, 1) := by decide +kernel
theorem d_M_isRule_19 : decode mi_M_isRule.2.1 19 = .ok (.i2l, 1) := by decide +kernel
theorem d_M_isRule_20 : decode mi_M_isRule.2.1 20 = .ok (.invokestatic 68, 3) := by decide +kernel
theorem d_M_isRule_23 : decode mi_M_isRule.2.1 23 = .ok (.ifCond .eq 7, 3) := by decide +kernel
theorem d_M_isRule_26 : decode mi_M_isRule.2.1 26 = .ok (.iconst 1, 1) := by decide +kernel
theorem d_M_isRule_27 : decode mi_M_isRule.2.1 27 = .ok (.goto 4, 3) := by decide +kernel
theorem d_M_isRule_30 : decode mi_M_isRule.2.1 30 = .ok (.iconst 0, 1) := by decide +kernel
theorem d_M_isRule_31 : decode mi_M_isRule.2.1 31 = .ok (.ireturn, 1) := by decide +kernel
theorem d_M_part_0 : decode mi_M_part.2.1 0 = .ok (.aload_n 0, 1) := by decide +kernel
theorem d_M_part_1 : decode mi_M_part.2.1 1 = .ok (.iload_n 1, 1) := by decide +kernel
theorem d_M_part_2 : decode mi_M_part.2.1 2 = .ok (.iload_n 2, 1) := by decide +kernel
theorem d_M_part_3 : decode mi_M_part.2.1 3 = .ok (.iload_n 3, 1) := by decide +kernel
theorem d_M_part_4 : decode mi_M_part.2.1 4 = .ok (.iload 4, 2) := by decide +kernel
theorem d_M_part_6 : decode mi_M_part.2.1 6 = .ok (.invokevirtual 228, 3) := by decide +kernel
theorem d_M_part_9 : decode mi_M_part.2.1 9 = .ok (.ifCond .ne 10, 3) := by decide +kernel
theorem d_M_part_12 : decode mi_M_part.2.1 12 = .ok (.aload_n 0, 1) := by decide +kernel
theorem d_M_part_13 : decode mi_M_part.2.1 13 = .ok (.bipush (-32), 2) := by decide +kernel
theorem d_M_part_15 : decode mi_M_part.2.1 15 = .ok (.invokevirtual 106, 3) := by decide +kernel
theorem d_M_part_18 : decode mi_M_part.2.1 18 = .ok (.ireturn, 1) := by decide +kernel
theorem d_M_part_19 : decode mi_M_part.2.1 19 = .ok (.aload_n 0, 1) := by decide +kernel
theorem d_M_part_20 : decode mi_M_part.2.1 20 = .ok (.iload_n 1, 1) := by decide +kernel
theorem d_M_part_21 : decode mi_M_part.2.1 21 = .ok (.iload_n 2, 1) := by decide +kernel
theorem d_M_part_22 : decode mi_M_part.2.1 22 = .ok (.invokevirtual 188, 3) := by decide +kernel
theorem d_M_part_25 : decode mi_M_part.2.1 25 = .ok (.ifCond .eq 10, 3) := by decide +kernel
theorem d_M_part_28 : decode mi_M_part.2.1 28 = .ok (.aload_n 0, 1) := by decide +kernel
theorem d_M_part_29 : decode mi_M_part.2.1 29 = .ok (.bipush (-35), 2) := by decide +kernel
theorem d_M_part_31 : decode mi_M_part.2.1 31 = .ok (.invokevirtual 106, 3) := by decide +kernel
theorem d_M_part_34 : decode mi_M_part.2.1 34 = .ok (.ireturn, 1) := by decide +kernel
theorem d_M_part_35 : decode mi_M_part.2.1 35 = .ok (.iload_n 1, 1) := by decide +kernel
theorem d_M_part_36 : decode mi_M_part.2.1 36 = .ok (.iload_n 2, 1) := by decide +kernel
theorem d_M_part_37 : decode mi_M_part.2.1 37 = .ok (.iload_n 3, 1) := by decide +kernel
theorem d_M_part_38 : decode mi_M_part.2.1 38 = .ok (.invokestatic 80, 3) := by decide +kernel
theorem d_M_part_41 : decode mi_M_part.2.1 41 = .ok (.istore 5, 2) := by decide +kernel
theorem d_M_part_43 : decode mi_M_part.2.1 43 = .ok (.aload_n 0, 1) := by decide +kernel
theorem d_M_part_44 : decode mi_M_part.2.1 44 = .ok (.getfield 9, 3) := by decide +kernel
theorem d_M_part_47 : decode mi_M_part.2.1 47 = .ok (.iload 5, 2) := by decide +kernel
theorem d_M_part_49 : decode mi_M_part.2.1 49 = .ok (.iaload, 1) := by decide +kernel
theorem d_M_part_50 : decode mi_M_part.2.1 50 = .ok (.istore 6, 2) := by decide +kernel
theorem d_M_part_52 : decode mi_M_part.2.1 52 = .ok (.aload_n 0, 1) := by decide +kernel
theorem d_M_part_53 : decode mi_M_part.2.1 53 = .ok (.getfield 9, 3) := by decide +kernel
theorem d_M_part_56 : decode mi_M_part.2.1 56 = .ok (.iload 5, 2) := by decide +kernel
theorem d_M_part_58 : decode mi_M_part.2.1 58 = .ok (.iload 4, 2) := by decide +kernel
theorem d_M_part_60 : decode mi_M_part.2.1 60 = .ok (.iastore, 1) := by decide +kernel
theorem d_M_part_61 : decode mi_M_part.2.1 61 = .ok (.iload 6, 2) := by decide +kernel
theorem d_M_part_63 : decode mi_M_part.2.1 63 = .ok (.ireturn, 1) := by decide +kernel
theorem d_M_isPart_0 : decode mi_M_isPart.2.1 0 = .ok (.aload_n 0, 1) := by decide +kernel
theorem d_M_isPart_1 : decode mi_M_isPart.2.1 1 = .ok (.iload_n 1, 1) := by decide +kernel
theorem d_M_isPart_2 : decode mi_M_isPart.2.1 2 = .ok (.iload_n 2, 1) := by decide +kernel
theorem d_M_isPart_3 : decode mi_M_isPart.2.1 3 = .ok (.invokevirtual 223, 3) := by decide +kernel
theorem d_M_isPart_6 : decode mi_M_isPart.2.1 6 = .ok (.ifCond .eq 36, 3) := by decide +kernel
theorem d_M_isPart_9 : decode mi_M_isPart.2.1 9 = .ok (.iload_n 3, 1) := by decide +kernel
theorem d_M_isPart_10 : decode mi_M_isPart.2.1 10 = .ok (.i2l, 1) := by decide +kernel
theorem d_M_isPart_11 : decode mi_M_isPart.2.1 11 = .ok (.lconst 1, 1) := by decide +kernel
theorem d_M_isPart_12 : decode mi_M_isPart.2.1 12 = .ok (.aload_n 0, 1) := by decide +kernel
theorem d_M_isPart_13 : decode mi_M_isPart.2.1 13 = .ok (.iload_n 1, 1) := by decide +kernel
theorem d_M_isPart_14 : decode mi_M_isPart.2.1 14 = .ok (.iconst 0, 1) := by decide +kernel
theorem d_M_isPart_15 : decode mi_M_isPart.2.1 15 = .ok (.invokevirtual 76, 3) := by decide +kernel
theorem d_M_isPart_18 : decode mi_M_isPart.2.1 18 = .ok (.i2l, 1) := by decide +kernel
theorem d_M_isPart_19 : decode mi_M_isPart.2.1 19 = .ok (.invokestatic 68, 3) := by decide +kernel
theorem d_M_isPart_22 : decode mi_M_isPart.2.1 22 = .ok (.ifCond .eq 20, 3) := by decide +kernel
theorem d_M_isPart_25 : decode mi_M_isPart.2.1 25 = .ok (.iload 4, 2) := by decide +kernel
theorem d_M_isPart_27 : decode mi_M_isPart.2.1 27 = .ok (.i2l, 1) := by decide +kernel
theorem d_M_isPart_28 : decode mi_M_isPart.2.1 28 = .ok (.lconst 0, 1) := by decide +kernel
theorem d_M_isPart_29 : decode mi_M_isPart.2.1 29 = .ok (.ldc2_w 226, 3) := by decide +kernel
theorem d_M_isPart_32 : decode mi_M_isPart.2.1 32 = .ok (.invokestatic 68, 3) := by decide +kernel
theorem d_M_isPart_35 : decode mi_M_isPart.2.1 35 = .ok (.ifCond .eq 7, 3) := by decide +kernel
theorem d_M_isPart_38 : decode mi_M_isPart.2.1 38 = .ok (.iconst 1, 1) := by decide +kernel
theorem d_M_isPart_39 : decode mi_M_isPart.2.1 39 = .ok (.goto 4, 3) := by decide +kernel
theorem d_M_isPart_42 : decode mi_M_isPart.2.1 42 = .ok (.iconst 0, 1) := by decide +kernel
theorem d_M_isPart_43 : decode mi_M_isPart.2.1 43 = .ok (.ireturn, 1) := by decide +kernel
theorem d_M_needs_0 : decode mi_M_needs.2.1 0 = .ok (.aload_n 0, 1) := by decide +kernel
theorem d_M_needs_1 : decode mi_M_needs.2.1 1 = .ok (.iload_n 1, 1) := by decide +kernel
theorem d_M_needs_2 : decode mi_M_needs.2.1 2 = .ok (.invokevirtual 72, 3) := by decide +kernel
theorem d_M_needs_5 : decode mi_M_needs.2.1 5 = .ok (.ifCond .eq 12, 3) := by decide +kernel
theorem d_M_needs_8 : decode mi_M_needs.2.1 8 = .ok (.aload_n 0, 1) := by decide +kernel
theorem d_M_needs_9 : decode mi_M_needs.2.1 9 = .ok (.iload_n 2, 1) := by decide +kernel
theorem d_M_needs_10 : decode mi_M_needs.2.1 10 = .ok (.iload_n 3, 1) := by decide +kernel
theorem d_M_needs_11 : decode mi_M_needs.2.1 11 = .ok (.invokevirtual 232, 3) := by decide +kernel
theorem d_M_needs_14 : decode mi_M_needs.2.1 14 = .ok (.ifCond .ne 10, 3) := by decide +kernel
theorem d_M_needs_17 : decode mi_M_needs.2.1 17 = .ok (.aload_n 0, 1) := by decide +kernel
theorem d_M_needs_18 : decode mi_M_needs.2.1 18 = .ok (.bipush (-32), 2) := by decide +kernel
theorem d_M_needs_20 : decode mi_M_needs.2.1 20 = .ok (.invokevirtual 106, 3) := by decide +kernel
theorem d_M_needs_23 : decode mi_M_needs.2.1 23 = .ok (.ireturn, 1) := by decide +kernel
theorem d_M_needs_24 : decode mi_M_needs.2.1 24 = .ok (.iload_n 1, 1) := by decide +kernel
theorem d_M_needs_25 : decode mi_M_needs.2.1 25 = .ok (.iload_n 2, 1) := by decide +kernel
theorem d_M_needs_26 : decode mi_M_needs.2.1 26 = .ok (.if_icmp .eq 16, 3) := by decide +kernel
theorem d_M_needs_29 : decode mi_M_needs.2.1 29 = .ok (.aload_n 0, 1) := by decide +kernel
theorem d_M_needs_30 : decode mi_M_needs.2.1 30 = .ok (.iload_n 2, 1) := by decide +kernel
theorem d_M_needs_31 : decode mi_M_needs.2.1 31 = .ok (.invokevirtual 235, 3) := by decide +kernel
theorem d_M_needs_34 : decode mi_M_needs.2.1 34 = .ok (.iload_n 1, 1) := by decide +kernel
theorem d_M_needs_35 : decode mi_M_needs.2.1 35 = .ok (.ishr, 1) := by decide +kernel
theorem d_M_needs_36 : decode mi_M_needs.2.1 36 = .ok (.iconst 1, 1) := by decide +kernel
theorem d_M_needs_37 : decode mi_M_needs.2.1 37 = .ok (.iand, 1) := by decide +kernel
theorem d_M_needs_38 : decode mi_M_needs.2.1 38 = .ok (.iconst 1, 1) := by decide +kernel
theorem d_M_needs_39 : decode mi_M_needs.2.1 39 = .ok (.if_icmp .ne 10, 3) := by decide +kernel
theorem d_M_needs_42 : decode mi_M_needs.2.1 42 = .ok (.aload_n 0, 1) := by decide +kernel
theorem d_M_needs_43 : decode mi_M_needs.2.1 43 = .ok (.bipush (-35), 2) := by decide +kernel
theorem d_M_needs_45 : decode mi_M_needs.2.1 45 = .ok (.invokevirtual 106, 3) := by decide +kernel
theorem d_M_needs_48 : decode mi_M_needs.2.1 48 = .ok (.ireturn, 1) := by decide +kernel
theorem d_M_needs_49 : decode mi_M_needs.2.1 49 = .ok (.aload_n 0, 1) := by decide +kernel
theorem d_M_needs_50 : decode mi_M_needs.2.1 50 = .ok (.iload_n 1, 1) := by decide +kernel
theorem d_M_needs_51 : decode mi_M_needs.2.1 51 = .ok (.iconst 5, 1) := by decide +kernel
theorem d_M_needs_52 : decode mi_M_needs.2.1 52 = .ok (.invokevirtual 76, 3) := by decide +kernel
theorem d_M_needs_55 : decode mi_M_needs.2.1 55 = .ok (.istore 4, 2) := by decide +kernel
theorem d_M_needs_57 : decode mi_M_needs.2.1 57 = .ok (.iload 4, 2) := by decide +kernel
theorem d_M_needs_59 : decode mi_M_needs.2.1 59 = .ok (.iconst 3, 1) := by decide +kernel
theorem d_M_needs_60 : decode mi_M_needs.2.1 60 = .ok (.if_icmp .ne 10, 3) := by decide +kernel
theorem d_M_needs_63 : decode mi_M_needs.2.1 63 = .ok (.aload_n 0, 1) := by decide +kernel
theorem d_M_needs_64 : decode mi_M_needs.2.1 64 = .ok (.bipush (-36), 2) := by decide +kernel
theorem d_M_needs_66 : decode mi_M_needs.2.1 66 = .ok (.invokevirtual 106, 3) := by decide +kernel
theorem d_M_needs_69 : decode mi_M_needs.2.1 69 = .ok (.ireturn, 1) := by decide +kernel
theorem d_M_needs_70 : decode mi_M_needs.2.1 70 = .ok (.aload_n 0, 1) := by decide +kernel
theorem d_M_needs_71 : decode mi_M_needs.2.1 71 = .ok (.iload_n 1, 1) := by decide +kernel
theorem d_M_needs_72 : decode mi_M_needs.2.1 72 = .ok (.bipush 14, 2) := by decide +kernel
theorem d_M_needs_74 : decode mi_M_needs.2.1 74 = .ok (.iconst 2, 1) := by decide +kernel
theorem d_M_needs_75 : decode mi_M_needs.2.1 75 = .ok (.iload 4, 2) := by decide +kernel
theorem d_M_needs_77 : decode mi_M_needs.2.1 77 = .ok (.imul, 1) := by decide +kernel
theorem d_M_needs_78 : decode mi_M_needs.2.1 78 = .ok (.iadd, 1) := by decide +kernel
theorem d_M_needs_79 : decode mi_M_needs.2.1 79 = .ok (.iload_n 2, 1) := by decide +kernel
theorem d_M_needs_80 : decode mi_M_needs.2.1 80 = .ok (.invokevirtual 157, 3) := by decide +kernel
theorem d_M_needs_83 : decode mi_M_needs.2.1 83 = .ok (.aload_n 0, 1) := by decide +kernel
theorem d_M_needs_84 : decode mi_M_needs.2.1 84 = .ok (.iload_n 1, 1) := by decide +kernel
theorem d_M_needs_85 : decode mi_M_needs.2.1 85 = .ok (.bipush 14, 2) := by decide +kernel
theorem d_M_needs_87 : decode mi_M_needs.2.1 87 = .ok (.iconst 2, 1) := by decide +kernel
theorem d_M_needs_88 : decode mi_M_needs.2.1 88 = .ok (.iload 4, 2) := by decide +kernel
theorem d_M_needs_90 : decode mi_M_needs.2.1 90 = .ok (.imul, 1) := by decide +kernel
theorem d_M_needs_91 : decode mi_M_needs.2.1 91 = .ok (.iadd, 1) := by decide +kernel
theorem d_M_needs_92 : decode mi_M_needs.2.1 92 = .ok (.iconst 1, 1) := by decide +kernel
theorem d_M_needs_93 : decode mi_M_needs.2.1 93 = .ok (.iadd, 1) := by decide +kernel
theorem d_M_needs_94 : decode mi_M_needs.2.1 94 = .ok (.iload_n 3, 1) := by decide +kernel
theorem d_M_needs_95 : decode mi_M_needs.2.1 95 = .ok (.invokevirtual 157, 3) := by decide +kernel
theorem d_M_needs_98 : decode mi_M_needs.2.1 98 = .ok (.aload_n 0, 1) := by decide +kernel
theorem d_M_needs_99 : decode mi_M_needs.2.1 99 = .ok (.iload_n 1, 1) := by decide +kernel
theorem d_M_needs_100 : decode mi_M_needs.2.1 100 = .ok (.iconst 5, 1) := by decide +kernel
theorem d_M_needs_101 : decode mi_M_needs.2.1 101 = .ok (.iload 4, 2) := by decide +kernel
theorem d_M_needs_103 : decode mi_M_needs.2.1 103 = .ok (.iconst 1, 1) := by decide +kernel
theorem d_M_needs_104 : decode mi_M_needs.2.1 104 = .ok (.iadd, 1) := by decide +kernel
theorem d_M_needs_105 : decode mi_M_needs.2.1 105 = .ok (.invokevirtual 157, 3) := by decide +kernel
theorem d_M_needs_108 : decode mi_M_needs.2.1 108 = .ok (.iload 4, 2) := by decide +kernel
theorem d_M_needs_110 : decode mi_M_needs.2.1 110 = .ok (.iconst 1, 1) := by decide +kernel
theorem d_M_needs_111 : decode mi_M_needs.2.1 111 = .ok (.iadd, 1) := by decide +kernel
theorem d_M_needs_112 : decode mi_M_needs.2.1 112 = .ok (.ireturn, 1) := by decide +kernel
theorem d_M_isVariant_0 : decode mi_M_isVariant.2.1 0 = .ok (.aload_n 0, 1) := by decide +kernel
theorem d_M_isVariant_1 : decode mi_M_isVariant.2.1 1 = .ok (.iload_n 1, 1) := by decide +kernel
theorem d_M_isVariant_2 : decode mi_M_isVariant.2.1 2 = .ok (.invokevirtual 72, 3) := by decide +kernel
theorem d_M_isVariant_5 : decode mi_M_isVariant.2.1 5 = .ok (.ifCond .eq 23, 3) := by decide +kernel
theorem d_M_isVariant_8 : decode mi_M_isVariant.2.1 8 = .ok (.iload_n 2, 1) := by decide +kernel
theorem d_M_isVariant_9 : decode mi_M_isVariant.2.1 9 = .ok (.i2l, 1) := by decide +kernel
theorem d_M_isVariant_10 : decode mi_M_isVariant.2.1 10 = .ok (.lconst 0, 1) := by decide +kernel
theorem d_M_isVariant_11 : decode mi_M_isVariant.2.1 11 = .ok (.aload_n 0, 1) := by decide +kernel
theorem d_M_isVariant_12 : decode mi_M_isVariant.2.1 12 = .ok (.iload_n 1, 1) := by decide +kernel
theorem d_M_isVariant_13 : decode mi_M_isVariant.2.1 13 = .ok (.iconst 0, 1) := by decide +kernel
theorem d_M_isVariant_14 : decode mi_M_isVariant.2.1 14 = .ok (.invokevirtual 76, 3) := by decide +kernel
theorem d_M_isVariant_17 : decode mi_M_isVariant.2.1 17 = .ok (.i2l, 1) := by decide +kernel
theorem d_M_isVariant_18 : decode mi_M_isVariant.2.1 18 = .ok (.invokestatic 68, 3) := by decide +kernel
theorem d_M_isVariant_21 : decode mi_M_isVariant.2.1 21 = .ok (.ifCond .eq 7, 3) := by decide +kernel
theorem d_M_isVariant_24 : decode mi_M_isVariant.2.1 24 = .ok (.iconst 1, 1) := by decide +kernel
theorem d_M_isVariant_25 : decode mi_M_isVariant.2.1 25 = .ok (.goto 4, 3) := by decide +kernel
theorem d_M_isVariant_28 : decode mi_M_isVariant.2.1 28 = .ok (.iconst 0, 1) := by decide +kernel
theorem d_M_isVariant_29 : decode mi_M_isVariant.2.1 29 = .ok (.ireturn, 1) := by decide +kernel
theorem d_M_needsOf_0 : decode mi_M_needsOf.2.1 0 = .ok (.iconst 0, 1) := by decide +kernel
theorem d_M_needsOf_1 : decode mi_M_needsOf.2.1 1 = .ok (.istore_n 2, 1) := by decide +kernel
theorem d_M_needsOf_2 : decode mi_M_needsOf.2.1 2 = .ok (.iconst 1, 1) := by decide +kernel
theorem d_M_needsOf_3 : decode mi_M_needsOf.2.1 3 = .ok (.istore_n 3, 1) := by decide +kernel
theorem d_M_needsOf_4 : decode mi_M_needsOf.2.1 4 = .ok (.iconst 0, 1) := by decide +kernel
theorem d_M_needsOf_5 : decode mi_M_needsOf.2.1 5 = .ok (.istore 4, 2) := by decide +kernel
theorem d_M_needsOf_7 : decode mi_M_needsOf.2.1 7 = .ok (.iload 4, 2) := by decide +kernel
theorem d_M_needsOf_9 : decode mi_M_needsOf.2.1 9 = .ok (.bipush 13, 2) := by decide +kernel
theorem d_M_needsOf_11 : decode mi_M_needsOf.2.1 11 = .ok (.if_icmp .ge 103, 3) := by decide +kernel
theorem d_M_needsOf_14 : decode mi_M_needsOf.2.1 14 = .ok (.iload_n 3, 1) := by decide +kernel
theorem d_M_needsOf_15 : decode mi_M_needsOf.2.1 15 = .ok (.ifCond .eq 99, 3) := by decide +kernel
theorem d_M_needsOf_18 : decode mi_M_needsOf.2.1 18 = .ok (.iload_n 2, 1) := by decide +kernel
theorem d_M_needsOf_19 : decode mi_M_needsOf.2.1 19 = .ok (.istore 5, 2) := by decide +kernel
theorem d_M_needsOf_21 : decode mi_M_needsOf.2.1 21 = .ok (.iconst 0, 1) := by decide +kernel
theorem d_M_needsOf_22 : decode mi_M_needsOf.2.1 22 = .ok (.istore 6, 2) := by decide +kernel
theorem d_M_needsOf_24 : decode mi_M_needsOf.2.1 24 = .ok (.iload 6, 2) := by decide +kernel
theorem d_M_needsOf_26 : decode mi_M_needsOf.2.1 26 = .ok (.aload_n 0, 1) := by decide +kernel
theorem d_M_needsOf_27 : decode mi_M_needsOf.2.1 27 = .ok (.getfield 9, 3) := by decide +kernel
theorem d_M_needsOf_30 : decode mi_M_needsOf.2.1 30 = .ok (.iconst 1, 1) := by decide +kernel
theorem d_M_needsOf_31 : decode mi_M_needsOf.2.1 31 = .ok (.iaload, 1) := by decide +kernel
theorem d_M_needsOf_32 : decode mi_M_needsOf.2.1 32 = .ok (.if_icmp .ge 64, 3) := by decide +kernel
theorem d_M_needsOf_35 : decode mi_M_needsOf.2.1 35 = .ok (.iconst 0, 1) := by decide +kernel
theorem d_M_needsOf_36 : decode mi_M_needsOf.2.1 36 = .ok (.istore 7, 2) := by decide +kernel
theorem d_M_needsOf_38 : decode mi_M_needsOf.2.1 38 = .ok (.iload 6, 2) := by decide +kernel
theorem d_M_needsOf_40 : decode mi_M_needsOf.2.1 40 = .ok (.iload_n 1, 1) := by decide +kernel
theorem d_M_needsOf_41 : decode mi_M_needsOf.2.1 41 = .ok (.if_icmp .eq 13, 3) := by decide +kernel
theorem d_M_needsOf_44 : decode mi_M_needsOf.2.1 44 = .ok (.iload_n 2, 1) := by decide +kernel
theorem d_M_needsOf_45 : decode mi_M_needsOf.2.1 45 = .ok (.iload 6, 2) := by decide +kernel
theorem d_M_needsOf_47 : decode mi_M_needsOf.2.1 47 = .ok (.ishr, 1) := by decide +kernel
theorem d_M_needsOf_48 : decode mi_M_needsOf.2.1 48 = .ok (.iconst 1, 1) := by decide +kernel
theorem d_M_needsOf_49 : decode mi_M_needsOf.2.1 49 = .ok (.iand, 1) := by decide +kernel
theorem d_M_needsOf_50 : decode mi_M_needsOf.2.1 50 = .ok (.iconst 1, 1) := by decide +kernel
theorem d_M_needsOf_51 : decode mi_M_needsOf.2.1 51 = .ok (.if_icmp .ne 39, 3) := by decide +kernel
theorem d_M_needsOf_54 : decode mi_M_needsOf.2.1 54 = .ok (.iload 7, 2) := by decide +kernel
theorem d_M_needsOf_56 : decode mi_M_needsOf.2.1 56 = .ok (.aload_n 0, 1) := by decide +kernel
theorem d_M_needsOf_57 : decode mi_M_needsOf.2.1 57 = .ok (.iload 6, 2) := by decide +kernel
theorem d_M_needsOf_59 : decode mi_M_needsOf.2.1 59 = .ok (.iconst 5, 1) := by decide +kernel
theorem d_M_needsOf_60 : decode mi_M_needsOf.2.1 60 = .ok (.invokevirtual 76, 3) := by decide +kernel
theorem d_M_needsOf_63 : decode mi_M_needsOf.2.1 63 = .ok (.if_icmp .ge 27, 3) := by decide +kernel
theorem d_M_needsOf_66 : decode mi_M_needsOf.2.1 66 = .ok (.iload_n 2, 1) := by decide +kernel
theorem d_M_needsOf_67 : decode mi_M_needsOf.2.1 67 = .ok (.iconst 1, 1) := by decide +kernel
theorem d_M_needsOf_68 : decode mi_M_needsOf.2.1 68 = .ok (.aload_n 0, 1) := by decide +kernel
theorem d_M_needsOf_69 : decode mi_M_needsOf.2.1 69 = .ok (.iload 6, 2) := by decide +kernel
theorem d_M_needsOf_71 : decode mi_M_needsOf.2.1 71 = .ok (.bipush 14, 2) := by decide +kernel
theorem d_M_needsOf_73 : decode mi_M_needsOf.2.1 73 = .ok (.iconst 2, 1) := by decide +kernel
theorem d_M_needsOf_74 : decode mi_M_needsOf.2.1 74 = .ok (.iload 7, 2) := by decide +kernel
theorem d_M_needsOf_76 : decode mi_M_needsOf.2.1 76 = .ok (.imul, 1) := by decide +kernel
theorem d_M_needsOf_77 : decode mi_M_needsOf.2.1 77 = .ok (.iadd, 1) := by decide +kernel
theorem d_M_needsOf_78 : decode mi_M_needsOf.2.1 78 = .ok (.invokevirtual 76, 3) := by decide +kernel
theorem d_M_needsOf_81 : decode mi_M_needsOf.2.1 81 = .ok (.ishl, 1) := by decide +kernel
theorem d_M_needsOf_82 : decode mi_M_needsOf.2.1 82 = .ok (.ior, 1) := by decide +kernel
theorem d_M_needsOf_83 : decode mi_M_needsOf.2.1 83 = .ok (.istore_n 2, 1) := by decide +kernel
theorem d_M_needsOf_84 : decode mi_M_needsOf.2.1 84 = .ok (.iinc 7 1, 3) := by decide +kernel
theorem d_M_needsOf_87 : decode mi_M_needsOf.2.1 87 = .ok (.goto (-49), 3) := by decide +kernel
theorem d_M_needsOf_90 : decode mi_M_needsOf.2.1 90 = .ok (.iinc 6 1, 3) := by decide +kernel
theorem d_M_needsOf_93 : decode mi_M_needsOf.2.1 93 = .ok (.goto (-69), 3) := by decide +kernel
theorem d_M_needsOf_96 : decode mi_M_needsOf.2.1 96 = .ok (.iload_n 2, 1) := by decide +kernel
theorem d_M_needsOf_97 : decode mi_M_needsOf.2.1 97 = .ok (.iload 5, 2) := by decide +kernel
theorem d_M_needsOf_99 : decode mi_M_needsOf.2.1 99 = .ok (.if_icmp .eq 7, 3) := by decide +kernel
theorem d_M_needsOf_102 : decode mi_M_needsOf.2.1 102 = .ok (.iconst 1, 1) := by decide +kernel
theorem d_M_needsOf_103 : decode mi_M_needsOf.2.1 103 = .ok (.goto 4, 3) := by decide +kernel
theorem d_M_needsOf_106 : decode mi_M_needsOf.2.1 106 = .ok (.iconst 0, 1) := by decide +kernel
theorem d_M_needsOf_107 : decode mi_M_needsOf.2.1 107 = .ok (.istore_n 3, 1) := by decide +kernel
theorem d_M_needsOf_108 : decode mi_M_needsOf.2.1 108 = .ok (.iinc 4 1, 3) := by decide +kernel
theorem d_M_needsOf_111 : decode mi_M_needsOf.2.1 111 = .ok (.goto (-104), 3) := by decide +kernel
theorem d_M_needsOf_114 : decode mi_M_needsOf.2.1 114 = .ok (.iload_n 2, 1) := by decide +kernel
theorem d_M_needsOf_115 : decode mi_M_needsOf.2.1 115 = .ok (.ireturn, 1) := by decide +kernel
theorem d_M_free_0 : decode mi_M_free.2.1 0 = .ok (.aload_n 0, 1) := by decide +kernel
theorem d_M_free_1 : decode mi_M_free.2.1 1 = .ok (.iload_n 1, 1) := by decide +kernel
theorem d_M_free_2 : decode mi_M_free.2.1 2 = .ok (.invokevirtual 72, 3) := by decide +kernel
theorem d_M_free_5 : decode mi_M_free.2.1 5 = .ok (.ifCond .ne 10, 3) := by decide +kernel
theorem d_M_free_8 : decode mi_M_free.2.1 8 = .ok (.aload_n 0, 1) := by decide +kernel
theorem d_M_free_9 : decode mi_M_free.2.1 9 = .ok (.bipush (-32), 2) := by decide +kernel
theorem d_M_free_11 : decode mi_M_free.2.1 11 = .ok (.invokevirtual 106, 3) := by decide +kernel
theorem d_M_free_14 : decode mi_M_free.2.1 14 = .ok (.ireturn, 1) := by decide +kernel
theorem d_M_free_15 : decode mi_M_free.2.1 15 = .ok (.aload_n 0, 1) := by decide +kernel
theorem d_M_free_16 : decode mi_M_free.2.1 16 = .ok (.iload_n 1, 1) := by decide +kernel
theorem d_M_free_17 : decode mi_M_free.2.1 17 = .ok (.iconst 5, 1) := by decide +kernel
theorem d_M_free_18 : decode mi_M_free.2.1 18 = .ok (.invokevirtual 76, 3) := by decide +kernel
theorem d_M_free_21 : decode mi_M_free.2.1 21 = .ok (.istore_n 2, 1) := by decide +kernel
theorem d_M_free_22 : decode mi_M_free.2.1 22 = .ok (.aload_n 0, 1) := by decide +kernel
theorem d_M_free_23 : decode mi_M_free.2.1 23 = .ok (.iload_n 1, 1) := by decide +kernel
theorem d_M_free_24 : decode mi_M_free.2.1 24 = .ok (.iconst 5, 1) := by decide +kernel
theorem d_M_free_25 : decode mi_M_free.2.1 25 = .ok (.iconst 0, 1) := by decide +kernel
theorem d_M_free_26 : decode mi_M_free.2.1 26 = .ok (.invokevirtual 157, 3) := by decide +kernel
theorem d_M_free_29 : decode mi_M_free.2.1 29 = .ok (.iload_n 2, 1) := by decide +kernel
theorem d_M_free_30 : decode mi_M_free.2.1 30 = .ok (.ireturn, 1) := by decide +kernel
theorem d_M_override_0 : decode mi_M_override.2.1 0 = .ok (.aload_n 0, 1) := by decide +kernel
theorem d_M_override_1 : decode mi_M_override.2.1 1 = .ok (.iload_n 1, 1) := by decide +kernel
theorem d_M_override_2 : decode mi_M_override.2.1 2 = .ok (.invokevirtual 72, 3) := by decide +kernel
theorem d_M_override_5 : decode mi_M_override.2.1 5 = .ok (.ifCond .eq 25, 3) := by decide +kernel
theorem d_M_override_8 : decode mi_M_override.2.1 8 = .ok (.iload_n 3, 1) := by decide +kernel
theorem d_M_override_9 : decode mi_M_override.2.1 9 = .ok (.iconst (-1), 1) := by decide +kernel
theorem d_M_override_10 : decode mi_M_override.2.1 10 = .ok (.if_icmp .eq 12, 3) := by decide +kernel
theorem d_M_override_13 : decode mi_M_override.2.1 13 = .ok (.aload_n 0, 1) := by decide +kernel
theorem d_M_override_14 : decode mi_M_override.2.1 14 = .ok (.iload_n 1, 1) := by decide +kernel
theorem d_M_override_15 : decode mi_M_override.2.1 15 = .ok (.iload_n 3, 1) := by decide +kernel
theorem d_M_override_16 : decode mi_M_override.2.1 16 = .ok (.invokevirtual 232, 3) := by decide +kernel
theorem d_M_override_19 : decode mi_M_override.2.1 19 = .ok (.ifCond .eq 11, 3) := by decide +kernel
theorem d_M_override_22 : decode mi_M_override.2.1 22 = .ok (.aload_n 0, 1) := by decide +kernel
theorem d_M_override_23 : decode mi_M_override.2.1 23 = .ok (.iload_n 2, 1) := by decide +kernel
theorem d_M_override_24 : decode mi_M_override.2.1 24 = .ok (.invokevirtual 204, 3) := by decide +kernel
theorem d_M_override_27 : decode mi_M_override.2.1 27 = .ok (.ifCond .ge 10, 3) := by decide +kernel
theorem d_M_override_30 : decode mi_M_override.2.1 30 = .ok (.aload_n 0, 1) := by decide +kernel
theorem d_M_override_31 : decode mi_M_override.2.1 31 = .ok (.bipush (-32), 2) := by decide +kernel
theorem d_M_override_33 : decode mi_M_override.2.1 33 = .ok (.invokevirtual 106, 3) := by decide +kernel
theorem d_M_override_36 : decode mi_M_override.2.1 36 = .ok (.ireturn, 1) := by decide +kernel
theorem d_M_override_37 : decode mi_M_override.2.1 37 = .ok (.aload_n 0, 1) := by decide +kernel
theorem d_M_override_38 : decode mi_M_override.2.1 38 = .ok (.iload_n 1, 1) := by decide +kernel
theorem d_M_override_39 : decode mi_M_override.2.1 39 = .ok (.iload_n 2, 1) := by decide +kernel
theorem d_M_override_40 : decode mi_M_override.2.1 40 = .ok (.invokevirtual 179, 3) := by decide +kernel
theorem d_M_override_43 : decode mi_M_override.2.1 43 = .ok (.istore 4, 2) := by decide +kernel
theorem d_M_override_45 : decode mi_M_override.2.1 45 = .ok (.iload 4, 2) := by decide +kernel
theorem d_M_override_47 : decode mi_M_override.2.1 47 = .ok (.ifCond .ge 7, 3) := by decide +kernel
theorem d_M_override_50 : decode mi_M_override.2.1 50 = .ok (.iconst (-1), 1) := by decide +kernel
theorem d_M_override_51 : decode mi_M_override.2.1 51 = .ok (.goto 17, 3) := by decide +kernel
theorem d_M_override_54 : decode mi_M_override.2.1 54 = .ok (.aload_n 0, 1) := by decide +kernel
theorem d_M_override_55 : decode mi_M_override.2.1 55 = .ok (.iload_n 1, 1) := by decide +kernel
theorem d_M_override_56 : decode mi_M_override.2.1 56 = .ok (.bipush 20, 2) := by decide +kernel
theorem d_M_override_58 : decode mi_M_override.2.1 58 = .ok (.iconst 2, 1) := by decide +kernel
theorem d_M_override_59 : decode mi_M_override.2.1 59 = .ok (.iload 4, 2) := by decide +kernel
theorem d_M_override_61 : decode mi_M_override.2.1 61 = .ok (.imul, 1) := by decide +kernel
theorem d_M_override_62 : decode mi_M_override.2.1 62 = .ok (.iadd, 1) := by decide +kernel
theorem d_M_override_63 : decode mi_M_override.2.1 63 = .ok (.iconst 1, 1) := by decide +kernel
theorem d_M_override_64 : decode mi_M_override.2.1 64 = .ok (.iadd, 1) := by decide +kernel
theorem d_M_override_65 : decode mi_M_override.2.1 65 = .ok (.invokevirtual 76, 3) := by decide +kernel
theorem d_M_override_68 : decode mi_M_override.2.1 68 = .ok (.istore 5, 2) := by decide +kernel
theorem d_M_override_70 : decode mi_M_override.2.1 70 = .ok (.iload_n 3, 1) := by decide +kernel
theorem d_M_override_71 : decode mi_M_override.2.1 71 = .ok (.iconst (-1), 1) := by decide +kernel
theorem d_M_override_72 : decode mi_M_override.2.1 72 = .ok (.if_icmp .ne 18, 3) := by decide +kernel
theorem d_M_override_75 : decode mi_M_override.2.1 75 = .ok (.iload 4, 2) := by decide +kernel
theorem d_M_override_77 : decode mi_M_override.2.1 77 = .ok (.ifCond .lt 10, 3) := by decide +kernel
theorem d_M_override_80 : decode mi_M_override.2.1 80 = .ok (.aload_n 0, 1) := by decide +kernel
theorem d_M_override_81 : decode mi_M_override.2.1 81 = .ok (.iload_n 1, 1) := by decide +kernel
theorem d_M_override_82 : decode mi_M_override.2.1 82 = .ok (.iload 4, 2) := by decide +kernel
theorem d_M_override_84 : decode mi_M_override.2.1 84 = .ok (.invokevirtual 216, 3) := by decide +kernel
theorem d_M_override_87 : decode mi_M_override.2.1 87 = .ok (.iload 5, 2) := by decide +kernel
theorem d_M_override_89 : decode mi_M_override.2.1 89 = .ok (.ireturn, 1) := by decide +kernel
theorem d_M_override_90 : decode mi_M_override.2.1 90 = .ok (.iload 4, 2) := by decide +kernel
theorem d_M_override_92 : decode mi_M_override.2.1 92 = .ok (.ifCond .ge 50, 3) := by decide +kernel
theorem d_M_override_95 : decode mi_M_override.2.1 95 = .ok (.aload_n 0, 1) := by decide +kernel
theorem d_M_override_96 : decode mi_M_override.2.1 96 = .ok (.iload_n 1, 1) := by decide +kernel
theorem d_M_override_97 : decode mi_M_override.2.1 97 = .ok (.bipush 6, 2) := by decide +kernel
theorem d_M_override_99 : decode mi_M_override.2.1 99 = .ok (.invokevirtual 76, 3) := by decide +kernel
theorem d_M_override_102 : decode mi_M_override.2.1 102 = .ok (.istore 4, 2) := by decide +kernel
theorem d_M_override_104 : decode mi_M_override.2.1 104 = .ok (.iload 4, 2) := by decide +kernel
theorem d_M_override_106 : decode mi_M_override.2.1 106 = .ok (.bipush 8, 2) := by decide +kernel
theorem d_M_override_108 : decode mi_M_override.2.1 108 = .ok (.if_icmp .ne 10, 3) := by decide +kernel
theorem d_M_override_111 : decode mi_M_override.2.1 111 = .ok (.aload_n 0, 1) := by decide +kernel
theorem d_M_override_112 : decode mi_M_override.2.1 112 = .ok (.bipush (-36), 2) := by decide +kernel
theorem d_M_override_114 : decode mi_M_override.2.1 114 = .ok (.invokevirtual 106, 3) := by decide +kernel
theorem d_M_override_117 : decode mi_M_override.2.1 117 = .ok (.ireturn, 1) := by decide +kernel
theorem d_M_override_118 : decode mi_M_override.2.1 118 = .ok (.aload_n 0, 1) := by decide +kernel
theorem d_M_override_119 : decode mi_M_override.2.1 119 = .ok (.iload_n 1, 1) := by decide +kernel
theorem d_M_override_120 : decode mi_M_override.2.1 120 = .ok (.bipush 20, 2) := by decide +kernel
theorem d_M_override_122 : decode mi_M_override.2.1 122 = .ok (.iconst 2, 1) := by decide +kernel
theorem d_M_override_123 : decode mi_M_override.2.1 123 = .ok (.iload 4, 2) := by decide +kernel
theorem d_M_override_125 : decode mi_M_override.2.1 125 = .ok (.imul, 1) := by decide +kernel
theorem d_M_override_126 : decode mi_M_override.2.1 126 = .ok (.iadd, 1) := by decide +kernel
theorem d_M_override_127 : decode mi_M_override.2.1 127 = .ok (.iload_n 2, 1) := by decide +kernel
theorem d_M_override_128 : decode mi_M_override.2.1 128 = .ok (.invokevirtual 157, 3) := by decide +kernel
theorem d_M_override_131 : decode mi_M_override.2.1 131 = .ok (.aload_n 0, 1) := by decide +kernel
theorem d_M_override_132 : decode mi_M_override.2.1 132 = .ok (.iload_n 1, 1) := by decide +kernel
theorem d_M_override_133 : decode mi_M_override.2.1 133 = .ok (.bipush 6, 2) := by decide +kernel
theorem d_M_override_135 : decode mi_M_override.2.1 135 = .ok (.iload 4, 2) := by decide +kernel
theorem d_M_override_137 : decode mi_M_override.2.1 137 = .ok (.iconst 1, 1) := by decide +kernel
theorem d_M_override_138 : decode mi_M_override.2.1 138 = .ok (.iadd, 1) := by decide +kernel
theorem d_M_override_139 : decode mi_M_override.2.1 139 = .ok (.invokevirtual 157, 3) := by decide +kernel
theorem d_M_override_142 : decode mi_M_override.2.1 142 = .ok (.aload_n 0, 1) := by decide +kernel
theorem d_M_override_143 : decode mi_M_override.2.1 143 = .ok (.iload_n 1, 1) := by decide +kernel
theorem d_M_override_144 : decode mi_M_override.2.1 144 = .ok (.bipush 20, 2) := by decide +kernel
theorem d_M_override_146 : decode mi_M_override.2.1 146 = .ok (.iconst 2, 1) := by decide +kernel
theorem d_M_override_147 : decode mi_M_override.2.1 147 = .ok (.iload 4, 2) := by decide +kernel
theorem d_M_override_149 : decode mi_M_override.2.1 149 = .ok (.imul, 1) := by decide +kernel
theorem d_M_override_150 : decode mi_M_override.2.1 150 = .ok (.iadd, 1) := by decide +kernel
theorem d_M_override_151 : decode mi_M_override.2.1 151 = .ok (.iconst 1, 1) := by decide +kernel
theorem d_M_override_152 : decode mi_M_override.2.1 152 = .ok (.iadd, 1) := by decide +kernel
theorem d_M_override_153 : decode mi_M_override.2.1 153 = .ok (.iload_n 3, 1) := by decide +kernel
theorem d_M_override_154 : decode mi_M_override.2.1 154 = .ok (.invokevirtual 157, 3) := by decide +kernel
theorem d_M_override_157 : decode mi_M_override.2.1 157 = .ok (.iload 5, 2) := by decide +kernel
theorem d_M_override_159 : decode mi_M_override.2.1 159 = .ok (.ireturn, 1) := by decide +kernel
theorem d_M_layer_0 : decode mi_M_layer.2.1 0 = .ok (.aload_n 0, 1) := by decide +kernel
theorem d_M_layer_1 : decode mi_M_layer.2.1 1 = .ok (.iload_n 1, 1) := by decide +kernel
theorem d_M_layer_2 : decode mi_M_layer.2.1 2 = .ok (.invokevirtual 72, 3) := by decide +kernel
theorem d_M_layer_5 : decode mi_M_layer.2.1 5 = .ok (.ifCond .eq 47, 3) := by decide +kernel
theorem d_M_layer_8 : decode mi_M_layer.2.1 8 = .ok (.iload_n 2, 1) := by decide +kernel
theorem d_M_layer_9 : decode mi_M_layer.2.1 9 = .ok (.i2l, 1) := by decide +kernel
theorem d_M_layer_10 : decode mi_M_layer.2.1 10 = .ok (.ldc2_w 238, 3) := by decide +kernel
theorem d_M_layer_13 : decode mi_M_layer.2.1 13 = .ok (.ldc2_w 210, 3) := by decide +kernel
theorem d_M_layer_16 : decode mi_M_layer.2.1 16 = .ok (.invokestatic 68, 3) := by decide +kernel
theorem d_M_layer_19 : decode mi_M_layer.2.1 19 = .ok (.ifCond .eq 33, 3) := by decide +kernel
theorem d_M_layer_22 : decode mi_M_layer.2.1 22 = .ok (.iload_n 2, 1) := by decide +kernel
theorem d_M_layer_23 : decode mi_M_layer.2.1 23 = .ok (.ifCond .lt 36, 3) := by decide +kernel
theorem d_M_layer_26 : decode mi_M_layer.2.1 26 = .ok (.iload_n 3, 1) := by decide +kernel
theorem d_M_layer_27 : decode mi_M_layer.2.1 27 = .ok (.i2l, 1) := by decide +kernel
theorem d_M_layer_28 : decode mi_M_layer.2.1 28 = .ok (.lconst 0, 1) := by decide +kernel
theorem d_M_layer_29 : decode mi_M_layer.2.1 29 = .ok (.ldc2_w 240, 3) := by decide +kernel
theorem d_M_layer_32 : decode mi_M_layer.2.1 32 = .ok (.invokestatic 68, 3) := by decide +kernel
theorem d_M_layer_35 : decode mi_M_layer.2.1 35 = .ok (.ifCond .eq 17, 3) := by decide +kernel
theorem d_M_layer_38 : decode mi_M_layer.2.1 38 = .ok (.iload 4, 2) := by decide +kernel
theorem d_M_layer_40 : decode mi_M_layer.2.1 40 = .ok (.i2l, 1) := by decide +kernel
theorem d_M_layer_41 : decode mi_M_layer.2.1 41 = .ok (.iload_n 3, 1) := by decide +kernel
theorem d_M_layer_42 : decode mi_M_layer.2.1 42 = .ok (.i2l, 1) := by decide +kernel
theorem d_M_layer_43 : decode mi_M_layer.2.1 43 = .ok (.ldc2_w 240, 3) := by decide +kernel
theorem d_M_layer_46 : decode mi_M_layer.2.1 46 = .ok (.invokestatic 68, 3) := by decide +kernel
theorem d_M_layer_49 : decode mi_M_layer.2.1 49 = .ok (.ifCond .ne 10, 3) := by decide +kernel
theorem d_M_layer_52 : decode mi_M_layer.2.1 52 = .ok (.aload_n 0, 1) := by decide +kernel
theorem d_M_layer_53 : decode mi_M_layer.2.1 53 = .ok (.bipush (-32), 2) := by decide +kernel
theorem d_M_layer_55 : decode mi_M_layer.2.1 55 = .ok (.invokevirtual 106, 3) := by decide +kernel
theorem d_M_layer_58 : decode mi_M_layer.2.1 58 = .ok (.ireturn, 1) := by decide +kernel
theorem d_M_layer_59 : decode mi_M_layer.2.1 59 = .ok (.iconst 0, 1) := by decide +kernel
theorem d_M_layer_60 : decode mi_M_layer.2.1 60 = .ok (.istore 5, 2) := by decide +kernel
theorem d_M_layer_62 : decode mi_M_layer.2.1 62 = .ok (.iload 5, 2) := by decide +kernel
theorem d_M_layer_64 : decode mi_M_layer.2.1 64 = .ok (.aload_n 0, 1) := by decide +kernel
theorem d_M_layer_65 : decode mi_M_layer.2.1 65 = .ok (.getfield 9, 3) := by decide +kernel
theorem d_M_layer_68 : decode mi_M_layer.2.1 68 = .ok (.iconst 1, 1) := by decide +kernel
theorem d_M_layer_69 : decode mi_M_layer.2.1 69 = .ok (.iaload, 1) := by decide +kernel
theorem d_M_layer_70 : decode mi_M_layer.2.1 70 = .ok (.if_icmp .ge 75, 3) := by decide +kernel
theorem d_M_layer_73 : decode mi_M_layer.2.1 73 = .ok (.iload_n 2, 1) := by decide +kernel
theorem d_M_layer_74 : decode mi_M_layer.2.1 74 = .ok (.ifCond .lt 50, 3) := by decide +kernel
theorem d_M_layer_77 : decode mi_M_layer.2.1 77 = .ok (.iload 5, 2) := by decide +kernel
theorem d_M_layer_79 : decode mi_M_layer.2.1 79 = .ok (.iload_n 1, 1) := by decide +kernel
theorem d_M_layer_80 : decode mi_M_layer.2.1 80 = .ok (.if_icmp .eq 44, 3) := by decide +kernel
theorem d_M_layer_83 : decode mi_M_layer.2.1 83 = .ok (.aload_n 0, 1) := by decide +kernel
theorem d_M_layer_84 : decode mi_M_layer.2.1 84 = .ok (.iload 5, 2) := by decide +kernel
theorem d_M_layer_86 : decode mi_M_layer.2.1 86 = .ok (.bipush 7, 2) := by decide +kernel
theorem d_M_layer_88 : decode mi_M_layer.2.1 88 = .ok (.invokevirtual 76, 3) := by decide +kernel
theorem d_M_layer_91 : decode mi_M_layer.2.1 91 = .ok (.iload_n 2, 1) := by decide +kernel
theorem d_M_layer_92 : decode mi_M_layer.2.1 92 = .ok (.if_icmp .ne 32, 3) := by decide +kernel
theorem d_M_layer_95 : decode mi_M_layer.2.1 95 = .ok (.aload_n 0, 1) := by decide +kernel
theorem d_M_layer_96 : decode mi_M_layer.2.1 96 = .ok (.iload 5, 2) := by decide +kernel
theorem d_M_layer_98 : decode mi_M_layer.2.1 98 = .ok (.bipush 8, 2) := by decide +kernel
theorem d_M_layer_100 : decode mi_M_layer.2.1 100 = .ok (.invokevirtual 76, 3) := by decide +kernel
theorem d_M_layer_103 : decode mi_M_layer.2.1 103 = .ok (.iload 4, 2) := by decide +kernel
theorem d_M_layer_105 : decode mi_M_layer.2.1 105 = .ok (.if_icmp .gt 19, 3) := by decide +kernel
theorem d_M_layer_108 : decode mi_M_layer.2.1 108 = .ok (.aload_n 0, 1) := by decide +kernel
theorem d_M_layer_109 : decode mi_M_layer.2.1 109 = .ok (.iload 5, 2) := by decide +kernel
theorem d_M_layer_111 : decode mi_M_layer.2.1 111 = .ok (.bipush 9, 2) := by decide +kernel
theorem d_M_layer_113 : decode mi_M_layer.2.1 113 = .ok (.invokevirtual 76, 3) := by decide +kernel
theorem d_M_layer_116 : decode mi_M_layer.2.1 116 = .ok (.iload_n 3, 1) := by decide +kernel
theorem d_M_layer_117 : decode mi_M_layer.2.1 117 = .ok (.if_icmp .lt 7, 3) := by decide +kernel
theorem d_M_layer_120 : decode mi_M_layer.2.1 120 = .ok (.iconst 1, 1) := by decide +kernel
theorem d_M_layer_121 : decode mi_M_layer.2.1 121 = .ok (.goto 4, 3) := by decide +kernel
theorem d_M_layer_124 : decode mi_M_layer.2.1 124 = .ok (.iconst 0, 1) := by decide +kernel
theorem d_M_layer_125 : decode mi_M_layer.2.1 125 = .ok (.istore 6, 2) := by decide +kernel
theorem d_M_layer_127 : decode mi_M_layer.2.1 127 = .ok (.iload 6, 2) := by decide +kernel
theorem d_M_layer_129 : decode mi_M_layer.2.1 129 = .ok (.ifCond .eq 10, 3) := by decide +kernel
theorem d_M_layer_132 : decode mi_M_layer.2.1 132 = .ok (.aload_n 0, 1) := by decide +kernel
theorem d_M_layer_133 : decode mi_M_layer.2.1 133 = .ok (.bipush (-35), 2) := by decide +kernel
theorem d_M_layer_135 : decode mi_M_layer.2.1 135 = .ok (.invokevirtual 106, 3) := by decide +kernel
theorem d_M_layer_138 : decode mi_M_layer.2.1 138 = .ok (.ireturn, 1) := by decide +kernel
theorem d_M_layer_139 : decode mi_M_layer.2.1 139 = .ok (.iinc 5 1, 3) := by decide +kernel
theorem d_M_layer_142 : decode mi_M_layer.2.1 142 = .ok (.goto (-80), 3) := by decide +kernel
theorem d_M_layer_145 : decode mi_M_layer.2.1 145 = .ok (.aload_n 0, 1) := by decide +kernel
theorem d_M_layer_146 : decode mi_M_layer.2.1 146 = .ok (.iload_n 1, 1) := by decide +kernel
theorem d_M_layer_147 : decode mi_M_layer.2.1 147 = .ok (.bipush 7, 2) := by decide +kernel
theorem d_M_layer_149 : decode mi_M_layer.2.1 149 = .ok (.iload_n 2, 1) := by decide +kernel
theorem d_M_layer_150 : decode mi_M_layer.2.1 150 = .ok (.invokevirtual 157, 3) := by decide +kernel
theorem d_M_layer_153 : decode mi_M_layer.2.1 153 = .ok (.aload_n 0, 1) := by decide +kernel
theorem d_M_layer_154 : decode mi_M_layer.2.1 154 = .ok (.iload_n 1, 1) := by decide +kernel
theorem d_M_layer_155 : decode mi_M_layer.2.1 155 = .ok (.bipush 8, 2) := by decide +kernel
theorem d_M_layer_157 : decode mi_M_layer.2.1 157 = .ok (.iload_n 2, 1) := by decide +kernel
theorem d_M_layer_158 : decode mi_M_layer.2.1 158 = .ok (.ifCond .ge 7, 3) := by decide +kernel
theorem d_M_layer_161 : decode mi_M_layer.2.1 161 = .ok (.iconst 0, 1) := by decide +kernel
theorem d_M_layer_162 : decode mi_M_layer.2.1 162 = .ok (.goto 4, 3) := by decide +kernel
theorem d_M_layer_165 : decode mi_M_layer.2.1 165 = .ok (.iload_n 3, 1) := by decide +kernel
theorem d_M_layer_166 : decode mi_M_layer.2.1 166 = .ok (.invokevirtual 157, 3) := by decide +kernel
theorem d_M_layer_169 : decode mi_M_layer.2.1 169 = .ok (.aload_n 0, 1) := by decide +kernel
theorem d_M_layer_170 : decode mi_M_layer.2.1 170 = .ok (.iload_n 1, 1) := by decide +kernel
theorem d_M_layer_171 : decode mi_M_layer.2.1 171 = .ok (.bipush 9, 2) := by decide +kernel
theorem d_M_layer_173 : decode mi_M_layer.2.1 173 = .ok (.iload_n 2, 1) := by decide +kernel
theorem d_M_layer_174 : decode mi_M_layer.2.1 174 = .ok (.ifCond .ge 7, 3) := by decide +kernel
theorem d_M_layer_177 : decode mi_M_layer.2.1 177 = .ok (.iconst 0, 1) := by decide +kernel
theorem d_M_layer_178 : decode mi_M_layer.2.1 178 = .ok (.goto 5, 3) := by decide +kernel
theorem d_M_layer_181 : decode mi_M_layer.2.1 181 = .ok (.iload 4, 2) := by decide +kernel
theorem d_M_layer_183 : decode mi_M_layer.2.1 183 = .ok (.invokevirtual 157, 3) := by decide +kernel
theorem d_M_layer_186 : decode mi_M_layer.2.1 186 = .ok (.iconst 1, 1) := by decide +kernel
theorem d_M_layer_187 : decode mi_M_layer.2.1 187 = .ok (.ireturn, 1) := by decide +kernel
theorem d_M_step_0 : decode mi_M_step.2.1 0 = .ok (.iload_n 1, 1) := by decide +kernel
theorem d_M_step_1 : decode mi_M_step.2.1 1 = .ok (.i2l, 1) := by decide +kernel
theorem d_M_step_2 : decode mi_M_step.2.1 2 = .ok (.aload_n 0, 1) := by decide +kernel
theorem d_M_step_3 : decode mi_M_step.2.1 3 = .ok (.getfield 9, 3) := by decide +kernel
theorem d_M_step_6 : decode mi_M_step.2.1 6 = .ok (.iconst 3, 1) := by decide +kernel
theorem d_M_step_7 : decode mi_M_step.2.1 7 = .ok (.iaload, 1) := by decide +kernel
theorem d_M_step_8 : decode mi_M_step.2.1 8 = .ok (.i2l, 1) := by decide +kernel
theorem d_M_step_9 : decode mi_M_step.2.1 9 = .ok (.ldc2_w 242, 3) := by decide +kernel
theorem d_M_step_12 : decode mi_M_step.2.1 12 = .ok (.invokestatic 68, 3) := by decide +kernel
theorem d_M_step_15 : decode mi_M_step.2.1 15 = .ok (.ifCond .eq 53, 3) := by decide +kernel
theorem d_M_step_18 : decode mi_M_step.2.1 18 = .ok (.aload_n 0, 1) := by decide +kernel
theorem d_M_step_19 : decode mi_M_step.2.1 19 = .ok (.iload_n 2, 1) := by decide +kernel
theorem d_M_step_20 : decode mi_M_step.2.1 20 = .ok (.invokevirtual 72, 3) := by decide +kernel
theorem d_M_step_23 : decode mi_M_step.2.1 23 = .ok (.ifCond .eq 45, 3) := by decide +kernel
theorem d_M_step_26 : decode mi_M_step.2.1 26 = .ok (.iload_n 3, 1) := by decide +kernel
theorem d_M_step_27 : decode mi_M_step.2.1 27 = .ok (.i2l, 1) := by decide +kernel
theorem d_M_step_28 : decode mi_M_step.2.1 28 = .ok (.lconst 0, 1) := by decide +kernel
theorem d_M_step_29 : decode mi_M_step.2.1 29 = .ok (.ldc2_w 244, 3) := by decide +kernel
theorem d_M_step_32 : decode mi_M_step.2.1 32 = .ok (.invokestatic 68, 3) := by decide +kernel
theorem d_M_step_35 : decode mi_M_step.2.1 35 = .ok (.ifCond .eq 33, 3) := by decide +kernel
theorem d_M_step_38 : decode mi_M_step.2.1 38 = .ok (.iload 4, 2) := by decide +kernel
theorem d_M_step_40 : decode mi_M_step.2.1 40 = .ok (.i2l, 1) := by decide +kernel
theorem d_M_step_41 : decode mi_M_step.2.1 41 = .ok (.lconst 1, 1) := by decide +kernel
theorem d_M_step_42 : decode mi_M_step.2.1 42 = .ok (.aload_n 0, 1) := by decide +kernel
theorem d_M_step_43 : decode mi_M_step.2.1 43 = .ok (.iload_n 2, 1) := by decide +kernel
theorem d_M_step_44 : decode mi_M_step.2.1 44 = .ok (.iconst 0, 1) := by decide +kernel
theorem d_M_step_45 : decode mi_M_step.2.1 45 = .ok (.invokevirtual 76, 3) := by decide +kernel
theorem d_M_step_48 : decode mi_M_step.2.1 48 = .ok (.i2l, 1) := by decide +kernel
theorem d_M_step_49 : decode mi_M_step.2.1 49 = .ok (.invokestatic 68, 3) := by decide +kernel
theorem d_M_step_52 : decode mi_M_step.2.1 52 = .ok (.ifCond .eq 16, 3) := by decide +kernel
theorem d_M_step_55 : decode mi_M_step.2.1 55 = .ok (.iload 5, 2) := by decide +kernel
theorem d_M_step_57 : decode mi_M_step.2.1 57 = .ok (.i2l, 1) := by decide +kernel
theorem d_M_step_58 : decode mi_M_step.2.1 58 = .ok (.lconst 0, 1) := by decide +kernel
theorem d_M_step_59 : decode mi_M_step.2.1 59 = .ok (.ldc2_w 226, 3) := by decide +kernel
theorem d_M_step_62 : decode mi_M_step.2.1 62 = .ok (.invokestatic 68, 3) := by decide +kernel
theorem d_M_step_65 : decode mi_M_step.2.1 65 = .ok (.ifCond .ne 10, 3) := by decide +kernel
theorem d_M_step_68 : decode mi_M_step.2.1 68 = .ok (.aload_n 0, 1) := by decide +kernel
theorem d_M_step_69 : decode mi_M_step.2.1 69 = .ok (.bipush (-32), 2) := by decide +kernel
theorem d_M_step_71 : decode mi_M_step.2.1 71 = .ok (.invokevirtual 106, 3) := by decide +kernel
theorem d_M_step_74 : decode mi_M_step.2.1 74 = .ok (.ireturn, 1) := by decide +kernel
theorem d_M_step_75 : decode mi_M_step.2.1 75 = .ok (.aload_n 0, 1) := by decide +kernel
theorem d_M_step_76 : decode mi_M_step.2.1 76 = .ok (.getfield 9, 3) := by decide +kernel
theorem d_M_step_79 : decode mi_M_step.2.1 79 = .ok (.iconst 2, 1) := by decide +kernel
theorem d_M_step_80 : decode mi_M_step.2.1 80 = .ok (.iaload, 1) := by decide +kernel
theorem d_M_step_81 : decode mi_M_step.2.1 81 = .ok (.istore 6, 2) := by decide +kernel
theorem d_M_step_83 : decode mi_M_step.2.1 83 = .ok (.iload 6, 2) := by decide +kernel
theorem d_M_step_85 : decode mi_M_step.2.1 85 = .ok (.bipush 24, 2) := by decide +kernel
theorem d_M_step_87 : decode mi_M_step.2.1 87 = .ok (.if_icmp .ne 10, 3) := by decide +kernel
theorem d_M_step_90 : decode mi_M_step.2.1 90 = .ok (.aload_n 0, 1) := by decide +kernel
theorem d_M_step_91 : decode mi_M_step.2.1 91 = .ok (.bipush (-36), 2) := by decide +kernel
theorem d_M_step_93 : decode mi_M_step.2.1 93 = .ok (.invokevirtual 106, 3) := by decide +kernel
theorem d_M_step_96 : decode mi_M_step.2.1 96 = .ok (.ireturn, 1) := by decide +kernel
theorem d_M_step_97 : decode mi_M_step.2.1 97 = .ok (.bipush 54, 2) := by decide +kernel
theorem d_M_step_99 : decode mi_M_step.2.1 99 = .ok (.iconst 5, 1) := by decide +kernel
theorem d_M_step_100 : decode mi_M_step.2.1 100 = .ok (.iload 6, 2) := by decide +kernel
theorem d_M_step_102 : decode mi_M_step.2.1 102 = .ok (.imul, 1) := by decide +kernel
theorem d_M_step_103 : decode mi_M_step.2.1 103 = .ok (.iadd, 1) := by decide +kernel
theorem d_M_step_104 : decode mi_M_step.2.1 104 = .ok (.istore 7, 2) := by decide +kernel
theorem d_M_step_106 : decode mi_M_step.2.1 106 = .ok (.aload_n 0, 1) := by decide +kernel
theorem d_M_step_107 : decode mi_M_step.2.1 107 = .ok (.getfield 9, 3) := by decide +kernel
theorem d_M_step_110 : decode mi_M_step.2.1 110 = .ok (.iload 7, 2) := by decide +kernel
theorem d_M_step_112 : decode mi_M_step.2.1 112 = .ok (.iload_n 1, 1) := by decide +kernel
theorem d_M_step_113 : decode mi_M_step.2.1 113 = .ok (.iastore, 1) := by decide +kernel
theorem d_M_step_114 : decode mi_M_step.2.1 114 = .ok (.aload_n 0, 1) := by decide +kernel
theorem d_M_step_115 : decode mi_M_step.2.1 115 = .ok (.getfield 9, 3) := by decide +kernel
theorem d_M_step_118 : decode mi_M_step.2.1 118 = .ok (.iload 7, 2) := by decide +kernel
theorem d_M_step_120 : decode mi_M_step.2.1 120 = .ok (.iconst 1, 1) := by decide +kernel
theorem d_M_step_121 : decode mi_M_step.2.1 121 = .ok (.iadd, 1) := by decide +kernel
theorem d_M_step_122 : decode mi_M_step.2.1 122 = .ok (.iload_n 2, 1) := by decide +kernel
theorem d_M_step_123 : decode mi_M_step.2.1 123 = .ok (.iastore, 1) := by decide +kernel
theorem d_M_step_124 : decode mi_M_step.2.1 124 = .ok (.aload_n 0, 1) := by decide +kernel
theorem d_M_step_125 : decode mi_M_step.2.1 125 = .ok (.getfield 9, 3) := by decide +kernel
theorem d_M_step_128 : decode mi_M_step.2.1 128 = .ok (.iload 7, 2) := by decide +kernel
theorem d_M_step_130 : decode mi_M_step.2.1 130 = .ok (.iconst 2, 1) := by decide +kernel
theorem d_M_step_131 : decode mi_M_step.2.1 131 = .ok (.iadd, 1) := by decide +kernel
theorem d_M_step_132 : decode mi_M_step.2.1 132 = .ok (.iload_n 3, 1) := by decide +kernel
theorem d_M_step_133 : decode mi_M_step.2.1 133 = .ok (.iastore, 1) := by decide +kernel
theorem d_M_step_134 : decode mi_M_step.2.1 134 = .ok (.aload_n 0, 1) := by decide +kernel
theorem d_M_step_135 : decode mi_M_step.2.1 135 = .ok (.getfield 9, 3) := by decide +kernel
theorem d_M_step_138 : decode mi_M_step.2.1 138 = .ok (.iload 7, 2) := by decide +kernel
theorem d_M_step_140 : decode mi_M_step.2.1 140 = .ok (.iconst 3, 1) := by decide +kernel
theorem d_M_step_141 : decode mi_M_step.2.1 141 = .ok (.iadd, 1) := by decide +kernel
theorem d_M_step_142 : decode mi_M_step.2.1 142 = .ok (.iload 4, 2) := by decide +kernel
theorem d_M_step_144 : decode mi_M_step.2.1 144 = .ok (.iastore, 1) := by decide +kernel
theorem d_M_step_145 : decode mi_M_step.2.1 145 = .ok (.aload_n 0, 1) := by decide +kernel
theorem d_M_step_146 : decode mi_M_step.2.1 146 = .ok (.getfield 9, 3) := by decide +kernel
theorem d_M_step_149 : decode mi_M_step.2.1 149 = .ok (.iload 7, 2) := by decide +kernel
theorem d_M_step_151 : decode mi_M_step.2.1 151 = .ok (.iconst 4, 1) := by decide +kernel
theorem d_M_step_152 : decode mi_M_step.2.1 152 = .ok (.iadd, 1) := by decide +kernel
theorem d_M_step_153 : decode mi_M_step.2.1 153 = .ok (.iload 5, 2) := by decide +kernel
theorem d_M_step_155 : decode mi_M_step.2.1 155 = .ok (.iastore, 1) := by decide +kernel
theorem d_M_step_156 : decode mi_M_step.2.1 156 = .ok (.aload_n 0, 1) := by decide +kernel
theorem d_M_step_157 : decode mi_M_step.2.1 157 = .ok (.getfield 9, 3) := by decide +kernel
theorem d_M_step_160 : decode mi_M_step.2.1 160 = .ok (.iconst 2, 1) := by decide +kernel
theorem d_M_step_161 : decode mi_M_step.2.1 161 = .ok (.iload 6, 2) := by decide +kernel
theorem d_M_step_163 : decode mi_M_step.2.1 163 = .ok (.iconst 1, 1) := by decide +kernel
theorem d_M_step_164 : decode mi_M_step.2.1 164 = .ok (.iadd, 1) := by decide +kernel
theorem d_M_step_165 : decode mi_M_step.2.1 165 = .ok (.iastore, 1) := by decide +kernel
theorem d_M_step_166 : decode mi_M_step.2.1 166 = .ok (.iload 6, 2) := by decide +kernel
theorem d_M_step_168 : decode mi_M_step.2.1 168 = .ok (.iconst 1, 1) := by decide +kernel
theorem d_M_step_169 : decode mi_M_step.2.1 169 = .ok (.iadd, 1) := by decide +kernel
theorem d_M_step_170 : decode mi_M_step.2.1 170 = .ok (.ireturn, 1) := by decide +kernel
theorem d_M_pass_0 : decode mi_M_pass.2.1 0 = .ok (.iload_n 1, 1) := by decide +kernel
theorem d_M_pass_1 : decode mi_M_pass.2.1 1 = .ok (.i2l, 1) := by decide +kernel
theorem d_M_pass_2 : decode mi_M_pass.2.1 2 = .ok (.lconst 0, 1) := by decide +kernel
theorem d_M_pass_3 : decode mi_M_pass.2.1 3 = .ok (.ldc2_w 240, 3) := by decide +kernel
theorem d_M_pass_6 : decode mi_M_pass.2.1 6 = .ok (.invokestatic 68, 3) := by decide +kernel
theorem d_M_pass_9 : decode mi_M_pass.2.1 9 = .ok (.ifCond .ne 10, 3) := by decide +kernel
theorem d_M_pass_12 : decode mi_M_pass.2.1 12 = .ok (.aload_n 0, 1) := by decide +kernel
theorem d_M_pass_13 : decode mi_M_pass.2.1 13 = .ok (.bipush (-32), 2) := by decide +kernel
theorem d_M_pass_15 : decode mi_M_pass.2.1 15 = .ok (.invokevirtual 106, 3) := by decide +kernel
theorem d_M_pass_18 : decode mi_M_pass.2.1 18 = .ok (.ireturn, 1) := by decide +kernel
theorem d_M_pass_19 : decode mi_M_pass.2.1 19 = .ok (.aload_n 0, 1) := by decide +kernel
theorem d_M_pass_20 : decode mi_M_pass.2.1 20 = .ok (.getfield 9, 3) := by decide +kernel
theorem d_M_pass_23 : decode mi_M_pass.2.1 23 = .ok (.iconst 3, 1) := by decide +kernel
theorem d_M_pass_24 : decode mi_M_pass.2.1 24 = .ok (.dup2, 1) := by decide +kernel
theorem d_M_pass_25 : decode mi_M_pass.2.1 25 = .ok (.iaload, 1) := by decide +kernel
theorem d_M_pass_26 : decode mi_M_pass.2.1 26 = .ok (.iload_n 1, 1) := by decide +kernel
theorem d_M_pass_27 : decode mi_M_pass.2.1 27 = .ok (.iadd, 1) := by decide +kernel
theorem d_M_pass_28 : decode mi_M_pass.2.1 28 = .ok (.iastore, 1) := by decide +kernel
theorem d_M_pass_29 : decode mi_M_pass.2.1 29 = .ok (.aload_n 0, 1) := by decide +kernel
theorem d_M_pass_30 : decode mi_M_pass.2.1 30 = .ok (.aload_n 0, 1) := by decide +kernel
theorem d_M_pass_31 : decode mi_M_pass.2.1 31 = .ok (.getfield 9, 3) := by decide +kernel
theorem d_M_pass_34 : decode mi_M_pass.2.1 34 = .ok (.iconst 3, 1) := by decide +kernel
theorem d_M_pass_35 : decode mi_M_pass.2.1 35 = .ok (.iaload, 1) := by decide +kernel
theorem d_M_pass_36 : decode mi_M_pass.2.1 36 = .ok (.invokevirtual 246, 3) := by decide +kernel
theorem d_M_pass_39 : decode mi_M_pass.2.1 39 = .ok (.ireturn, 1) := by decide +kernel
theorem d_M_stepsTill_0 : decode mi_M_stepsTill.2.1 0 = .ok (.iconst 0, 1) := by decide +kernel
theorem d_M_stepsTill_1 : decode mi_M_stepsTill.2.1 1 = .ok (.istore_n 2, 1) := by decide +kernel
theorem d_M_stepsTill_2 : decode mi_M_stepsTill.2.1 2 = .ok (.iconst (-1), 1) := by decide +kernel
theorem d_M_stepsTill_3 : decode mi_M_stepsTill.2.1 3 = .ok (.istore_n 3, 1) := by decide +kernel
theorem d_M_stepsTill_4 : decode mi_M_stepsTill.2.1 4 = .ok (.iconst 0, 1) := by decide +kernel
theorem d_M_stepsTill_5 : decode mi_M_stepsTill.2.1 5 = .ok (.istore 4, 2) := by decide +kernel
theorem d_M_stepsTill_7 : decode mi_M_stepsTill.2.1 7 = .ok (.iload 4, 2) := by decide +kernel
theorem d_M_stepsTill_9 : decode mi_M_stepsTill.2.1 9 = .ok (.aload_n 0, 1) := by decide +kernel
theorem d_M_stepsTill_10 : decode mi_M_stepsTill.2.1 10 = .ok (.getfield 9, 3) := by decide +kernel
theorem d_M_stepsTill_13 : decode mi_M_stepsTill.2.1 13 = .ok (.iconst 2, 1) := by decide +kernel
theorem d_M_stepsTill_14 : decode mi_M_stepsTill.2.1 14 = .ok (.iaload, 1) := by decide +kernel
theorem d_M_stepsTill_15 : decode mi_M_stepsTill.2.1 15 = .ok (.if_icmp .ge 56, 3) := by decide +kernel
theorem d_M_stepsTill_18 : decode mi_M_stepsTill.2.1 18 = .ok (.aload_n 0, 1) := by decide +kernel
theorem d_M_stepsTill_19 : decode mi_M_stepsTill.2.1 19 = .ok (.getfield 9, 3) := by decide +kernel
theorem d_M_stepsTill_22 : decode mi_M_stepsTill.2.1 22 = .ok (.bipush 54, 2) := by decide +kernel
theorem d_M_stepsTill_24 : decode mi_M_stepsTill.2.1 24 = .ok (.iconst 5, 1) := by decide +kernel
theorem d_M_stepsTill_25 : decode mi_M_stepsTill.2.1 25 = .ok (.iload 4, 2) := by decide +kernel
theorem d_M_stepsTill_27 : decode mi_M_stepsTill.2.1 27 = .ok (.imul, 1) := by decide +kernel
theorem d_M_stepsTill_28 : decode mi_M_stepsTill.2.1 28 = .ok (.iadd, 1) := by decide +kernel
theorem d_M_stepsTill_29 : decode mi_M_stepsTill.2.1 29 = .ok (.iaload, 1) := by decide +kernel
theorem d_M_stepsTill_30 : decode mi_M_stepsTill.2.1 30 = .ok (.istore 5, 2) := by decide +kernel
theorem d_M_stepsTill_32 : decode mi_M_stepsTill.2.1 32 = .ok (.iload 5, 2) := by decide +kernel
theorem d_M_stepsTill_34 : decode mi_M_stepsTill.2.1 34 = .ok (.iload_n 1, 1) := by decide +kernel
theorem d_M_stepsTill_35 : decode mi_M_stepsTill.2.1 35 = .ok (.if_icmp .gt 28, 3) := by decide +kernel
theorem d_M_stepsTill_38 : decode mi_M_stepsTill.2.1 38 = .ok (.iload_n 3, 1) := by decide +kernel
theorem d_M_stepsTill_39 : decode mi_M_stepsTill.2.1 39 = .ok (.ifCond .lt 19, 3) := by decide +kernel
theorem d_M_stepsTill_42 : decode mi_M_stepsTill.2.1 42 = .ok (.iload 5, 2) := by decide +kernel
theorem d_M_stepsTill_44 : decode mi_M_stepsTill.2.1 44 = .ok (.aload_n 0, 1) := by decide +kernel
theorem d_M_stepsTill_45 : decode mi_M_stepsTill.2.1 45 = .ok (.getfield 9, 3) := by decide +kernel
theorem d_M_stepsTill_48 : decode mi_M_stepsTill.2.1 48 = .ok (.bipush 54, 2) := by decide +kernel
theorem d_M_stepsTill_50 : decode mi_M_stepsTill.2.1 50 = .ok (.iconst 5, 1) := by decide +kernel
theorem d_M_stepsTill_51 : decode mi_M_stepsTill.2.1 51 = .ok (.iload_n 3, 1) := by decide +kernel
theorem d_M_stepsTill_52 : decode mi_M_stepsTill.2.1 52 = .ok (.imul, 1) := by decide +kernel
theorem d_M_stepsTill_53 : decode mi_M_stepsTill.2.1 53 = .ok (.iadd, 1) := by decide +kernel
theorem d_M_stepsTill_54 : decode mi_M_stepsTill.2.1 54 = .ok (.iaload, 1) := by decide +kernel
theorem d_M_stepsTill_55 : decode mi_M_stepsTill.2.1 55 = .ok (.if_icmp .ge 8, 3) := by decide +kernel
theorem d_M_stepsTill_58 : decode mi_M_stepsTill.2.1 58 = .ok (.iload 4, 2) := by decide +kernel
theorem d_M_stepsTill_60 : decode mi_M_stepsTill.2.1 60 = .ok (.goto 4, 3) := by decide +kernel
theorem d_M_stepsTill_63 : decode mi_M_stepsTill.2.1 63 = .ok (.iload_n 3, 1) := by decide +kernel
theorem d_M_stepsTill_64 : decode mi_M_stepsTill.2.1 64 = .ok (.istore_n 3, 1) := by decide +kernel
theorem d_M_stepsTill_65 : decode mi_M_stepsTill.2.1 65 = .ok (.iinc 4 1, 3) := by decide +kernel
theorem d_M_stepsTill_68 : decode mi_M_stepsTill.2.1 68 = .ok (.goto (-61), 3) := by decide +kernel
theorem d_M_stepsTill_71 : decode mi_M_stepsTill.2.1 71 = .ok (.iload_n 3, 1) := by decide +kernel
theorem d_M_stepsTill_72 : decode mi_M_stepsTill.2.1 72 = .ok (.ifCond .ge 5, 3) := by decide +kernel
theorem d_M_stepsTill_75 : decode mi_M_stepsTill.2.1 75 = .ok (.iload_n 2, 1) := by decide +kernel
theorem d_M_stepsTill_76 : decode mi_M_stepsTill.2.1 76 = .ok (.ireturn, 1) := by decide +kernel
theorem d_M_stepsTill_77 : decode mi_M_stepsTill.2.1 77 = .ok (.bipush 54, 2) := by decide +kernel
theorem d_M_stepsTill_79 : decode mi_M_stepsTill.2.1 79 = .ok (.iconst 5, 1) := by decide +kernel
theorem d_M_stepsTill_80 : decode mi_M_stepsTill.2.1 80 = .ok (.iload_n 3, 1) := by decide +kernel
theorem d_M_stepsTill_81 : decode mi_M_stepsTill.2.1 81 = .ok (.imul, 1) := by decide +kernel
theorem d_M_stepsTill_82 : decode mi_M_stepsTill.2.1 82 = .ok (.iadd, 1) := by decide +kernel
theorem d_M_stepsTill_83 : decode mi_M_stepsTill.2.1 83 = .ok (.istore 4, 2) := by decide +kernel
theorem d_M_stepsTill_85 : decode mi_M_stepsTill.2.1 85 = .ok (.aload_n 0, 1) := by decide +kernel
theorem d_M_stepsTill_86 : decode mi_M_stepsTill.2.1 86 = .ok (.aload_n 0, 1) := by decide +kernel
theorem d_M_stepsTill_87 : decode mi_M_stepsTill.2.1 87 = .ok (.getfield 9, 3) := by decide +kernel
theorem d_M_stepsTill_90 : decode mi_M_stepsTill.2.1 90 = .ok (.iload 4, 2) := by decide +kernel
theorem d_M_stepsTill_92 : decode mi_M_stepsTill.2.1 92 = .ok (.iconst 1, 1) := by decide +kernel
theorem d_M_stepsTill_93 : decode mi_M_stepsTill.2.1 93 = .ok (.iadd, 1) := by decide +kernel
theorem d_M_stepsTill_94 : decode mi_M_stepsTill.2.1 94 = .ok (.iaload, 1) := by decide +kernel
theorem d_M_stepsTill_95 : decode mi_M_stepsTill.2.1 95 = .ok (.aload_n 0, 1) := by decide +kernel
theorem d_M_stepsTill_96 : decode mi_M_stepsTill.2.1 96 = .ok (.getfield 9, 3) := by decide +kernel
theorem d_M_stepsTill_99 : decode mi_M_stepsTill.2.1 99 = .ok (.iload 4, 2) := by decide +kernel
theorem d_M_stepsTill_101 : decode mi_M_stepsTill.2.1 101 = .ok (.iconst 2, 1) := by decide +kernel
theorem d_M_stepsTill_102 : decode mi_M_stepsTill.2.1 102 = .ok (.iadd, 1) := by decide +kernel
theorem d_M_stepsTill_103 : decode mi_M_stepsTill.2.1 103 = .ok (.iaload, 1) := by decide +kernel
theorem d_M_stepsTill_104 : decode mi_M_stepsTill.2.1 104 = .ok (.invokevirtual 223, 3) := by decide +kernel
theorem d_M_stepsTill_107 : decode mi_M_stepsTill.2.1 107 = .ok (.ifCond .eq 72, 3) := by decide +kernel
theorem d_M_stepsTill_110 : decode mi_M_stepsTill.2.1 110 = .ok (.aload_n 0, 1) := by decide +kernel
theorem d_M_stepsTill_111 : decode mi_M_stepsTill.2.1 111 = .ok (.aload_n 0, 1) := by decide +kernel
theorem d_M_stepsTill_112 : decode mi_M_stepsTill.2.1 112 = .ok (.getfield 9, 3) := by decide +kernel
theorem d_M_stepsTill_115 : decode mi_M_stepsTill.2.1 115 = .ok (.iload 4, 2) := by decide +kernel
theorem d_M_stepsTill_117 : decode mi_M_stepsTill.2.1 117 = .ok (.iconst 1, 1) := by decide +kernel
theorem d_M_stepsTill_118 : decode mi_M_stepsTill.2.1 118 = .ok (.iadd, 1) := by decide +kernel
theorem d_M_stepsTill_119 : decode mi_M_stepsTill.2.1 119 = .ok (.iaload, 1) := by decide +kernel
theorem d_M_stepsTill_120 : decode mi_M_stepsTill.2.1 120 = .ok (.aload_n 0, 1) := by decide +kernel
theorem d_M_stepsTill_121 : decode mi_M_stepsTill.2.1 121 = .ok (.getfield 9, 3) := by decide +kernel
theorem d_M_stepsTill_124 : decode mi_M_stepsTill.2.1 124 = .ok (.iload 4, 2) := by decide +kernel
theorem d_M_stepsTill_126 : decode mi_M_stepsTill.2.1 126 = .ok (.iconst 2, 1) := by decide +kernel
theorem d_M_stepsTill_127 : decode mi_M_stepsTill.2.1 127 = .ok (.iadd, 1) := by decide +kernel
theorem d_M_stepsTill_128 : decode mi_M_stepsTill.2.1 128 = .ok (.iaload, 1) := by decide +kernel
theorem d_M_stepsTill_129 : decode mi_M_stepsTill.2.1 129 = .ok (.invokevirtual 188, 3) := by decide +kernel
theorem d_M_stepsTill_132 : decode mi_M_stepsTill.2.1 132 = .ok (.ifCond .ne 47, 3) := by decide +kernel
theorem d_M_stepsTill_135 : decode mi_M_stepsTill.2.1 135 = .ok (.aload_n 0, 1) := by decide +kernel
theorem d_M_stepsTill_136 : decode mi_M_stepsTill.2.1 136 = .ok (.getfield 9, 3) := by decide +kernel
theorem d_M_stepsTill_139 : decode mi_M_stepsTill.2.1 139 = .ok (.aload_n 0, 1) := by decide +kernel
theorem d_M_stepsTill_140 : decode mi_M_stepsTill.2.1 140 = .ok (.getfield 9, 3) := by decide +kernel
theorem d_M_stepsTill_143 : decode mi_M_stepsTill.2.1 143 = .ok (.iload 4, 2) := by decide +kernel
theorem d_M_stepsTill_145 : decode mi_M_stepsTill.2.1 145 = .ok (.iconst 1, 1) := by decide +kernel
theorem d_M_stepsTill_146 : decode mi_M_stepsTill.2.1 146 = .ok (.iadd, 1) := by decide +kernel
theorem d_M_stepsTill_147 : decode mi_M_stepsTill.2.1 147 = .ok (.iaload, 1) := by decide +kernel
theorem d_M_stepsTill_148 : decode mi_M_stepsTill.2.1 148 = .ok (.aload_n 0, 1) := by decide +kernel
theorem d_M_stepsTill_149 : decode mi_M_stepsTill.2.1 149 = .ok (.getfield 9, 3) := by decide +kernel
theorem d_M_stepsTill_152 : decode mi_M_stepsTill.2.1 152 = .ok (.iload 4, 2) := by decide +kernel
theorem d_M_stepsTill_154 : decode mi_M_stepsTill.2.1 154 = .ok (.iconst 2, 1) := by decide +kernel
theorem d_M_stepsTill_155 : decode mi_M_stepsTill.2.1 155 = .ok (.iadd, 1) := by decide +kernel
theorem d_M_stepsTill_156 : decode mi_M_stepsTill.2.1 156 = .ok (.iaload, 1) := by decide +kernel
theorem d_M_stepsTill_157 : decode mi_M_stepsTill.2.1 157 = .ok (.aload_n 0, 1) := by decide +kernel
theorem d_M_stepsTill_158 : decode mi_M_stepsTill.2.1 158 = .ok (.getfield 9, 3) := by decide +kernel
theorem d_M_stepsTill_161 : decode mi_M_stepsTill.2.1 161 = .ok (.iload 4, 2) := by decide +kernel
theorem d_M_stepsTill_163 : decode mi_M_stepsTill.2.1 163 = .ok (.iconst 3, 1) := by decide +kernel
theorem d_M_stepsTill_164 : decode mi_M_stepsTill.2.1 164 = .ok (.iadd, 1) := by decide +kernel
theorem d_M_stepsTill_165 : decode mi_M_stepsTill.2.1 165 = .ok (.iaload, 1) := by decide +kernel
theorem d_M_stepsTill_166 : decode mi_M_stepsTill.2.1 166 = .ok (.invokestatic 80, 3) := by decide +kernel
theorem d_M_stepsTill_169 : decode mi_M_stepsTill.2.1 169 = .ok (.aload_n 0, 1) := by decide +kernel
theorem d_M_stepsTill_170 : decode mi_M_stepsTill.2.1 170 = .ok (.getfield 9, 3) := by decide +kernel
theorem d_M_stepsTill_173 : decode mi_M_stepsTill.2.1 173 = .ok (.iload 4, 2) := by decide +kernel
theorem d_M_stepsTill_175 : decode mi_M_stepsTill.2.1 175 = .ok (.iconst 4, 1) := by decide +kernel
theorem d_M_stepsTill_176 : decode mi_M_stepsTill.2.1 176 = .ok (.iadd, 1) := by decide +kernel
theorem d_M_stepsTill_177 : decode mi_M_stepsTill.2.1 177 = .ok (.iaload, 1) := by decide +kernel
theorem d_M_stepsTill_178 : decode mi_M_stepsTill.2.1 178 = .ok (.iastore, 1) := by decide +kernel
theorem d_M_stepsTill_179 : decode mi_M_stepsTill.2.1 179 = .ok (.aload_n 0, 1) := by decide +kernel
theorem d_M_stepsTill_180 : decode mi_M_stepsTill.2.1 180 = .ok (.getfield 9, 3) := by decide +kernel
theorem d_M_stepsTill_183 : decode mi_M_stepsTill.2.1 183 = .ok (.iconst 2, 1) := by decide +kernel
theorem d_M_stepsTill_184 : decode mi_M_stepsTill.2.1 184 = .ok (.dup2, 1) := by decide +kernel
theorem d_M_stepsTill_185 : decode mi_M_stepsTill.2.1 185 = .ok (.iaload, 1) := by decide +kernel
theorem d_M_stepsTill_186 : decode mi_M_stepsTill.2.1 186 = .ok (.iconst 1, 1) := by decide +kernel
theorem d_M_stepsTill_187 : decode mi_M_stepsTill.2.1 187 = .ok (.isub, 1) := by decide +kernel
theorem d_M_stepsTill_188 : decode mi_M_stepsTill.2.1 188 = .ok (.iastore, 1) := by decide +kernel
theorem d_M_stepsTill_189 : decode mi_M_stepsTill.2.1 189 = .ok (.iload 4, 2) := by decide +kernel
theorem d_M_stepsTill_191 : decode mi_M_stepsTill.2.1 191 = .ok (.istore 5, 2) := by decide +kernel
theorem d_M_stepsTill_193 : decode mi_M_stepsTill.2.1 193 = .ok (.iload 5, 2) := by decide +kernel
theorem d_M_stepsTill_195 : decode mi_M_stepsTill.2.1 195 = .ok (.bipush 54, 2) := by decide +kernel
theorem d_M_stepsTill_197 : decode mi_M_stepsTill.2.1 197 = .ok (.iconst 5, 1) := by decide +kernel
theorem d_M_stepsTill_198 : decode mi_M_stepsTill.2.1 198 = .ok (.aload_n 0, 1) := by decide +kernel
theorem d_M_stepsTill_199 : decode mi_M_stepsTill.2.1 199 = .ok (.getfield 9, 3) := by decide +kernel
theorem d_M_stepsTill_202 : decode mi_M_stepsTill.2.1 202 = .ok (.iconst 2, 1) := by decide +kernel
theorem d_M_stepsTill_203 : decode mi_M_stepsTill.2.1 203 = .ok (.iaload, 1) := by decide +kernel
theorem d_M_stepsTill_204 : decode mi_M_stepsTill.2.1 204 = .ok (.imul, 1) := by decide +kernel
theorem d_M_stepsTill_205 : decode mi_M_stepsTill.2.1 205 = .ok (.iadd, 1) := by decide +kernel
theorem d_M_stepsTill_206 : decode mi_M_stepsTill.2.1 206 = .ok (.if_icmp .ge 25, 3) := by decide +kernel
theorem d_M_stepsTill_209 : decode mi_M_stepsTill.2.1 209 = .ok (.aload_n 0, 1) := by decide +kernel
theorem d_M_stepsTill_210 : decode mi_M_stepsTill.2.1 210 = .ok (.getfield 9, 3) := by decide +kernel
theorem d_M_stepsTill_213 : decode mi_M_stepsTill.2.1 213 = .ok (.iload 5, 2) := by decide +kernel
theorem d_M_stepsTill_215 : decode mi_M_stepsTill.2.1 215 = .ok (.aload_n 0, 1) := by decide +kernel
theorem d_M_stepsTill_216 : decode mi_M_stepsTill.2.1 216 = .ok (.getfield 9, 3) := by decide +kernel
theorem d_M_stepsTill_219 : decode mi_M_stepsTill.2.1 219 = .ok (.iload 5, 2) := by decide +kernel
theorem d_M_stepsTill_221 : decode mi_M_stepsTill.2.1 221 = .ok (.iconst 5, 1) := by decide +kernel
theorem d_M_stepsTill_222 : decode mi_M_stepsTill.2.1 222 = .ok (.iadd, 1) := by decide +kernel
theorem d_M_stepsTill_223 : decode mi_M_stepsTill.2.1 223 = .ok (.iaload, 1) := by decide +kernel
theorem d_M_stepsTill_224 : decode mi_M_stepsTill.2.1 224 = .ok (.iastore, 1) := by decide +kernel
theorem d_M_stepsTill_225 : decode mi_M_stepsTill.2.1 225 = .ok (.iinc 5 1, 3) := by decide +kernel
theorem d_M_stepsTill_228 : decode mi_M_stepsTill.2.1 228 = .ok (.goto (-35), 3) := by decide +kernel
theorem d_M_stepsTill_231 : decode mi_M_stepsTill.2.1 231 = .ok (.iinc 2 1, 3) := by decide +kernel
theorem d_M_stepsTill_234 : decode mi_M_stepsTill.2.1 234 = .ok (.goto (-232), 3) := by decide +kernel
theorem d_M_later_0 : decode mi_M_later.2.1 0 = .ok (.aload_n 0, 1) := by decide +kernel
theorem d_M_later_1 : decode mi_M_later.2.1 1 = .ok (.iload_n 2, 1) := by decide +kernel
theorem d_M_later_2 : decode mi_M_later.2.1 2 = .ok (.invokevirtual 204, 3) := by decide +kernel
theorem d_M_later_5 : decode mi_M_later.2.1 5 = .ok (.istore 4, 2) := by decide +kernel
theorem d_M_later_7 : decode mi_M_later.2.1 7 = .ok (.aload_n 0, 1) := by decide +kernel
theorem d_M_later_8 : decode mi_M_later.2.1 8 = .ok (.iload_n 1, 1) := by decide +kernel
theorem d_M_later_9 : decode mi_M_later.2.1 9 = .ok (.invokevirtual 72, 3) := by decide +kernel
theorem d_M_later_12 : decode mi_M_later.2.1 12 = .ok (.ifCond .eq 34, 3) := by decide +kernel
theorem d_M_later_15 : decode mi_M_later.2.1 15 = .ok (.iload 4, 2) := by decide +kernel
theorem d_M_later_17 : decode mi_M_later.2.1 17 = .ok (.ifCond .lt 29, 3) := by decide +kernel
theorem d_M_later_20 : decode mi_M_later.2.1 20 = .ok (.iload_n 3, 1) := by decide +kernel
theorem d_M_later_21 : decode mi_M_later.2.1 21 = .ok (.i2l, 1) := by decide +kernel
theorem d_M_later_22 : decode mi_M_later.2.1 22 = .ok (.aload_n 0, 1) := by decide +kernel
theorem d_M_later_23 : decode mi_M_later.2.1 23 = .ok (.getfield 9, 3) := by decide +kernel
theorem d_M_later_26 : decode mi_M_later.2.1 26 = .ok (.iconst 3, 1) := by decide +kernel
theorem d_M_later_27 : decode mi_M_later.2.1 27 = .ok (.iaload, 1) := by decide +kernel
theorem d_M_later_28 : decode mi_M_later.2.1 28 = .ok (.i2l, 1) := by decide +kernel
theorem d_M_later_29 : decode mi_M_later.2.1 29 = .ok (.aload_n 0, 1) := by decide +kernel
theorem d_M_later_30 : decode mi_M_later.2.1 30 = .ok (.getfield 9, 3) := by decide +kernel
theorem d_M_later_33 : decode mi_M_later.2.1 33 = .ok (.iconst 3, 1) := by decide +kernel
theorem d_M_later_34 : decode mi_M_later.2.1 34 = .ok (.iaload, 1) := by decide +kernel
theorem d_M_later_35 : decode mi_M_later.2.1 35 = .ok (.i2l, 1) := by decide +kernel
theorem d_M_later_36 : decode mi_M_later.2.1 36 = .ok (.ldc2_w 214, 3) := by decide +kernel
theorem d_M_later_39 : decode mi_M_later.2.1 39 = .ok (.ladd, 1) := by decide +kernel
theorem d_M_later_40 : decode mi_M_later.2.1 40 = .ok (.invokestatic 68, 3) := by decide +kernel
theorem d_M_later_43 : decode mi_M_later.2.1 43 = .ok (.ifCond .ne 10, 3) := by decide +kernel
theorem d_M_later_46 : decode mi_M_later.2.1 46 = .ok (.aload_n 0, 1) := by decide +kernel
theorem d_M_later_47 : decode mi_M_later.2.1 47 = .ok (.bipush (-32), 2) := by decide +kernel
theorem d_M_later_49 : decode mi_M_later.2.1 49 = .ok (.invokevirtual 106, 3) := by decide +kernel
theorem d_M_later_52 : decode mi_M_later.2.1 52 = .ok (.ireturn, 1) := by decide +kernel
theorem d_M_later_53 : decode mi_M_later.2.1 53 = .ok (.aload_n 0, 1) := by decide +kernel
theorem d_M_later_54 : decode mi_M_later.2.1 54 = .ok (.getfield 9, 3) := by decide +kernel
theorem d_M_later_57 : decode mi_M_later.2.1 57 = .ok (.aload_n 0, 1) := by decide +kernel
theorem d_M_later_58 : decode mi_M_later.2.1 58 = .ok (.getfield 13, 3) := by decide +kernel
theorem d_M_later_61 : decode mi_M_later.2.1 61 = .ok (.invokestatic 249, 3) := by decide +kernel
theorem d_M_later_64 : decode mi_M_later.2.1 64 = .ok (.aload_n 0, 1) := by decide +kernel
theorem d_M_later_65 : decode mi_M_later.2.1 65 = .ok (.iload_n 3, 1) := by decide +kernel
theorem d_M_later_66 : decode mi_M_later.2.1 66 = .ok (.invokevirtual 246, 3) := by decide +kernel
theorem d_M_later_69 : decode mi_M_later.2.1 69 = .ok (.istore 5, 2) := by decide +kernel
theorem d_M_later_71 : decode mi_M_later.2.1 71 = .ok (.aload_n 0, 1) := by decide +kernel
theorem d_M_later_72 : decode mi_M_later.2.1 72 = .ok (.iload_n 1, 1) := by decide +kernel
theorem d_M_later_73 : decode mi_M_later.2.1 73 = .ok (.iload 4, 2) := by decide +kernel
theorem d_M_later_75 : decode mi_M_later.2.1 75 = .ok (.invokevirtual 201, 3) := by decide +kernel
theorem d_M_later_78 : decode mi_M_later.2.1 78 = .ok (.istore 6, 2) := by decide +kernel
theorem d_M_later_80 : decode mi_M_later.2.1 80 = .ok (.aload_n 0, 1) := by decide +kernel
theorem d_M_later_81 : decode mi_M_later.2.1 81 = .ok (.getfield 13, 3) := by decide +kernel
theorem d_M_later_84 : decode mi_M_later.2.1 84 = .ok (.aload_n 0, 1) := by decide +kernel
theorem d_M_later_85 : decode mi_M_later.2.1 85 = .ok (.getfield 9, 3) := by decide +kernel
theorem d_M_later_88 : decode mi_M_later.2.1 88 = .ok (.invokestatic 249, 3) := by decide +kernel
theorem d_M_later_91 : decode mi_M_later.2.1 91 = .ok (.iload 6, 2) := by decide +kernel
theorem d_M_later_93 : decode mi_M_later.2.1 93 = .ok (.ireturn, 1) := by decide +kernel
theorem d_M_copies_0 : decode mi_M_copies.2.1 0 = .ok (.iconst 0, 1) := by decide +kernel
theorem d_M_copies_1 : decode mi_M_copies.2.1 1 = .ok (.istore_n 2, 1) := by decide +kernel
theorem d_M_copies_2 : decode mi_M_copies.2.1 2 = .ok (.iload_n 2, 1) := by decide +kernel
theorem d_M_copies_3 : decode mi_M_copies.2.1 3 = .ok (.aload_n 0, 1) := by decide +kernel
theorem d_M_copies_4 : decode mi_M_copies.2.1 4 = .ok (.arraylength, 1) := by decide +kernel
theorem d_M_copies_5 : decode mi_M_copies.2.1 5 = .ok (.if_icmp .ge 15, 3) := by decide +kernel
theorem d_M_copies_8 : decode mi_M_copies.2.1 8 = .ok (.aload_n 1, 1) := by decide +kernel
theorem d_M_copies_9 : decode mi_M_copies.2.1 9 = .ok (.iload_n 2, 1) := by decide +kernel
theorem d_M_copies_10 : decode mi_M_copies.2.1 10 = .ok (.aload_n 0, 1) := by decide +kernel
theorem d_M_copies_11 : decode mi_M_copies.2.1 11 = .ok (.iload_n 2, 1) := by decide +kernel
theorem d_M_copies_12 : decode mi_M_copies.2.1 12 = .ok (.iaload, 1) := by decide +kernel
theorem d_M_copies_13 : decode mi_M_copies.2.1 13 = .ok (.iastore, 1) := by decide +kernel
theorem d_M_copies_14 : decode mi_M_copies.2.1 14 = .ok (.iinc 2 1, 3) := by decide +kernel
theorem d_M_copies_17 : decode mi_M_copies.2.1 17 = .ok (.goto (-15), 3) := by decide +kernel
theorem d_M_copies_20 : decode mi_M_copies.2.1 20 = .ok (.return_, 1) := by decide +kernel
theorem d_M_reach_0 : decode mi_M_reach.2.1 0 = .ok (.aload_n 0, 1) := by decide +kernel
theorem d_M_reach_1 : decode mi_M_reach.2.1 1 = .ok (.iload_n 1, 1) := by decide +kernel
theorem d_M_reach_2 : decode mi_M_reach.2.1 2 = .ok (.iload_n 2, 1) := by decide +kernel
theorem d_M_reach_3 : decode mi_M_reach.2.1 3 = .ok (.invokevirtual 232, 3) := by decide +kernel
theorem d_M_reach_6 : decode mi_M_reach.2.1 6 = .ok (.ifCond .ne 10, 3) := by decide +kernel
theorem d_M_reach_9 : decode mi_M_reach.2.1 9 = .ok (.aload_n 0, 1) := by decide +kernel
theorem d_M_reach_10 : decode mi_M_reach.2.1 10 = .ok (.bipush (-32), 2) := by decide +kernel
theorem d_M_reach_12 : decode mi_M_reach.2.1 12 = .ok (.invokevirtual 106, 3) := by decide +kernel
theorem d_M_reach_15 : decode mi_M_reach.2.1 15 = .ok (.ireturn, 1) := by decide +kernel
theorem d_M_reach_16 : decode mi_M_reach.2.1 16 = .ok (.iconst 0, 1) := by decide +kernel
theorem d_M_reach_17 : decode mi_M_reach.2.1 17 = .ok (.istore_n 3, 1) := by decide +kernel
theorem d_M_reach_18 : decode mi_M_reach.2.1 18 = .ok (.iconst 0, 1) := by decide +kernel
theorem d_M_reach_19 : decode mi_M_reach.2.1 19 = .ok (.istore 4, 2) := by decide +kernel
theorem d_M_reach_21 : decode mi_M_reach.2.1 21 = .ok (.iload 4, 2) := by decide +kernel
theorem d_M_reach_23 : decode mi_M_reach.2.1 23 = .ok (.aload_n 0, 1) := by decide +kernel
theorem d_M_reach_24 : decode mi_M_reach.2.1 24 = .ok (.getfield 9, 3) := by decide +kernel
theorem d_M_reach_27 : decode mi_M_reach.2.1 27 = .ok (.iconst 0, 1) := by decide +kernel
theorem d_M_reach_28 : decode mi_M_reach.2.1 28 = .ok (.iaload, 1) := by decide +kernel
theorem d_M_reach_29 : decode mi_M_reach.2.1 29 = .ok (.if_icmp .ge 28, 3) := by decide +kernel
theorem d_M_reach_32 : decode mi_M_reach.2.1 32 = .ok (.iload_n 3, 1) := by decide +kernel
theorem d_M_reach_33 : decode mi_M_reach.2.1 33 = .ok (.aload_n 0, 1) := by decide +kernel
theorem d_M_reach_34 : decode mi_M_reach.2.1 34 = .ok (.iload_n 1, 1) := by decide +kernel
theorem d_M_reach_35 : decode mi_M_reach.2.1 35 = .ok (.iload 4, 2) := by decide +kernel
theorem d_M_reach_37 : decode mi_M_reach.2.1 37 = .ok (.invokevirtual 201, 3) := by decide +kernel
theorem d_M_reach_40 : decode mi_M_reach.2.1 40 = .ok (.iload_n 2, 1) := by decide +kernel
theorem d_M_reach_41 : decode mi_M_reach.2.1 41 = .ok (.if_icmp .ne 7, 3) := by decide +kernel
theorem d_M_reach_44 : decode mi_M_reach.2.1 44 = .ok (.iconst 1, 1) := by decide +kernel
theorem d_M_reach_45 : decode mi_M_reach.2.1 45 = .ok (.goto 4, 3) := by decide +kernel
theorem d_M_reach_48 : decode mi_M_reach.2.1 48 = .ok (.iconst 0, 1) := by decide +kernel
theorem d_M_reach_49 : decode mi_M_reach.2.1 49 = .ok (.iadd, 1) := by decide +kernel
theorem d_M_reach_50 : decode mi_M_reach.2.1 50 = .ok (.istore_n 3, 1) := by decide +kernel
theorem d_M_reach_51 : decode mi_M_reach.2.1 51 = .ok (.iinc 4 1, 3) := by decide +kernel
theorem d_M_reach_54 : decode mi_M_reach.2.1 54 = .ok (.goto (-33), 3) := by decide +kernel
theorem d_M_reach_57 : decode mi_M_reach.2.1 57 = .ok (.iload_n 3, 1) := by decide +kernel
theorem d_M_reach_58 : decode mi_M_reach.2.1 58 = .ok (.ireturn, 1) := by decide +kernel
theorem d_M_counted_0 : decode mi_M_counted.2.1 0 = .ok (.aload_n 0, 1) := by decide +kernel
theorem d_M_counted_1 : decode mi_M_counted.2.1 1 = .ok (.iload_n 1, 1) := by decide +kernel
theorem d_M_counted_2 : decode mi_M_counted.2.1 2 = .ok (.iload_n 2, 1) := by decide +kernel
theorem d_M_counted_3 : decode mi_M_counted.2.1 3 = .ok (.invokevirtual 232, 3) := by decide +kernel
theorem d_M_counted_6 : decode mi_M_counted.2.1 6 = .ok (.ifCond .eq 15, 3) := by decide +kernel
theorem d_M_counted_9 : decode mi_M_counted.2.1 9 = .ok (.aload_n 0, 1) := by decide +kernel
theorem d_M_counted_10 : decode mi_M_counted.2.1 10 = .ok (.iload_n 1, 1) := by decide +kernel
theorem d_M_counted_11 : decode mi_M_counted.2.1 11 = .ok (.bipush 10, 2) := by decide +kernel
theorem d_M_counted_13 : decode mi_M_counted.2.1 13 = .ok (.iload_n 2, 1) := by decide +kernel
theorem d_M_counted_14 : decode mi_M_counted.2.1 14 = .ok (.iadd, 1) := by decide +kernel
theorem d_M_counted_15 : decode mi_M_counted.2.1 15 = .ok (.invokevirtual 76, 3) := by decide +kernel
theorem d_M_counted_18 : decode mi_M_counted.2.1 18 = .ok (.goto 9, 3) := by decide +kernel
theorem d_M_counted_21 : decode mi_M_counted.2.1 21 = .ok (.aload_n 0, 1) := by decide +kernel
theorem d_M_counted_22 : decode mi_M_counted.2.1 22 = .ok (.bipush (-32), 2) := by decide +kernel
theorem d_M_counted_24 : decode mi_M_counted.2.1 24 = .ok (.invokevirtual 106, 3) := by decide +kernel
theorem d_M_counted_27 : decode mi_M_counted.2.1 27 = .ok (.ireturn, 1) := by decide +kernel
theorem d_M_by_0 : decode mi_M_by.2.1 0 = .ok (.aload_n 0, 1) := by decide +kernel
theorem d_M_by_1 : decode mi_M_by.2.1 1 = .ok (.iload_n 1, 1) := by decide +kernel
theorem d_M_by_2 : decode mi_M_by.2.1 2 = .ok (.invokevirtual 72, 3) := by decide +kernel
theorem d_M_by_5 : decode mi_M_by.2.1 5 = .ok (.ifCond .eq 15, 3) := by decide +kernel
theorem d_M_by_8 : decode mi_M_by.2.1 8 = .ok (.iload_n 2, 1) := by decide +kernel
theorem d_M_by_9 : decode mi_M_by.2.1 9 = .ok (.i2l, 1) := by decide +kernel
theorem d_M_by_10 : decode mi_M_by.2.1 10 = .ok (.lconst 1, 1) := by decide +kernel
theorem d_M_by_11 : decode mi_M_by.2.1 11 = .ok (.ldc2_w 253, 3) := by decide +kernel
theorem d_M_by_14 : decode mi_M_by.2.1 14 = .ok (.invokestatic 68, 3) := by decide +kernel
theorem d_M_by_17 : decode mi_M_by.2.1 17 = .ok (.ifCond .ne 10, 3) := by decide +kernel
theorem d_M_by_20 : decode mi_M_by.2.1 20 = .ok (.aload_n 0, 1) := by decide +kernel
theorem d_M_by_21 : decode mi_M_by.2.1 21 = .ok (.bipush (-32), 2) := by decide +kernel
theorem d_M_by_23 : decode mi_M_by.2.1 23 = .ok (.invokevirtual 106, 3) := by decide +kernel
theorem d_M_by_26 : decode mi_M_by.2.1 26 = .ok (.ireturn, 1) := by decide +kernel
theorem d_M_by_27 : decode mi_M_by.2.1 27 = .ok (.iconst 0, 1) := by decide +kernel
theorem d_M_by_28 : decode mi_M_by.2.1 28 = .ok (.istore_n 3, 1) := by decide +kernel
theorem d_M_by_29 : decode mi_M_by.2.1 29 = .ok (.iconst 0, 1) := by decide +kernel
theorem d_M_by_30 : decode mi_M_by.2.1 30 = .ok (.istore 4, 2) := by decide +kernel
theorem d_M_by_32 : decode mi_M_by.2.1 32 = .ok (.iload 4, 2) := by decide +kernel
theorem d_M_by_34 : decode mi_M_by.2.1 34 = .ok (.aload_n 0, 1) := by decide +kernel
theorem d_M_by_35 : decode mi_M_by.2.1 35 = .ok (.getfield 9, 3) := by decide +kernel
theorem d_M_by_38 : decode mi_M_by.2.1 38 = .ok (.iconst 0, 1) := by decide +kernel
theorem d_M_by_39 : decode mi_M_by.2.1 39 = .ok (.iaload, 1) := by decide +kernel
theorem d_M_by_40 : decode mi_M_by.2.1 40 = .ok (.if_icmp .ge 39, 3) := by decide +kernel
theorem d_M_by_43 : decode mi_M_by.2.1 43 = .ok (.aload_n 0, 1) := by decide +kernel
theorem d_M_by_44 : decode mi_M_by.2.1 44 = .ok (.iload_n 1, 1) := by decide +kernel
theorem d_M_by_45 : decode mi_M_by.2.1 45 = .ok (.iload 4, 2) := by decide +kernel
theorem d_M_by_47 : decode mi_M_by.2.1 47 = .ok (.invokevirtual 201, 3) := by decide +kernel
theorem d_M_by_50 : decode mi_M_by.2.1 50 = .ok (.istore 5, 2) := by decide +kernel
theorem d_M_by_52 : decode mi_M_by.2.1 52 = .ok (.iload_n 3, 1) := by decide +kernel
theorem d_M_by_53 : decode mi_M_by.2.1 53 = .ok (.aload_n 0, 1) := by decide +kernel
theorem d_M_by_54 : decode mi_M_by.2.1 54 = .ok (.getfield 43, 3) := by decide +kernel
theorem d_M_by_57 : decode mi_M_by.2.1 57 = .ok (.iload_n 1, 1) := by decide +kernel
theorem d_M_by_58 : decode mi_M_by.2.1 58 = .ok (.iaload, 1) := by decide +kernel
theorem d_M_by_59 : decode mi_M_by.2.1 59 = .ok (.iload_n 2, 1) := by decide +kernel
theorem d_M_by_60 : decode mi_M_by.2.1 60 = .ok (.if_icmp .ne 10, 3) := by decide +kernel
theorem d_M_by_63 : decode mi_M_by.2.1 63 = .ok (.iconst 1, 1) := by decide +kernel
theorem d_M_by_64 : decode mi_M_by.2.1 64 = .ok (.iload 4, 2) := by decide +kernel
theorem d_M_by_66 : decode mi_M_by.2.1 66 = .ok (.ishl, 1) := by decide +kernel
theorem d_M_by_67 : decode mi_M_by.2.1 67 = .ok (.goto 4, 3) := by decide +kernel
theorem d_M_by_70 : decode mi_M_by.2.1 70 = .ok (.iconst 0, 1) := by decide +kernel
theorem d_M_by_71 : decode mi_M_by.2.1 71 = .ok (.ior, 1) := by decide +kernel
theorem d_M_by_72 : decode mi_M_by.2.1 72 = .ok (.istore_n 3, 1) := by decide +kernel
theorem d_M_by_73 : decode mi_M_by.2.1 73 = .ok (.iinc 4 1, 3) := by decide +kernel
theorem d_M_by_76 : decode mi_M_by.2.1 76 = .ok (.goto (-44), 3) := by decide +kernel
theorem d_M_by_79 : decode mi_M_by.2.1 79 = .ok (.iload_n 3, 1) := by decide +kernel
theorem d_M_by_80 : decode mi_M_by.2.1 80 = .ok (.ireturn, 1) := by decide +kernel
theorem d_M_so_0 : decode mi_M_so.2.1 0 = .ok (.aload_n 0, 1) := by decide +kernel
theorem d_M_so_1 : decode mi_M_so.2.1 1 = .ok (.iload_n 1, 1) := by decide +kernel
theorem d_M_so_2 : decode mi_M_so.2.1 2 = .ok (.iload_n 2, 1) := by decide +kernel
theorem d_M_so_3 : decode mi_M_so.2.1 3 = .ok (.invokevirtual 223, 3) := by decide +kernel
theorem d_M_so_6 : decode mi_M_so.2.1 6 = .ok (.ifCond .ne 10, 3) := by decide +kernel
theorem d_M_so_9 : decode mi_M_so.2.1 9 = .ok (.aload_n 0, 1) := by decide +kernel
theorem d_M_so_10 : decode mi_M_so.2.1 10 = .ok (.bipush (-32), 2) := by decide +kernel
theorem d_M_so_12 : decode mi_M_so.2.1 12 = .ok (.invokevirtual 106, 3) := by decide +kernel
theorem d_M_so_15 : decode mi_M_so.2.1 15 = .ok (.ireturn, 1) := by decide +kernel
theorem d_M_so_16 : decode mi_M_so.2.1 16 = .ok (.iconst 0, 1) := by decide +kernel
theorem d_M_so_17 : decode mi_M_so.2.1 17 = .ok (.istore_n 3, 1) := by decide +kernel
theorem d_M_so_18 : decode mi_M_so.2.1 18 = .ok (.iconst 0, 1) := by decide +kernel
theorem d_M_so_19 : decode mi_M_so.2.1 19 = .ok (.istore 4, 2) := by decide +kernel
theorem d_M_so_21 : decode mi_M_so.2.1 21 = .ok (.iload 4, 2) := by decide +kernel
theorem d_M_so_23 : decode mi_M_so.2.1 23 = .ok (.aload_n 0, 1) := by decide +kernel
theorem d_M_so_24 : decode mi_M_so.2.1 24 = .ok (.getfield 9, 3) := by decide +kernel
theorem d_M_so_27 : decode mi_M_so.2.1 27 = .ok (.iconst 0, 1) := by decide +kernel
theorem d_M_so_28 : decode mi_M_so.2.1 28 = .ok (.iaload, 1) := by decide +kernel
theorem d_M_so_29 : decode mi_M_so.2.1 29 = .ok (.if_icmp .ge 35, 3) := by decide +kernel
theorem d_M_so_32 : decode mi_M_so.2.1 32 = .ok (.iload_n 3, 1) := by decide +kernel
theorem d_M_so_33 : decode mi_M_so.2.1 33 = .ok (.aload_n 0, 1) := by decide +kernel
theorem d_M_so_34 : decode mi_M_so.2.1 34 = .ok (.aload_n 0, 1) := by decide +kernel
theorem d_M_so_35 : decode mi_M_so.2.1 35 = .ok (.iload_n 1, 1) := by decide +kernel
theorem d_M_so_36 : decode mi_M_so.2.1 36 = .ok (.iload_n 2, 1) := by decide +kernel
theorem d_M_so_37 : decode mi_M_so.2.1 37 = .ok (.invokevirtual 185, 3) := by decide +kernel
theorem d_M_so_40 : decode mi_M_so.2.1 40 = .ok (.iload 4, 2) := by decide +kernel
theorem d_M_so_42 : decode mi_M_so.2.1 42 = .ok (.invokevirtual 100, 3) := by decide +kernel
theorem d_M_so_45 : decode mi_M_so.2.1 45 = .ok (.ifCond .eq 10, 3) := by decide +kernel
theorem d_M_so_48 : decode mi_M_so.2.1 48 = .ok (.iconst 1, 1) := by decide +kernel
theorem d_M_so_49 : decode mi_M_so.2.1 49 = .ok (.iload 4, 2) := by decide +kernel
theorem d_M_so_51 : decode mi_M_so.2.1 51 = .ok (.ishl, 1) := by decide +kernel
theorem d_M_so_52 : decode mi_M_so.2.1 52 = .ok (.goto 4, 3) := by decide +kernel
theorem d_M_so_55 : decode mi_M_so.2.1 55 = .ok (.iconst 0, 1) := by decide +kernel
theorem d_M_so_56 : decode mi_M_so.2.1 56 = .ok (.ior, 1) := by decide +kernel
theorem d_M_so_57 : decode mi_M_so.2.1 57 = .ok (.istore_n 3, 1) := by decide +kernel
theorem d_M_so_58 : decode mi_M_so.2.1 58 = .ok (.iinc 4 1, 3) := by decide +kernel
theorem d_M_so_61 : decode mi_M_so.2.1 61 = .ok (.goto (-40), 3) := by decide +kernel
theorem d_M_so_64 : decode mi_M_so.2.1 64 = .ok (.iload_n 3, 1) := by decide +kernel
theorem d_M_so_65 : decode mi_M_so.2.1 65 = .ok (.ireturn, 1) := by decide +kernel
theorem d_M_grow_0 : decode mi_M_grow.2.1 0 = .ok (.aload_n 0, 1) := by decide +kernel
theorem d_M_grow_1 : decode mi_M_grow.2.1 1 = .ok (.iload_n 1, 1) := by decide +kernel
theorem d_M_grow_2 : decode mi_M_grow.2.1 2 = .ok (.iload_n 2, 1) := by decide +kernel
theorem d_M_grow_3 : decode mi_M_grow.2.1 3 = .ok (.iload_n 3, 1) := by decide +kernel
theorem d_M_grow_4 : decode mi_M_grow.2.1 4 = .ok (.iconst 0, 1) := by decide +kernel
theorem d_M_grow_5 : decode mi_M_grow.2.1 5 = .ok (.invokevirtual 228, 3) := by decide +kernel
theorem d_M_grow_8 : decode mi_M_grow.2.1 8 = .ok (.ifCond .eq 16, 3) := by decide +kernel
theorem d_M_grow_11 : decode mi_M_grow.2.1 11 = .ok (.iload 4, 2) := by decide +kernel
theorem d_M_grow_13 : decode mi_M_grow.2.1 13 = .ok (.i2l, 1) := by decide +kernel
theorem d_M_grow_14 : decode mi_M_grow.2.1 14 = .ok (.lconst 0, 1) := by decide +kernel
theorem d_M_grow_15 : decode mi_M_grow.2.1 15 = .ok (.ldc2_w 255, 3) := by decide +kernel
theorem d_M_grow_18 : decode mi_M_grow.2.1 18 = .ok (.invokestatic 68, 3) := by decide +kernel
theorem d_M_grow_21 : decode mi_M_grow.2.1 21 = .ok (.ifCond .ne 10, 3) := by decide +kernel
theorem d_M_grow_24 : decode mi_M_grow.2.1 24 = .ok (.aload_n 0, 1) := by decide +kernel
theorem d_M_grow_25 : decode mi_M_grow.2.1 25 = .ok (.bipush (-32), 2) := by decide +kernel
theorem d_M_grow_27 : decode mi_M_grow.2.1 27 = .ok (.invokevirtual 106, 3) := by decide +kernel
theorem d_M_grow_30 : decode mi_M_grow.2.1 30 = .ok (.ireturn, 1) := by decide +kernel
theorem d_M_grow_31 : decode mi_M_grow.2.1 31 = .ok (.aload_n 0, 1) := by decide +kernel
theorem d_M_grow_32 : decode mi_M_grow.2.1 32 = .ok (.iload_n 1, 1) := by decide +kernel
theorem d_M_grow_33 : decode mi_M_grow.2.1 33 = .ok (.iload_n 2, 1) := by decide +kernel
theorem d_M_grow_34 : decode mi_M_grow.2.1 34 = .ok (.invokevirtual 188, 3) := by decide +kernel
theorem d_M_grow_37 : decode mi_M_grow.2.1 37 = .ok (.ifCond .eq 10, 3) := by decide +kernel
theorem d_M_grow_40 : decode mi_M_grow.2.1 40 = .ok (.aload_n 0, 1) := by decide +kernel
theorem d_M_grow_41 : decode mi_M_grow.2.1 41 = .ok (.bipush (-35), 2) := by decide +kernel
theorem d_M_grow_43 : decode mi_M_grow.2.1 43 = .ok (.invokevirtual 106, 3) := by decide +kernel
theorem d_M_grow_46 : decode mi_M_grow.2.1 46 = .ok (.ireturn, 1) := by decide +kernel
theorem d_M_grow_47 : decode mi_M_grow.2.1 47 = .ok (.iload_n 1, 1) := by decide +kernel
theorem d_M_grow_48 : decode mi_M_grow.2.1 48 = .ok (.iload_n 2, 1) := by decide +kernel
theorem d_M_grow_49 : decode mi_M_grow.2.1 49 = .ok (.iload_n 3, 1) := by decide +kernel
theorem d_M_grow_50 : decode mi_M_grow.2.1 50 = .ok (.invokestatic 80, 3) := by decide +kernel
theorem d_M_grow_53 : decode mi_M_grow.2.1 53 = .ok (.istore 5, 2) := by decide +kernel
theorem d_M_grow_55 : decode mi_M_grow.2.1 55 = .ok (.aload_n 0, 1) := by decide +kernel
theorem d_M_grow_56 : decode mi_M_grow.2.1 56 = .ok (.getfield 9, 3) := by decide +kernel
theorem d_M_grow_59 : decode mi_M_grow.2.1 59 = .ok (.iload 5, 2) := by decide +kernel
theorem d_M_grow_61 : decode mi_M_grow.2.1 61 = .ok (.iaload, 1) := by decide +kernel
theorem d_M_grow_62 : decode mi_M_grow.2.1 62 = .ok (.istore 6, 2) := by decide +kernel
theorem d_M_grow_64 : decode mi_M_grow.2.1 64 = .ok (.aload_n 0, 1) := by decide +kernel
theorem d_M_grow_65 : decode mi_M_grow.2.1 65 = .ok (.getfield 9, 3) := by decide +kernel
theorem d_M_grow_68 : decode mi_M_grow.2.1 68 = .ok (.iload 5, 2) := by decide +kernel
theorem d_M_grow_70 : decode mi_M_grow.2.1 70 = .ok (.iconst 0, 1) := by decide +kernel
theorem d_M_grow_71 : decode mi_M_grow.2.1 71 = .ok (.iastore, 1) := by decide +kernel
theorem d_M_grow_72 : decode mi_M_grow.2.1 72 = .ok (.iconst (-1), 1) := by decide +kernel
theorem d_M_grow_73 : decode mi_M_grow.2.1 73 = .ok (.istore 7, 2) := by decide +kernel
theorem d_M_grow_75 : decode mi_M_grow.2.1 75 = .ok (.iconst 0, 1) := by decide +kernel
theorem d_M_grow_76 : decode mi_M_grow.2.1 76 = .ok (.istore 8, 2) := by decide +kernel
theorem d_M_grow_78 : decode mi_M_grow.2.1 78 = .ok (.iload 8, 2) := by decide +kernel
theorem d_M_grow_80 : decode mi_M_grow.2.1 80 = .ok (.sipush 333, 3) := by decide +kernel
theorem d_M_grow_83 : decode mi_M_grow.2.1 83 = .ok (.if_icmp .gt 36, 3) := by decide +kernel
theorem d_M_grow_86 : decode mi_M_grow.2.1 86 = .ok (.iload 7, 2) := by decide +kernel
theorem d_M_grow_88 : decode mi_M_grow.2.1 88 = .ok (.ifCond .ge 31, 3) := by decide +kernel
theorem d_M_grow_91 : decode mi_M_grow.2.1 91 = .ok (.aload_n 0, 1) := by decide +kernel
theorem d_M_grow_92 : decode mi_M_grow.2.1 92 = .ok (.iload_n 1, 1) := by decide +kernel
theorem d_M_grow_93 : decode mi_M_grow.2.1 93 = .ok (.iload_n 2, 1) := by decide +kernel
theorem d_M_grow_94 : decode mi_M_grow.2.1 94 = .ok (.iload_n 3, 1) := by decide +kernel
theorem d_M_grow_95 : decode mi_M_grow.2.1 95 = .ok (.iload 8, 2) := by decide +kernel
theorem d_M_grow_97 : decode mi_M_grow.2.1 97 = .ok (.invokevirtual 257, 3) := by decide +kernel
theorem d_M_grow_100 : decode mi_M_grow.2.1 100 = .ok (.iload 4, 2) := by decide +kernel
theorem d_M_grow_102 : decode mi_M_grow.2.1 102 = .ok (.if_icmp .lt 8, 3) := by decide +kernel
theorem d_M_grow_105 : decode mi_M_grow.2.1 105 = .ok (.iload 8, 2) := by decide +kernel
theorem d_M_grow_107 : decode mi_M_grow.2.1 107 = .ok (.goto 4, 3) := by decide +kernel
theorem d_M_grow_110 : decode mi_M_grow.2.1 110 = .ok (.iconst (-1), 1) := by decide +kernel
theorem d_M_grow_111 : decode mi_M_grow.2.1 111 = .ok (.istore 7, 2) := by decide +kernel
theorem d_M_grow_113 : decode mi_M_grow.2.1 113 = .ok (.iinc 8 1, 3) := by decide +kernel
theorem d_M_grow_116 : decode mi_M_grow.2.1 116 = .ok (.goto (-38), 3) := by decide +kernel
theorem d_M_grow_119 : decode mi_M_grow.2.1 119 = .ok (.aload_n 0, 1) := by decide +kernel
theorem d_M_grow_120 : decode mi_M_grow.2.1 120 = .ok (.getfield 9, 3) := by decide +kernel
theorem d_M_grow_123 : decode mi_M_grow.2.1 123 = .ok (.iload 5, 2) := by decide +kernel
theorem d_M_grow_125 : decode mi_M_grow.2.1 125 = .ok (.iload 6, 2) := by decide +kernel
theorem d_M_grow_127 : decode mi_M_grow.2.1 127 = .ok (.iastore, 1) := by decide +kernel
theorem d_M_grow_128 : decode mi_M_grow.2.1 128 = .ok (.iload 7, 2) := by decide +kernel
theorem d_M_grow_130 : decode mi_M_grow.2.1 130 = .ok (.ireturn, 1) := by decide +kernel
theorem d_M_enough_0 : decode mi_M_enough.2.1 0 = .ok (.iconst 0, 1) := by decide +kernel
theorem d_M_enough_1 : decode mi_M_enough.2.1 1 = .ok (.istore 5, 2) := by decide +kernel
theorem d_M_enough_3 : decode mi_M_enough.2.1 3 = .ok (.iconst 0, 1) := by decide +kernel
theorem d_M_enough_4 : decode mi_M_enough.2.1 4 = .ok (.istore 6, 2) := by decide +kernel
theorem d_M_enough_6 : decode mi_M_enough.2.1 6 = .ok (.iload 6, 2) := by decide +kernel
theorem d_M_enough_8 : decode mi_M_enough.2.1 8 = .ok (.aload_n 0, 1) := by decide +kernel
theorem d_M_enough_9 : decode mi_M_enough.2.1 9 = .ok (.getfield 9, 3) := by decide +kernel
theorem d_M_enough_12 : decode mi_M_enough.2.1 12 = .ok (.iconst 0, 1) := by decide +kernel
theorem d_M_enough_13 : decode mi_M_enough.2.1 13 = .ok (.iaload, 1) := by decide +kernel
theorem d_M_enough_14 : decode mi_M_enough.2.1 14 = .ok (.if_icmp .ge 107, 3) := by decide +kernel
theorem d_M_enough_17 : decode mi_M_enough.2.1 17 = .ok (.aload_n 0, 1) := by decide +kernel
theorem d_M_enough_18 : decode mi_M_enough.2.1 18 = .ok (.iload_n 1, 1) := by decide +kernel
theorem d_M_enough_19 : decode mi_M_enough.2.1 19 = .ok (.iload 6, 2) := by decide +kernel
theorem d_M_enough_21 : decode mi_M_enough.2.1 21 = .ok (.invokevirtual 201, 3) := by decide +kernel
theorem d_M_enough_24 : decode mi_M_enough.2.1 24 = .ok (.iload_n 3, 1) := by decide +kernel
theorem d_M_enough_25 : decode mi_M_enough.2.1 25 = .ok (.if_icmp .ne 7, 3) := by decide +kernel
theorem d_M_enough_28 : decode mi_M_enough.2.1 28 = .ok (.iconst 1, 1) := by decide +kernel
theorem d_M_enough_29 : decode mi_M_enough.2.1 29 = .ok (.goto 4, 3) := by decide +kernel
theorem d_M_enough_32 : decode mi_M_enough.2.1 32 = .ok (.iconst 0, 1) := by decide +kernel
theorem d_M_enough_33 : decode mi_M_enough.2.1 33 = .ok (.istore 7, 2) := by decide +kernel
theorem d_M_enough_35 : decode mi_M_enough.2.1 35 = .ok (.iload_n 1, 1) := by decide +kernel
theorem d_M_enough_36 : decode mi_M_enough.2.1 36 = .ok (.iconst 1, 1) := by decide +kernel
theorem d_M_enough_37 : decode mi_M_enough.2.1 37 = .ok (.iadd, 1) := by decide +kernel
theorem d_M_enough_38 : decode mi_M_enough.2.1 38 = .ok (.aload_n 0, 1) := by decide +kernel
theorem d_M_enough_39 : decode mi_M_enough.2.1 39 = .ok (.iload 6, 2) := by decide +kernel
theorem d_M_enough_41 : decode mi_M_enough.2.1 41 = .ok (.invokevirtual 84, 3) := by decide +kernel
theorem d_M_enough_44 : decode mi_M_enough.2.1 44 = .ok (.invokestatic 161, 3) := by decide +kernel
theorem d_M_enough_47 : decode mi_M_enough.2.1 47 = .ok (.sipush 333, 3) := by decide +kernel
theorem d_M_enough_50 : decode mi_M_enough.2.1 50 = .ok (.iload_n 3, 1) := by decide +kernel
theorem d_M_enough_51 : decode mi_M_enough.2.1 51 = .ok (.iconst 1, 1) := by decide +kernel
theorem d_M_enough_52 : decode mi_M_enough.2.1 52 = .ok (.isub, 1) := by decide +kernel
theorem d_M_enough_53 : decode mi_M_enough.2.1 53 = .ok (.imul, 1) := by decide +kernel
theorem d_M_enough_54 : decode mi_M_enough.2.1 54 = .ok (.isub, 1) := by decide +kernel
theorem d_M_enough_55 : decode mi_M_enough.2.1 55 = .ok (.istore 8, 2) := by decide +kernel
theorem d_M_enough_57 : decode mi_M_enough.2.1 57 = .ok (.iload 7, 2) := by decide +kernel
theorem d_M_enough_59 : decode mi_M_enough.2.1 59 = .ok (.aload_n 0, 1) := by decide +kernel
theorem d_M_enough_60 : decode mi_M_enough.2.1 60 = .ok (.getfield 43, 3) := by decide +kernel
theorem d_M_enough_63 : decode mi_M_enough.2.1 63 = .ok (.iload_n 1, 1) := by decide +kernel
theorem d_M_enough_64 : decode mi_M_enough.2.1 64 = .ok (.iaload, 1) := by decide +kernel
theorem d_M_enough_65 : decode mi_M_enough.2.1 65 = .ok (.bipush 6, 2) := by decide +kernel
theorem d_M_enough_67 : decode mi_M_enough.2.1 67 = .ok (.if_icmp .ne 29, 3) := by decide +kernel
theorem d_M_enough_70 : decode mi_M_enough.2.1 70 = .ok (.aload_n 0, 1) := by decide +kernel
theorem d_M_enough_71 : decode mi_M_enough.2.1 71 = .ok (.getfield 46, 3) := by decide +kernel
theorem d_M_enough_74 : decode mi_M_enough.2.1 74 = .ok (.iload_n 1, 1) := by decide +kernel
theorem d_M_enough_75 : decode mi_M_enough.2.1 75 = .ok (.iaload, 1) := by decide +kernel
theorem d_M_enough_76 : decode mi_M_enough.2.1 76 = .ok (.iload_n 2, 1) := by decide +kernel
theorem d_M_enough_77 : decode mi_M_enough.2.1 77 = .ok (.if_icmp .ne 19, 3) := by decide +kernel
theorem d_M_enough_80 : decode mi_M_enough.2.1 80 = .ok (.iload 8, 2) := by decide +kernel
theorem d_M_enough_82 : decode mi_M_enough.2.1 82 = .ok (.ifCond .lt 14, 3) := by decide +kernel
theorem d_M_enough_85 : decode mi_M_enough.2.1 85 = .ok (.iload 8, 2) := by decide +kernel
theorem d_M_enough_87 : decode mi_M_enough.2.1 87 = .ok (.iload 4, 2) := by decide +kernel
theorem d_M_enough_89 : decode mi_M_enough.2.1 89 = .ok (.if_icmp .ge 7, 3) := by decide +kernel
theorem d_M_enough_92 : decode mi_M_enough.2.1 92 = .ok (.iconst 1, 1) := by decide +kernel
theorem d_M_enough_93 : decode mi_M_enough.2.1 93 = .ok (.goto 4, 3) := by decide +kernel
theorem d_M_enough_96 : decode mi_M_enough.2.1 96 = .ok (.iconst 0, 1) := by decide +kernel
theorem d_M_enough_97 : decode mi_M_enough.2.1 97 = .ok (.ior, 1) := by decide +kernel
theorem d_M_enough_98 : decode mi_M_enough.2.1 98 = .ok (.istore 7, 2) := by decide +kernel
theorem d_M_enough_100 : decode mi_M_enough.2.1 100 = .ok (.iload 5, 2) := by decide +kernel
theorem d_M_enough_102 : decode mi_M_enough.2.1 102 = .ok (.iload 7, 2) := by decide +kernel
theorem d_M_enough_104 : decode mi_M_enough.2.1 104 = .ok (.ifCond .eq 7, 3) := by decide +kernel
theorem d_M_enough_107 : decode mi_M_enough.2.1 107 = .ok (.iconst 1, 1) := by decide +kernel
theorem d_M_enough_108 : decode mi_M_enough.2.1 108 = .ok (.goto 4, 3) := by decide +kernel
theorem d_M_enough_111 : decode mi_M_enough.2.1 111 = .ok (.iconst 0, 1) := by decide +kernel
theorem d_M_enough_112 : decode mi_M_enough.2.1 112 = .ok (.iadd, 1) := by decide +kernel
theorem d_M_enough_113 : decode mi_M_enough.2.1 113 = .ok (.istore 5, 2) := by decide +kernel
theorem d_M_enough_115 : decode mi_M_enough.2.1 115 = .ok (.iinc 6 1, 3) := by decide +kernel
theorem d_M_enough_118 : decode mi_M_enough.2.1 118 = .ok (.goto (-112), 3) := by decide +kernel
theorem d_M_enough_121 : decode mi_M_enough.2.1 121 = .ok (.iload 5, 2) := by decide +kernel
theorem d_M_enough_123 : decode mi_M_enough.2.1 123 = .ok (.ireturn, 1) := by decide +kernel
theorem d_M_moved_0 : decode mi_M_moved.2.1 0 = .ok (.aload_n 0, 1) := by decide +kernel
theorem d_M_moved_1 : decode mi_M_moved.2.1 1 = .ok (.iload_n 1, 1) := by decide +kernel
theorem d_M_moved_2 : decode mi_M_moved.2.1 2 = .ok (.iload_n 2, 1) := by decide +kernel
theorem d_M_moved_3 : decode mi_M_moved.2.1 3 = .ok (.iload_n 3, 1) := by decide +kernel
theorem d_M_moved_4 : decode mi_M_moved.2.1 4 = .ok (.iload 4, 2) := by decide +kernel
theorem d_M_moved_6 : decode mi_M_moved.2.1 6 = .ok (.invokevirtual 228, 3) := by decide +kernel
theorem d_M_moved_9 : decode mi_M_moved.2.1 9 = .ok (.ifCond .ne 10, 3) := by decide +kernel
theorem d_M_moved_12 : decode mi_M_moved.2.1 12 = .ok (.aload_n 0, 1) := by decide +kernel
theorem d_M_moved_13 : decode mi_M_moved.2.1 13 = .ok (.bipush (-32), 2) := by decide +kernel
theorem d_M_moved_15 : decode mi_M_moved.2.1 15 = .ok (.invokevirtual 106, 3) := by decide +kernel
theorem d_M_moved_18 : decode mi_M_moved.2.1 18 = .ok (.ireturn, 1) := by decide +kernel
theorem d_M_moved_19 : decode mi_M_moved.2.1 19 = .ok (.aload_n 0, 1) := by decide +kernel
theorem d_M_moved_20 : decode mi_M_moved.2.1 20 = .ok (.iload_n 1, 1) := by decide +kernel
theorem d_M_moved_21 : decode mi_M_moved.2.1 21 = .ok (.iload_n 2, 1) := by decide +kernel
theorem d_M_moved_22 : decode mi_M_moved.2.1 22 = .ok (.invokevirtual 188, 3) := by decide +kernel
theorem d_M_moved_25 : decode mi_M_moved.2.1 25 = .ok (.ifCond .eq 10, 3) := by decide +kernel
theorem d_M_moved_28 : decode mi_M_moved.2.1 28 = .ok (.aload_n 0, 1) := by decide +kernel
theorem d_M_moved_29 : decode mi_M_moved.2.1 29 = .ok (.bipush (-35), 2) := by decide +kernel
theorem d_M_moved_31 : decode mi_M_moved.2.1 31 = .ok (.invokevirtual 106, 3) := by decide +kernel
theorem d_M_moved_34 : decode mi_M_moved.2.1 34 = .ok (.ireturn, 1) := by decide +kernel
theorem d_M_moved_35 : decode mi_M_moved.2.1 35 = .ok (.iconst 0, 1) := by decide +kernel
theorem d_M_moved_36 : decode mi_M_moved.2.1 36 = .ok (.istore 5, 2) := by decide +kernel
theorem d_M_moved_38 : decode mi_M_moved.2.1 38 = .ok (.iload 5, 2) := by decide +kernel
theorem d_M_moved_40 : decode mi_M_moved.2.1 40 = .ok (.aload_n 0, 1) := by decide +kernel
theorem d_M_moved_41 : decode mi_M_moved.2.1 41 = .ok (.getfield 9, 3) := by decide +kernel
theorem d_M_moved_44 : decode mi_M_moved.2.1 44 = .ok (.iconst 0, 1) := by decide +kernel
theorem d_M_moved_45 : decode mi_M_moved.2.1 45 = .ok (.iaload, 1) := by decide +kernel
theorem d_M_moved_46 : decode mi_M_moved.2.1 46 = .ok (.if_icmp .ge 23, 3) := by decide +kernel
theorem d_M_moved_49 : decode mi_M_moved.2.1 49 = .ok (.aload_n 0, 1) := by decide +kernel
theorem d_M_moved_50 : decode mi_M_moved.2.1 50 = .ok (.getfield 52, 3) := by decide +kernel
theorem d_M_moved_53 : decode mi_M_moved.2.1 53 = .ok (.iload 5, 2) := by decide +kernel
theorem d_M_moved_55 : decode mi_M_moved.2.1 55 = .ok (.aload_n 0, 1) := by decide +kernel
theorem d_M_moved_56 : decode mi_M_moved.2.1 56 = .ok (.iload_n 1, 1) := by decide +kernel
theorem d_M_moved_57 : decode mi_M_moved.2.1 57 = .ok (.iload 5, 2) := by decide +kernel
theorem d_M_moved_59 : decode mi_M_moved.2.1 59 = .ok (.invokevirtual 201, 3) := by decide +kernel
theorem d_M_moved_62 : decode mi_M_moved.2.1 62 = .ok (.iastore, 1) := by decide +kernel
theorem d_M_moved_63 : decode mi_M_moved.2.1 63 = .ok (.iinc 5 1, 3) := by decide +kernel
theorem d_M_moved_66 : decode mi_M_moved.2.1 66 = .ok (.goto (-28), 3) := by decide +kernel
theorem d_M_moved_69 : decode mi_M_moved.2.1 69 = .ok (.iload_n 1, 1) := by decide +kernel
theorem d_M_moved_70 : decode mi_M_moved.2.1 70 = .ok (.iload_n 2, 1) := by decide +kernel
theorem d_M_moved_71 : decode mi_M_moved.2.1 71 = .ok (.iload_n 3, 1) := by decide +kernel
theorem d_M_moved_72 : decode mi_M_moved.2.1 72 = .ok (.invokestatic 80, 3) := by decide +kernel
theorem d_M_moved_75 : decode mi_M_moved.2.1 75 = .ok (.istore 5, 2) := by decide +kernel
theorem d_M_moved_77 : decode mi_M_moved.2.1 77 = .ok (.aload_n 0, 1) := by decide +kernel
theorem d_M_moved_78 : decode mi_M_moved.2.1 78 = .ok (.getfield 9, 3) := by decide +kernel
theorem d_M_moved_81 : decode mi_M_moved.2.1 81 = .ok (.iload 5, 2) := by decide +kernel
theorem d_M_moved_83 : decode mi_M_moved.2.1 83 = .ok (.iaload, 1) := by decide +kernel
theorem d_M_moved_84 : decode mi_M_moved.2.1 84 = .ok (.istore 6, 2) := by decide +kernel
theorem d_M_moved_86 : decode mi_M_moved.2.1 86 = .ok (.aload_n 0, 1) := by decide +kernel
theorem d_M_moved_87 : decode mi_M_moved.2.1 87 = .ok (.getfield 9, 3) := by decide +kernel
theorem d_M_moved_90 : decode mi_M_moved.2.1 90 = .ok (.iload 5, 2) := by decide +kernel
theorem d_M_moved_92 : decode mi_M_moved.2.1 92 = .ok (.iload 4, 2) := by decide +kernel
theorem d_M_moved_94 : decode mi_M_moved.2.1 94 = .ok (.iastore, 1) := by decide +kernel
theorem d_M_moved_95 : decode mi_M_moved.2.1 95 = .ok (.iconst 0, 1) := by decide +kernel
theorem d_M_moved_96 : decode mi_M_moved.2.1 96 = .ok (.istore 7, 2) := by decide +kernel
theorem d_M_moved_98 : decode mi_M_moved.2.1 98 = .ok (.iconst 0, 1) := by decide +kernel
theorem d_M_moved_99 : decode mi_M_moved.2.1 99 = .ok (.istore 8, 2) := by decide +kernel
theorem d_M_moved_101 : decode mi_M_moved.2.1 101 = .ok (.iload 8, 2) := by decide +kernel
theorem d_M_moved_103 : decode mi_M_moved.2.1 103 = .ok (.aload_n 0, 1) := by decide +kernel
theorem d_M_moved_104 : decode mi_M_moved.2.1 104 = .ok (.getfield 9, 3) := by decide +kernel
theorem d_M_moved_107 : decode mi_M_moved.2.1 107 = .ok (.iconst 0, 1) := by decide +kernel
theorem d_M_moved_108 : decode mi_M_moved.2.1 108 = .ok (.iaload, 1) := by decide +kernel
theorem d_M_moved_109 : decode mi_M_moved.2.1 109 = .ok (.if_icmp .ge 39, 3) := by decide +kernel
theorem d_M_moved_112 : decode mi_M_moved.2.1 112 = .ok (.iload 7, 2) := by decide +kernel
theorem d_M_moved_114 : decode mi_M_moved.2.1 114 = .ok (.aload_n 0, 1) := by decide +kernel
theorem d_M_moved_115 : decode mi_M_moved.2.1 115 = .ok (.iload_n 1, 1) := by decide +kernel
theorem d_M_moved_116 : decode mi_M_moved.2.1 116 = .ok (.iload 8, 2) := by decide +kernel
theorem d_M_moved_118 : decode mi_M_moved.2.1 118 = .ok (.invokevirtual 201, 3) := by decide +kernel
theorem d_M_moved_121 : decode mi_M_moved.2.1 121 = .ok (.aload_n 0, 1) := by decide +kernel
theorem d_M_moved_122 : decode mi_M_moved.2.1 122 = .ok (.getfield 52, 3) := by decide +kernel
theorem d_M_moved_125 : decode mi_M_moved.2.1 125 = .ok (.iload 8, 2) := by decide +kernel
theorem d_M_moved_127 : decode mi_M_moved.2.1 127 = .ok (.iaload, 1) := by decide +kernel
theorem d_M_moved_128 : decode mi_M_moved.2.1 128 = .ok (.if_icmp .eq 10, 3) := by decide +kernel
theorem d_M_moved_131 : decode mi_M_moved.2.1 131 = .ok (.iconst 1, 1) := by decide +kernel
theorem d_M_moved_132 : decode mi_M_moved.2.1 132 = .ok (.iload 8, 2) := by decide +kernel
theorem d_M_moved_134 : decode mi_M_moved.2.1 134 = .ok (.ishl, 1) := by decide +kernel
theorem d_M_moved_135 : decode mi_M_moved.2.1 135 = .ok (.goto 4, 3) := by decide +kernel
theorem d_M_moved_138 : decode mi_M_moved.2.1 138 = .ok (.iconst 0, 1) := by decide +kernel
theorem d_M_moved_139 : decode mi_M_moved.2.1 139 = .ok (.ior, 1) := by decide +kernel
theorem d_M_moved_140 : decode mi_M_moved.2.1 140 = .ok (.istore 7, 2) := by decide +kernel
theorem d_M_moved_142 : decode mi_M_moved.2.1 142 = .ok (.iinc 8 1, 3) := by decide +kernel
theorem d_M_moved_145 : decode mi_M_moved.2.1 145 = .ok (.goto (-44), 3) := by decide +kernel
theorem d_M_moved_148 : decode mi_M_moved.2.1 148 = .ok (.aload_n 0, 1) := by decide +kernel
theorem d_M_moved_149 : decode mi_M_moved.2.1 149 = .ok (.getfield 9, 3) := by decide +kernel
theorem d_M_moved_152 : decode mi_M_moved.2.1 152 = .ok (.iload 5, 2) := by decide +kernel
theorem d_M_moved_154 : decode mi_M_moved.2.1 154 = .ok (.iload 6, 2) := by decide +kernel
theorem d_M_moved_156 : decode mi_M_moved.2.1 156 = .ok (.iastore, 1) := by decide +kernel
theorem d_M_moved_157 : decode mi_M_moved.2.1 157 = .ok (.iload 7, 2) := by decide +kernel
theorem d_M_moved_159 : decode mi_M_moved.2.1 159 = .ok (.ireturn, 1) := by decide +kernel
theorem d_M_shakes_0 : decode mi_M_shakes.2.1 0 = .ok (.aload_n 0, 1) := by decide +kernel
theorem d_M_shakes_1 : decode mi_M_shakes.2.1 1 = .ok (.iload_n 1, 1) := by decide +kernel
theorem d_M_shakes_2 : decode mi_M_shakes.2.1 2 = .ok (.invokevirtual 72, 3) := by decide +kernel
theorem d_M_shakes_5 : decode mi_M_shakes.2.1 5 = .ok (.ifCond .ne 10, 3) := by decide +kernel
theorem d_M_shakes_8 : decode mi_M_shakes.2.1 8 = .ok (.aload_n 0, 1) := by decide +kernel
theorem d_M_shakes_9 : decode mi_M_shakes.2.1 9 = .ok (.bipush (-32), 2) := by decide +kernel
theorem d_M_shakes_11 : decode mi_M_shakes.2.1 11 = .ok (.invokevirtual 106, 3) := by decide +kernel
theorem d_M_shakes_14 : decode mi_M_shakes.2.1 14 = .ok (.ireturn, 1) := by decide +kernel
theorem d_M_shakes_15 : decode mi_M_shakes.2.1 15 = .ok (.iconst 0, 1) := by decide +kernel
theorem d_M_shakes_16 : decode mi_M_shakes.2.1 16 = .ok (.istore_n 2, 1) := by decide +kernel
theorem d_M_shakes_17 : decode mi_M_shakes.2.1 17 = .ok (.iconst 0, 1) := by decide +kernel
theorem d_M_shakes_18 : decode mi_M_shakes.2.1 18 = .ok (.istore_n 3, 1) := by decide +kernel
theorem d_M_shakes_19 : decode mi_M_shakes.2.1 19 = .ok (.iload_n 3, 1) := by decide +kernel
theorem d_M_shakes_20 : decode mi_M_shakes.2.1 20 = .ok (.aload_n 0, 1) := by decide +kernel
theorem d_M_shakes_21 : decode mi_M_shakes.2.1 21 = .ok (.getfield 9, 3) := by decide +kernel
theorem d_M_shakes_24 : decode mi_M_shakes.2.1 24 = .ok (.iconst 1, 1) := by decide +kernel
theorem d_M_shakes_25 : decode mi_M_shakes.2.1 25 = .ok (.iaload, 1) := by decide +kernel
theorem d_M_shakes_26 : decode mi_M_shakes.2.1 26 = .ok (.if_icmp .ge 88, 3) := by decide +kernel
theorem d_M_shakes_29 : decode mi_M_shakes.2.1 29 = .ok (.iconst 0, 1) := by decide +kernel
theorem d_M_shakes_30 : decode mi_M_shakes.2.1 30 = .ok (.istore 4, 2) := by decide +kernel
theorem d_M_shakes_32 : decode mi_M_shakes.2.1 32 = .ok (.iload 4, 2) := by decide +kernel
theorem d_M_shakes_34 : decode mi_M_shakes.2.1 34 = .ok (.aload_n 0, 1) := by decide +kernel
theorem d_M_shakes_35 : decode mi_M_shakes.2.1 35 = .ok (.getfield 9, 3) := by decide +kernel
theorem d_M_shakes_38 : decode mi_M_shakes.2.1 38 = .ok (.iconst 0, 1) := by decide +kernel
theorem d_M_shakes_39 : decode mi_M_shakes.2.1 39 = .ok (.iaload, 1) := by decide +kernel
theorem d_M_shakes_40 : decode mi_M_shakes.2.1 40 = .ok (.if_icmp .ge 68, 3) := by decide +kernel
theorem d_M_shakes_43 : decode mi_M_shakes.2.1 43 = .ok (.aload_n 0, 1) := by decide +kernel
theorem d_M_shakes_44 : decode mi_M_shakes.2.1 44 = .ok (.iload_n 3, 1) := by decide +kernel
theorem d_M_shakes_45 : decode mi_M_shakes.2.1 45 = .ok (.iload 4, 2) := by decide +kernel
theorem d_M_shakes_47 : decode mi_M_shakes.2.1 47 = .ok (.invokevirtual 201, 3) := by decide +kernel
theorem d_M_shakes_50 : decode mi_M_shakes.2.1 50 = .ok (.istore 5, 2) := by decide +kernel
theorem d_M_shakes_52 : decode mi_M_shakes.2.1 52 = .ok (.aload_n 0, 1) := by decide +kernel
theorem d_M_shakes_53 : decode mi_M_shakes.2.1 53 = .ok (.iload_n 1, 1) := by decide +kernel
theorem d_M_shakes_54 : decode mi_M_shakes.2.1 54 = .ok (.iconst 1, 1) := by decide +kernel
theorem d_M_shakes_55 : decode mi_M_shakes.2.1 55 = .ok (.iconst 1, 1) := by decide +kernel
theorem d_M_shakes_56 : decode mi_M_shakes.2.1 56 = .ok (.aload_n 0, 1) := by decide +kernel
theorem d_M_shakes_57 : decode mi_M_shakes.2.1 57 = .ok (.iload_n 1, 1) := by decide +kernel
theorem d_M_shakes_58 : decode mi_M_shakes.2.1 58 = .ok (.iconst 1, 1) := by decide +kernel
theorem d_M_shakes_59 : decode mi_M_shakes.2.1 59 = .ok (.invokevirtual 76, 3) := by decide +kernel
theorem d_M_shakes_62 : decode mi_M_shakes.2.1 62 = .ok (.isub, 1) := by decide +kernel
theorem d_M_shakes_63 : decode mi_M_shakes.2.1 63 = .ok (.invokevirtual 157, 3) := by decide +kernel
theorem d_M_shakes_66 : decode mi_M_shakes.2.1 66 = .ok (.iload_n 2, 1) := by decide +kernel
theorem d_M_shakes_67 : decode mi_M_shakes.2.1 67 = .ok (.aload_n 0, 1) := by decide +kernel
theorem d_M_shakes_68 : decode mi_M_shakes.2.1 68 = .ok (.iload_n 3, 1) := by decide +kernel
theorem d_M_shakes_69 : decode mi_M_shakes.2.1 69 = .ok (.iload 4, 2) := by decide +kernel
theorem d_M_shakes_71 : decode mi_M_shakes.2.1 71 = .ok (.invokevirtual 201, 3) := by decide +kernel
theorem d_M_shakes_74 : decode mi_M_shakes.2.1 74 = .ok (.iload 5, 2) := by decide +kernel
theorem d_M_shakes_76 : decode mi_M_shakes.2.1 76 = .ok (.if_icmp .eq 9, 3) := by decide +kernel
theorem d_M_shakes_79 : decode mi_M_shakes.2.1 79 = .ok (.iconst 1, 1) := by decide +kernel
theorem d_M_shakes_80 : decode mi_M_shakes.2.1 80 = .ok (.iload_n 3, 1) := by decide +kernel
theorem d_M_shakes_81 : decode mi_M_shakes.2.1 81 = .ok (.ishl, 1) := by decide +kernel
theorem d_M_shakes_82 : decode mi_M_shakes.2.1 82 = .ok (.goto 4, 3) := by decide +kernel
theorem d_M_shakes_85 : decode mi_M_shakes.2.1 85 = .ok (.iconst 0, 1) := by decide +kernel
theorem d_M_shakes_86 : decode mi_M_shakes.2.1 86 = .ok (.ior, 1) := by decide +kernel
theorem d_M_shakes_87 : decode mi_M_shakes.2.1 87 = .ok (.istore_n 2, 1) := by decide +kernel
theorem d_M_shakes_88 : decode mi_M_shakes.2.1 88 = .ok (.aload_n 0, 1) := by decide +kernel
theorem d_M_shakes_89 : decode mi_M_shakes.2.1 89 = .ok (.iload_n 1, 1) := by decide +kernel
theorem d_M_shakes_90 : decode mi_M_shakes.2.1 90 = .ok (.iconst 1, 1) := by decide +kernel
theorem d_M_shakes_91 : decode mi_M_shakes.2.1 91 = .ok (.iconst 1, 1) := by decide +kernel
theorem d_M_shakes_92 : decode mi_M_shakes.2.1 92 = .ok (.aload_n 0, 1) := by decide +kernel
theorem d_M_shakes_93 : decode mi_M_shakes.2.1 93 = .ok (.iload_n 1, 1) := by decide +kernel
theorem d_M_shakes_94 : decode mi_M_shakes.2.1 94 = .ok (.iconst 1, 1) := by decide +kernel
theorem d_M_shakes_95 : decode mi_M_shakes.2.1 95 = .ok (.invokevirtual 76, 3) := by decide +kernel
theorem d_M_shakes_98 : decode mi_M_shakes.2.1 98 = .ok (.isub, 1) := by decide +kernel
theorem d_M_shakes_99 : decode mi_M_shakes.2.1 99 = .ok (.invokevirtual 157, 3) := by decide +kernel
theorem d_M_shakes_102 : decode mi_M_shakes.2.1 102 = .ok (.iinc 4 1, 3) := by decide +kernel
theorem d_M_shakes_105 : decode mi_M_shakes.2.1 105 = .ok (.goto (-73), 3) := by decide +kernel
theorem d_M_shakes_108 : decode mi_M_shakes.2.1 108 = .ok (.iinc 3 1, 3) := by decide +kernel
theorem d_M_shakes_111 : decode mi_M_shakes.2.1 111 = .ok (.goto (-92), 3) := by decide +kernel
theorem d_M_shakes_114 : decode mi_M_shakes.2.1 114 = .ok (.iload_n 2, 1) := by decide +kernel
theorem d_M_shakes_115 : decode mi_M_shakes.2.1 115 = .ok (.ireturn, 1) := by decide +kernel
theorem d_M_overlap_0 : decode mi_M_overlap.2.1 0 = .ok (.aload_n 0, 1) := by decide +kernel
theorem d_M_overlap_1 : decode mi_M_overlap.2.1 1 = .ok (.iload_n 1, 1) := by decide +kernel
theorem d_M_overlap_2 : decode mi_M_overlap.2.1 2 = .ok (.invokevirtual 72, 3) := by decide +kernel
theorem d_M_overlap_5 : decode mi_M_overlap.2.1 5 = .ok (.ifCond .eq 11, 3) := by decide +kernel
theorem d_M_overlap_8 : decode mi_M_overlap.2.1 8 = .ok (.aload_n 0, 1) := by decide +kernel
theorem d_M_overlap_9 : decode mi_M_overlap.2.1 9 = .ok (.iload_n 2, 1) := by decide +kernel
theorem d_M_overlap_10 : decode mi_M_overlap.2.1 10 = .ok (.invokevirtual 72, 3) := by decide +kernel
theorem d_M_overlap_13 : decode mi_M_overlap.2.1 13 = .ok (.ifCond .ne 10, 3) := by decide +kernel
theorem d_M_overlap_16 : decode mi_M_overlap.2.1 16 = .ok (.aload_n 0, 1) := by decide +kernel
theorem d_M_overlap_17 : decode mi_M_overlap.2.1 17 = .ok (.bipush (-32), 2) := by decide +kernel
theorem d_M_overlap_19 : decode mi_M_overlap.2.1 19 = .ok (.invokevirtual 106, 3) := by decide +kernel
theorem d_M_overlap_22 : decode mi_M_overlap.2.1 22 = .ok (.ireturn, 1) := by decide +kernel
theorem d_M_overlap_23 : decode mi_M_overlap.2.1 23 = .ok (.iconst 0, 1) := by decide +kernel
theorem d_M_overlap_24 : decode mi_M_overlap.2.1 24 = .ok (.istore_n 3, 1) := by decide +kernel
theorem d_M_overlap_25 : decode mi_M_overlap.2.1 25 = .ok (.iconst 0, 1) := by decide +kernel
theorem d_M_overlap_26 : decode mi_M_overlap.2.1 26 = .ok (.istore 4, 2) := by decide +kernel
theorem d_M_overlap_28 : decode mi_M_overlap.2.1 28 = .ok (.iload 4, 2) := by decide +kernel
theorem d_M_overlap_30 : decode mi_M_overlap.2.1 30 = .ok (.aload_n 0, 1) := by decide +kernel
theorem d_M_overlap_31 : decode mi_M_overlap.2.1 31 = .ok (.getfield 9, 3) := by decide +kernel
theorem d_M_overlap_34 : decode mi_M_overlap.2.1 34 = .ok (.iconst 0, 1) := by decide +kernel
theorem d_M_overlap_35 : decode mi_M_overlap.2.1 35 = .ok (.iaload, 1) := by decide +kernel
theorem d_M_overlap_36 : decode mi_M_overlap.2.1 36 = .ok (.if_icmp .ge 40, 3) := by decide +kernel
theorem d_M_overlap_39 : decode mi_M_overlap.2.1 39 = .ok (.iload_n 3, 1) := by decide +kernel
theorem d_M_overlap_40 : decode mi_M_overlap.2.1 40 = .ok (.aload_n 0, 1) := by decide +kernel
theorem d_M_overlap_41 : decode mi_M_overlap.2.1 41 = .ok (.iload_n 1, 1) := by decide +kernel
theorem d_M_overlap_42 : decode mi_M_overlap.2.1 42 = .ok (.iload 4, 2) := by decide +kernel
theorem d_M_overlap_44 : decode mi_M_overlap.2.1 44 = .ok (.invokevirtual 201, 3) := by decide +kernel
theorem d_M_overlap_47 : decode mi_M_overlap.2.1 47 = .ok (.ifCond .eq 20, 3) := by decide +kernel
theorem d_M_overlap_50 : decode mi_M_overlap.2.1 50 = .ok (.aload_n 0, 1) := by decide +kernel
theorem d_M_overlap_51 : decode mi_M_overlap.2.1 51 = .ok (.iload_n 2, 1) := by decide +kernel
theorem d_M_overlap_52 : decode mi_M_overlap.2.1 52 = .ok (.iload 4, 2) := by decide +kernel
theorem d_M_overlap_54 : decode mi_M_overlap.2.1 54 = .ok (.invokevirtual 201, 3) := by decide +kernel
theorem d_M_overlap_57 : decode mi_M_overlap.2.1 57 = .ok (.ifCond .eq 10, 3) := by decide +kernel
theorem d_M_overlap_60 : decode mi_M_overlap.2.1 60 = .ok (.iconst 1, 1) := by decide +kernel
theorem d_M_overlap_61 : decode mi_M_overlap.2.1 61 = .ok (.iload 4, 2) := by decide +kernel
theorem d_M_overlap_63 : decode mi_M_overlap.2.1 63 = .ok (.ishl, 1) := by decide +kernel
theorem d_M_overlap_64 : decode mi_M_overlap.2.1 64 = .ok (.goto 4, 3) := by decide +kernel
theorem d_M_overlap_67 : decode mi_M_overlap.2.1 67 = .ok (.iconst 0, 1) := by decide +kernel
theorem d_M_overlap_68 : decode mi_M_overlap.2.1 68 = .ok (.ior, 1) := by decide +kernel
theorem d_M_overlap_69 : decode mi_M_overlap.2.1 69 = .ok (.istore_n 3, 1) := by decide +kernel
theorem d_M_overlap_70 : decode mi_M_overlap.2.1 70 = .ok (.iinc 4 1, 3) := by decide +kernel
theorem d_M_overlap_73 : decode mi_M_overlap.2.1 73 = .ok (.goto (-45), 3) := by decide +kernel
theorem d_M_overlap_76 : decode mi_M_overlap.2.1 76 = .ok (.iload_n 3, 1) := by decide +kernel
theorem d_M_overlap_77 : decode mi_M_overlap.2.1 77 = .ok (.ireturn, 1) := by decide +kernel
theorem d_M_needed_0 : decode mi_M_needed.2.1 0 = .ok (.aload_n 0, 1) := by decide +kernel
theorem d_M_needed_1 : decode mi_M_needed.2.1 1 = .ok (.iload_n 1, 1) := by decide +kernel
theorem d_M_needed_2 : decode mi_M_needed.2.1 2 = .ok (.invokevirtual 72, 3) := by decide +kernel
theorem d_M_needed_5 : decode mi_M_needed.2.1 5 = .ok (.ifCond .eq 11, 3) := by decide +kernel
theorem d_M_needed_8 : decode mi_M_needed.2.1 8 = .ok (.aload_n 0, 1) := by decide +kernel
theorem d_M_needed_9 : decode mi_M_needed.2.1 9 = .ok (.iload_n 1, 1) := by decide +kernel
theorem d_M_needed_10 : decode mi_M_needed.2.1 10 = .ok (.invokevirtual 235, 3) := by decide +kernel
theorem d_M_needed_13 : decode mi_M_needed.2.1 13 = .ok (.goto 9, 3) := by decide +kernel
theorem d_M_needed_16 : decode mi_M_needed.2.1 16 = .ok (.aload_n 0, 1) := by decide +kernel
theorem d_M_needed_17 : decode mi_M_needed.2.1 17 = .ok (.bipush (-32), 2) := by decide +kernel
theorem d_M_needed_19 : decode mi_M_needed.2.1 19 = .ok (.invokevirtual 106, 3) := by decide +kernel
theorem d_M_needed_22 : decode mi_M_needed.2.1 22 = .ok (.ireturn, 1) := by decide +kernel
theorem d_M_kept_0 : decode mi_M_kept.2.1 0 = .ok (.aload_n 0, 1) := by decide +kernel
theorem d_M_kept_1 : decode mi_M_kept.2.1 1 = .ok (.iload_n 2, 1) := by decide +kernel
theorem d_M_kept_2 : decode mi_M_kept.2.1 2 = .ok (.invokevirtual 204, 3) := by decide +kernel
theorem d_M_kept_5 : decode mi_M_kept.2.1 5 = .ok (.istore_n 3, 1) := by decide +kernel
theorem d_M_kept_6 : decode mi_M_kept.2.1 6 = .ok (.aload_n 0, 1) := by decide +kernel
theorem d_M_kept_7 : decode mi_M_kept.2.1 7 = .ok (.iload_n 1, 1) := by decide +kernel
theorem d_M_kept_8 : decode mi_M_kept.2.1 8 = .ok (.invokevirtual 72, 3) := by decide +kernel
theorem d_M_kept_11 : decode mi_M_kept.2.1 11 = .ok (.ifCond .eq 7, 3) := by decide +kernel
theorem d_M_kept_14 : decode mi_M_kept.2.1 14 = .ok (.iload_n 3, 1) := by decide +kernel
theorem d_M_kept_15 : decode mi_M_kept.2.1 15 = .ok (.ifCond .ge 10, 3) := by decide +kernel
theorem d_M_kept_18 : decode mi_M_kept.2.1 18 = .ok (.aload_n 0, 1) := by decide +kernel
theorem d_M_kept_19 : decode mi_M_kept.2.1 19 = .ok (.bipush (-32), 2) := by decide +kernel
theorem d_M_kept_21 : decode mi_M_kept.2.1 21 = .ok (.invokevirtual 106, 3) := by decide +kernel
theorem d_M_kept_24 : decode mi_M_kept.2.1 24 = .ok (.ireturn, 1) := by decide +kernel
theorem d_M_kept_25 : decode mi_M_kept.2.1 25 = .ok (.aload_n 0, 1) := by decide +kernel
theorem d_M_kept_26 : decode mi_M_kept.2.1 26 = .ok (.iload_n 1, 1) := by decide +kernel
theorem d_M_kept_27 : decode mi_M_kept.2.1 27 = .ok (.bipush 36, 2) := by decide +kernel
theorem d_M_kept_29 : decode mi_M_kept.2.1 29 = .ok (.iload_n 3, 1) := by decide +kernel
theorem d_M_kept_30 : decode mi_M_kept.2.1 30 = .ok (.iadd, 1) := by decide +kernel
theorem d_M_kept_31 : decode mi_M_kept.2.1 31 = .ok (.invokevirtual 76, 3) := by decide +kernel
theorem d_M_kept_34 : decode mi_M_kept.2.1 34 = .ok (.ifCond .le 15, 3) := by decide +kernel
theorem d_M_kept_37 : decode mi_M_kept.2.1 37 = .ok (.aload_n 0, 1) := by decide +kernel
theorem d_M_kept_38 : decode mi_M_kept.2.1 38 = .ok (.iload_n 1, 1) := by decide +kernel
theorem d_M_kept_39 : decode mi_M_kept.2.1 39 = .ok (.bipush 36, 2) := by decide +kernel
theorem d_M_kept_41 : decode mi_M_kept.2.1 41 = .ok (.iload_n 3, 1) := by decide +kernel
theorem d_M_kept_42 : decode mi_M_kept.2.1 42 = .ok (.iadd, 1) := by decide +kernel
theorem d_M_kept_43 : decode mi_M_kept.2.1 43 = .ok (.invokevirtual 76, 3) := by decide +kernel
theorem d_M_kept_46 : decode mi_M_kept.2.1 46 = .ok (.goto 4, 3) := by decide +kernel
theorem d_M_kept_49 : decode mi_M_kept.2.1 49 = .ok (.iconst (-1), 1) := by decide +kernel
theorem d_M_kept_50 : decode mi_M_kept.2.1 50 = .ok (.ireturn, 1) := by decide +kernel
theorem d_M_forget_0 : decode mi_M_forget.2.1 0 = .ok (.aload_n 0, 1) := by decide +kernel
theorem d_M_forget_1 : decode mi_M_forget.2.1 1 = .ok (.iload_n 1, 1) := by decide +kernel
theorem d_M_forget_2 : decode mi_M_forget.2.1 2 = .ok (.invokevirtual 72, 3) := by decide +kernel
theorem d_M_forget_5 : decode mi_M_forget.2.1 5 = .ok (.ifCond .ne 10, 3) := by decide +kernel
theorem d_M_forget_8 : decode mi_M_forget.2.1 8 = .ok (.aload_n 0, 1) := by decide +kernel
theorem d_M_forget_9 : decode mi_M_forget.2.1 9 = .ok (.bipush (-32), 2) := by decide +kernel
theorem d_M_forget_11 : decode mi_M_forget.2.1 11 = .ok (.invokevirtual 106, 3) := by decide +kernel
theorem d_M_forget_14 : decode mi_M_forget.2.1 14 = .ok (.ireturn, 1) := by decide +kernel
theorem d_M_forget_15 : decode mi_M_forget.2.1 15 = .ok (.aload_n 0, 1) := by decide +kernel
theorem d_M_forget_16 : decode mi_M_forget.2.1 16 = .ok (.iload_n 1, 1) := by decide +kernel
theorem d_M_forget_17 : decode mi_M_forget.2.1 17 = .ok (.invokevirtual 260, 3) := by decide +kernel
theorem d_M_forget_20 : decode mi_M_forget.2.1 20 = .ok (.istore_n 2, 1) := by decide +kernel
theorem d_M_forget_21 : decode mi_M_forget.2.1 21 = .ok (.iconst 0, 1) := by decide +kernel
theorem d_M_forget_22 : decode mi_M_forget.2.1 22 = .ok (.istore_n 3, 1) := by decide +kernel
theorem d_M_forget_23 : decode mi_M_forget.2.1 23 = .ok (.iload_n 3, 1) := by decide +kernel
theorem d_M_forget_24 : decode mi_M_forget.2.1 24 = .ok (.bipush 24, 2) := by decide +kernel
theorem d_M_forget_26 : decode mi_M_forget.2.1 26 = .ok (.if_icmp .ge 19, 3) := by decide +kernel
theorem d_M_forget_29 : decode mi_M_forget.2.1 29 = .ok (.aload_n 0, 1) := by decide +kernel
theorem d_M_forget_30 : decode mi_M_forget.2.1 30 = .ok (.iload_n 1, 1) := by decide +kernel
theorem d_M_forget_31 : decode mi_M_forget.2.1 31 = .ok (.bipush 36, 2) := by decide +kernel
theorem d_M_forget_33 : decode mi_M_forget.2.1 33 = .ok (.iload_n 3, 1) := by decide +kernel
theorem d_M_forget_34 : decode mi_M_forget.2.1 34 = .ok (.iadd, 1) := by decide +kernel
theorem d_M_forget_35 : decode mi_M_forget.2.1 35 = .ok (.iconst 0, 1) := by decide +kernel
theorem d_M_forget_36 : decode mi_M_forget.2.1 36 = .ok (.invokevirtual 157, 3) := by decide +kernel
theorem d_M_forget_39 : decode mi_M_forget.2.1 39 = .ok (.iinc 3 1, 3) := by decide +kernel
theorem d_M_forget_42 : decode mi_M_forget.2.1 42 = .ok (.goto (-19), 3) := by decide +kernel
theorem d_M_forget_45 : decode mi_M_forget.2.1 45 = .ok (.iload_n 2, 1) := by decide +kernel
theorem d_M_forget_46 : decode mi_M_forget.2.1 46 = .ok (.ireturn, 1) := by decide +kernel
theorem d_M_keptMany_0 : decode mi_M_keptMany.2.1 0 = .ok (.iconst 0, 1) := by decide +kernel
theorem d_M_keptMany_1 : decode mi_M_keptMany.2.1 1 = .ok (.istore_n 2, 1) := by decide +kernel
theorem d_M_keptMany_2 : decode mi_M_keptMany.2.1 2 = .ok (.iconst 0, 1) := by decide +kernel
theorem d_M_keptMany_3 : decode mi_M_keptMany.2.1 3 = .ok (.istore_n 3, 1) := by decide +kernel
theorem d_M_keptMany_4 : decode mi_M_keptMany.2.1 4 = .ok (.iload_n 3, 1) := by decide +kernel
theorem d_M_keptMany_5 : decode mi_M_keptMany.2.1 5 = .ok (.aload_n 0, 1) := by decide +kernel
theorem d_M_keptMany_6 : decode mi_M_keptMany.2.1 6 = .ok (.getfield 9, 3) := by decide +kernel
theorem d_M_keptMany_9 : decode mi_M_keptMany.2.1 9 = .ok (.iconst 0, 1) := by decide +kernel
theorem d_M_keptMany_10 : decode mi_M_keptMany.2.1 10 = .ok (.iaload, 1) := by decide +kernel
theorem d_M_keptMany_11 : decode mi_M_keptMany.2.1 11 = .ok (.if_icmp .ge 29, 3) := by decide +kernel
theorem d_M_keptMany_14 : decode mi_M_keptMany.2.1 14 = .ok (.iload_n 2, 1) := by decide +kernel
theorem d_M_keptMany_15 : decode mi_M_keptMany.2.1 15 = .ok (.aload_n 0, 1) := by decide +kernel
theorem d_M_keptMany_16 : decode mi_M_keptMany.2.1 16 = .ok (.iload_n 1, 1) := by decide +kernel
theorem d_M_keptMany_17 : decode mi_M_keptMany.2.1 17 = .ok (.bipush 36, 2) := by decide +kernel
theorem d_M_keptMany_19 : decode mi_M_keptMany.2.1 19 = .ok (.iload_n 3, 1) := by decide +kernel
theorem d_M_keptMany_20 : decode mi_M_keptMany.2.1 20 = .ok (.iadd, 1) := by decide +kernel
theorem d_M_keptMany_21 : decode mi_M_keptMany.2.1 21 = .ok (.invokevirtual 76, 3) := by decide +kernel
theorem d_M_keptMany_24 : decode mi_M_keptMany.2.1 24 = .ok (.ifCond .le 7, 3) := by decide +kernel
theorem d_M_keptMany_27 : decode mi_M_keptMany.2.1 27 = .ok (.iconst 1, 1) := by decide +kernel
theorem d_M_keptMany_28 : decode mi_M_keptMany.2.1 28 = .ok (.goto 4, 3) := by decide +kernel
theorem d_M_keptMany_31 : decode mi_M_keptMany.2.1 31 = .ok (.iconst 0, 1) := by decide +kernel
theorem d_M_keptMany_32 : decode mi_M_keptMany.2.1 32 = .ok (.iadd, 1) := by decide +kernel
theorem d_M_keptMany_33 : decode mi_M_keptMany.2.1 33 = .ok (.istore_n 2, 1) := by decide +kernel
theorem d_M_keptMany_34 : decode mi_M_keptMany.2.1 34 = .ok (.iinc 3 1, 3) := by decide +kernel
theorem d_M_keptMany_37 : decode mi_M_keptMany.2.1 37 = .ok (.goto (-33), 3) := by decide +kernel
theorem d_M_keptMany_40 : decode mi_M_keptMany.2.1 40 = .ok (.iload_n 2, 1) := by decide +kernel
theorem d_M_keptMany_41 : decode mi_M_keptMany.2.1 41 = .ok (.ireturn, 1) := by decide +kernel
theorem d_M_spelled_0 : decode mi_M_spelled.2.1 0 = .ok (.aload_n 0, 1) := by decide +kernel
theorem d_M_spelled_1 : decode mi_M_spelled.2.1 1 = .ok (.iload_n 1, 1) := by decide +kernel
theorem d_M_spelled_2 : decode mi_M_spelled.2.1 2 = .ok (.iload_n 2, 1) := by decide +kernel
theorem d_M_spelled_3 : decode mi_M_spelled.2.1 3 = .ok (.invokevirtual 223, 3) := by decide +kernel
theorem d_M_spelled_6 : decode mi_M_spelled.2.1 6 = .ok (.ifCond .ne 10, 3) := by decide +kernel
theorem d_M_spelled_9 : decode mi_M_spelled.2.1 9 = .ok (.aload_n 0, 1) := by decide +kernel
theorem d_M_spelled_10 : decode mi_M_spelled.2.1 10 = .ok (.bipush (-32), 2) := by decide +kernel
theorem d_M_spelled_12 : decode mi_M_spelled.2.1 12 = .ok (.invokevirtual 106, 3) := by decide +kernel
theorem d_M_spelled_15 : decode mi_M_spelled.2.1 15 = .ok (.ireturn, 1) := by decide +kernel
theorem d_M_spelled_16 : decode mi_M_spelled.2.1 16 = .ok (.aload_n 0, 1) := by decide +kernel
theorem d_M_spelled_17 : decode mi_M_spelled.2.1 17 = .ok (.iconst 0, 1) := by decide +kernel
theorem d_M_spelled_18 : decode mi_M_spelled.2.1 18 = .ok (.putfield 263, 3) := by decide +kernel
theorem d_M_spelled_21 : decode mi_M_spelled.2.1 21 = .ok (.aload_n 0, 1) := by decide +kernel
theorem d_M_spelled_22 : decode mi_M_spelled.2.1 22 = .ok (.iload_n 3, 1) := by decide +kernel
theorem d_M_spelled_23 : decode mi_M_spelled.2.1 23 = .ok (.putfield 266, 3) := by decide +kernel
theorem d_M_spelled_26 : decode mi_M_spelled.2.1 26 = .ok (.aload_n 0, 1) := by decide +kernel
theorem d_M_spelled_27 : decode mi_M_spelled.2.1 27 = .ok (.iconst (-1), 1) := by decide +kernel
theorem d_M_spelled_28 : decode mi_M_spelled.2.1 28 = .ok (.putfield 269, 3) := by decide +kernel
theorem d_M_spelled_31 : decode mi_M_spelled.2.1 31 = .ok (.aload_n 0, 1) := by decide +kernel
theorem d_M_spelled_32 : decode mi_M_spelled.2.1 32 = .ok (.aload_n 0, 1) := by decide +kernel
theorem d_M_spelled_33 : decode mi_M_spelled.2.1 33 = .ok (.iload_n 1, 1) := by decide +kernel
theorem d_M_spelled_34 : decode mi_M_spelled.2.1 34 = .ok (.iload_n 2, 1) := by decide +kernel
theorem d_M_spelled_35 : decode mi_M_spelled.2.1 35 = .ok (.invokevirtual 185, 3) := by decide +kernel
theorem d_M_spelled_38 : decode mi_M_spelled.2.1 38 = .ok (.invokevirtual 279, 3) := by decide +kernel
theorem d_M_spelled_41 : decode mi_M_spelled.2.1 41 = .ok (.aload_n 0, 1) := by decide +kernel
theorem d_M_spelled_42 : decode mi_M_spelled.2.1 42 = .ok (.iload_n 1, 1) := by decide +kernel
theorem d_M_spelled_43 : decode mi_M_spelled.2.1 43 = .ok (.iload_n 2, 1) := by decide +kernel
theorem d_M_spelled_44 : decode mi_M_spelled.2.1 44 = .ok (.invokevirtual 188, 3) := by decide +kernel
theorem d_M_spelled_47 : decode mi_M_spelled.2.1 47 = .ok (.ifCond .eq 31, 3) := by decide +kernel
theorem d_M_spelled_50 : decode mi_M_spelled.2.1 50 = .ok (.aload_n 0, 1) := by decide +kernel
theorem d_M_spelled_51 : decode mi_M_spelled.2.1 51 = .ok (.bipush 58, 2) := by decide +kernel
theorem d_M_spelled_53 : decode mi_M_spelled.2.1 53 = .ok (.invokevirtual 276, 3) := by decide +kernel
theorem d_M_spelled_56 : decode mi_M_spelled.2.1 56 = .ok (.aload_n 0, 1) := by decide +kernel
theorem d_M_spelled_57 : decode mi_M_spelled.2.1 57 = .ok (.aload_n 0, 1) := by decide +kernel
theorem d_M_spelled_58 : decode mi_M_spelled.2.1 58 = .ok (.getfield 9, 3) := by decide +kernel
theorem d_M_spelled_61 : decode mi_M_spelled.2.1 61 = .ok (.iload_n 1, 1) := by decide +kernel
theorem d_M_spelled_62 : decode mi_M_spelled.2.1 62 = .ok (.iload_n 2, 1) := by decide +kernel
theorem d_M_spelled_63 : decode mi_M_spelled.2.1 63 = .ok (.iconst 1, 1) := by decide +kernel
theorem d_M_spelled_64 : decode mi_M_spelled.2.1 64 = .ok (.invokestatic 80, 3) := by decide +kernel
theorem d_M_spelled_67 : decode mi_M_spelled.2.1 67 = .ok (.iaload, 1) := by decide +kernel
theorem d_M_spelled_68 : decode mi_M_spelled.2.1 68 = .ok (.sipush 1000, 3) := by decide +kernel
theorem d_M_spelled_71 : decode mi_M_spelled.2.1 71 = .ok (.isub, 1) := by decide +kernel
theorem d_M_spelled_72 : decode mi_M_spelled.2.1 72 = .ok (.invokevirtual 272, 3) := by decide +kernel
theorem d_M_spelled_75 : decode mi_M_spelled.2.1 75 = .ok (.goto 51, 3) := by decide +kernel
theorem d_M_spelled_78 : decode mi_M_spelled.2.1 78 = .ok (.iconst 1, 1) := by decide +kernel
theorem d_M_spelled_79 : decode mi_M_spelled.2.1 79 = .ok (.istore 4, 2) := by decide +kernel
theorem d_M_spelled_81 : decode mi_M_spelled.2.1 81 = .ok (.iload 4, 2) := by decide +kernel
theorem d_M_spelled_83 : decode mi_M_spelled.2.1 83 = .ok (.iconst 3, 1) := by decide +kernel
theorem d_M_spelled_84 : decode mi_M_spelled.2.1 84 = .ok (.if_icmp .gt 42, 3) := by decide +kernel
theorem d_M_spelled_87 : decode mi_M_spelled.2.1 87 = .ok (.aload_n 0, 1) := by decide +kernel
theorem d_M_spelled_88 : decode mi_M_spelled.2.1 88 = .ok (.iload 4, 2) := by decide +kernel
theorem d_M_spelled_90 : decode mi_M_spelled.2.1 90 = .ok (.iconst 1, 1) := by decide +kernel
theorem d_M_spelled_91 : decode mi_M_spelled.2.1 91 = .ok (.if_icmp .ne 8, 3) := by decide +kernel
theorem d_M_spelled_94 : decode mi_M_spelled.2.1 94 = .ok (.bipush 37, 2) := by decide +kernel
theorem d_M_spelled_96 : decode mi_M_spelled.2.1 96 = .ok (.goto 5, 3) := by decide +kernel
theorem d_M_spelled_99 : decode mi_M_spelled.2.1 99 = .ok (.bipush 44, 2) := by decide +kernel
theorem d_M_spelled_101 : decode mi_M_spelled.2.1 101 = .ok (.invokevirtual 276, 3) := by decide +kernel
theorem d_M_spelled_104 : decode mi_M_spelled.2.1 104 = .ok (.aload_n 0, 1) := by decide +kernel
theorem d_M_spelled_105 : decode mi_M_spelled.2.1 105 = .ok (.aload_n 0, 1) := by decide +kernel
theorem d_M_spelled_106 : decode mi_M_spelled.2.1 106 = .ok (.getfield 9, 3) := by decide +kernel
theorem d_M_spelled_109 : decode mi_M_spelled.2.1 109 = .ok (.iload_n 1, 1) := by decide +kernel
theorem d_M_spelled_110 : decode mi_M_spelled.2.1 110 = .ok (.iload_n 2, 1) := by decide +kernel
theorem d_M_spelled_111 : decode mi_M_spelled.2.1 111 = .ok (.iload 4, 2) := by decide +kernel
theorem d_M_spelled_113 : decode mi_M_spelled.2.1 113 = .ok (.invokestatic 80, 3) := by decide +kernel
theorem d_M_spelled_116 : decode mi_M_spelled.2.1 116 = .ok (.iaload, 1) := by decide +kernel
theorem d_M_spelled_117 : decode mi_M_spelled.2.1 117 = .ok (.invokevirtual 272, 3) := by decide +kernel
theorem d_M_spelled_120 : decode mi_M_spelled.2.1 120 = .ok (.iinc 4 1, 3) := by decide +kernel
theorem d_M_spelled_123 : decode mi_M_spelled.2.1 123 = .ok (.goto (-42), 3) := by decide +kernel
theorem d_M_spelled_126 : decode mi_M_spelled.2.1 126 = .ok (.aload_n 0, 1) := by decide +kernel
theorem d_M_spelled_127 : decode mi_M_spelled.2.1 127 = .ok (.getfield 269, 3) := by decide +kernel
theorem d_M_spelled_130 : decode mi_M_spelled.2.1 130 = .ok (.ireturn, 1) := by decide +kernel
theorem d_M_tellsTree_0 : decode mi_M_tellsTree.2.1 0 = .ok (.aload_n 0, 1) := by decide +kernel
theorem d_M_tellsTree_1 : decode mi_M_tellsTree.2.1 1 = .ok (.getfield 25, 3) := by decide +kernel
theorem d_M_tellsTree_4 : decode mi_M_tellsTree.2.1 4 = .ok (.iload_n 1, 1) := by decide +kernel
theorem d_M_tellsTree_5 : decode mi_M_tellsTree.2.1 5 = .ok (.iaload, 1) := by decide +kernel
theorem d_M_tellsTree_6 : decode mi_M_tellsTree.2.1 6 = .ok (.istore_n 2, 1) := by decide +kernel
theorem d_M_tellsTree_7 : decode mi_M_tellsTree.2.1 7 = .ok (.aload_n 0, 1) := by decide +kernel
theorem d_M_tellsTree_8 : decode mi_M_tellsTree.2.1 8 = .ok (.getfield 28, 3) := by decide +kernel
theorem d_M_tellsTree_11 : decode mi_M_tellsTree.2.1 11 = .ok (.iload_n 1, 1) := by decide +kernel
theorem d_M_tellsTree_12 : decode mi_M_tellsTree.2.1 12 = .ok (.iaload, 1) := by decide +kernel
theorem d_M_tellsTree_13 : decode mi_M_tellsTree.2.1 13 = .ok (.istore_n 3, 1) := by decide +kernel
theorem d_M_tellsTree_14 : decode mi_M_tellsTree.2.1 14 = .ok (.aload_n 0, 1) := by decide +kernel
theorem d_M_tellsTree_15 : decode mi_M_tellsTree.2.1 15 = .ok (.getfield 22, 3) := by decide +kernel
theorem d_M_tellsTree_18 : decode mi_M_tellsTree.2.1 18 = .ok (.iload_n 1, 1) := by decide +kernel
theorem d_M_tellsTree_19 : decode mi_M_tellsTree.2.1 19 = .ok (.iaload, 1) := by decide +kernel
theorem d_M_tellsTree_20 : decode mi_M_tellsTree.2.1 20 = .ok (.tableswitch 180 3 7 #[36, 66, 75, 104, 129], 36) := by decide +kernel
theorem d_M_tellsTree_56 : decode mi_M_tellsTree.2.1 56 = .ok (.aload_n 0, 1) := by decide +kernel
theorem d_M_tellsTree_57 : decode mi_M_tellsTree.2.1 57 = .ok (.bipush 33, 2) := by decide +kernel
theorem d_M_tellsTree_59 : decode mi_M_tellsTree.2.1 59 = .ok (.invokevirtual 276, 3) := by decide +kernel
theorem d_M_tellsTree_62 : decode mi_M_tellsTree.2.1 62 = .ok (.aload_n 0, 1) := by decide +kernel
theorem d_M_tellsTree_63 : decode mi_M_tellsTree.2.1 63 = .ok (.iload_n 2, 1) := by decide +kernel
theorem d_M_tellsTree_64 : decode mi_M_tellsTree.2.1 64 = .ok (.aload_n 0, 1) := by decide +kernel
theorem d_M_tellsTree_65 : decode mi_M_tellsTree.2.1 65 = .ok (.getfield 22, 3) := by decide +kernel
theorem d_M_tellsTree_68 : decode mi_M_tellsTree.2.1 68 = .ok (.iload_n 2, 1) := by decide +kernel
theorem d_M_tellsTree_69 : decode mi_M_tellsTree.2.1 69 = .ok (.iaload, 1) := by decide +kernel
theorem d_M_tellsTree_70 : decode mi_M_tellsTree.2.1 70 = .ok (.bipush 7, 2) := by decide +kernel
theorem d_M_tellsTree_72 : decode mi_M_tellsTree.2.1 72 = .ok (.if_icmp .lt 7, 3) := by decide +kernel
theorem d_M_tellsTree_75 : decode mi_M_tellsTree.2.1 75 = .ok (.iconst 1, 1) := by decide +kernel
theorem d_M_tellsTree_76 : decode mi_M_tellsTree.2.1 76 = .ok (.goto 4, 3) := by decide +kernel
theorem d_M_tellsTree_79 : decode mi_M_tellsTree.2.1 79 = .ok (.iconst 0, 1) := by decide +kernel
theorem d_M_tellsTree_80 : decode mi_M_tellsTree.2.1 80 = .ok (.invokevirtual 282, 3) := by decide +kernel
theorem d_M_tellsTree_83 : decode mi_M_tellsTree.2.1 83 = .ok (.goto 149, 3) := by decide +kernel
theorem d_M_tellsTree_86 : decode mi_M_tellsTree.2.1 86 = .ok (.aload_n 0, 1) := by decide +kernel
theorem d_M_tellsTree_87 : decode mi_M_tellsTree.2.1 87 = .ok (.bipush 42, 2) := by decide +kernel
theorem d_M_tellsTree_89 : decode mi_M_tellsTree.2.1 89 = .ok (.invokevirtual 276, 3) := by decide +kernel
theorem d_M_tellsTree_92 : decode mi_M_tellsTree.2.1 92 = .ok (.goto 140, 3) := by decide +kernel
theorem d_M_tellsTree_95 : decode mi_M_tellsTree.2.1 95 = .ok (.aload_n 0, 1) := by decide +kernel
theorem d_M_tellsTree_96 : decode mi_M_tellsTree.2.1 96 = .ok (.bipush 97, 2) := by decide +kernel
theorem d_M_tellsTree_98 : decode mi_M_tellsTree.2.1 98 = .ok (.iload_n 2, 1) := by decide +kernel
theorem d_M_tellsTree_99 : decode mi_M_tellsTree.2.1 99 = .ok (.iadd, 1) := by decide +kernel
theorem d_M_tellsTree_100 : decode mi_M_tellsTree.2.1 100 = .ok (.invokevirtual 276, 3) := by decide +kernel
theorem d_M_tellsTree_103 : decode mi_M_tellsTree.2.1 103 = .ok (.aload_n 0, 1) := by decide +kernel
theorem d_M_tellsTree_104 : decode mi_M_tellsTree.2.1 104 = .ok (.aload_n 0, 1) := by decide +kernel
theorem d_M_tellsTree_105 : decode mi_M_tellsTree.2.1 105 = .ok (.getfield 31, 3) := by decide +kernel
theorem d_M_tellsTree_108 : decode mi_M_tellsTree.2.1 108 = .ok (.iload_n 1, 1) := by decide +kernel
theorem d_M_tellsTree_109 : decode mi_M_tellsTree.2.1 109 = .ok (.iaload, 1) := by decide +kernel
theorem d_M_tellsTree_110 : decode mi_M_tellsTree.2.1 110 = .ok (.invokevirtual 276, 3) := by decide +kernel
theorem d_M_tellsTree_113 : decode mi_M_tellsTree.2.1 113 = .ok (.aload_n 0, 1) := by decide +kernel
theorem d_M_tellsTree_114 : decode mi_M_tellsTree.2.1 114 = .ok (.bipush 48, 2) := by decide +kernel
theorem d_M_tellsTree_116 : decode mi_M_tellsTree.2.1 116 = .ok (.iload_n 3, 1) := by decide +kernel
theorem d_M_tellsTree_117 : decode mi_M_tellsTree.2.1 117 = .ok (.iadd, 1) := by decide +kernel
theorem d_M_tellsTree_118 : decode mi_M_tellsTree.2.1 118 = .ok (.invokevirtual 276, 3) := by decide +kernel
theorem d_M_tellsTree_121 : decode mi_M_tellsTree.2.1 121 = .ok (.goto 111, 3) := by decide +kernel
theorem d_M_tellsTree_124 : decode mi_M_tellsTree.2.1 124 = .ok (.aload_n 0, 1) := by decide +kernel
theorem d_M_tellsTree_125 : decode mi_M_tellsTree.2.1 125 = .ok (.bipush 35, 2) := by decide +kernel
theorem d_M_tellsTree_127 : decode mi_M_tellsTree.2.1 127 = .ok (.invokevirtual 276, 3) := by decide +kernel
theorem d_M_tellsTree_130 : decode mi_M_tellsTree.2.1 130 = .ok (.aload_n 0, 1) := by decide +kernel
theorem d_M_tellsTree_131 : decode mi_M_tellsTree.2.1 131 = .ok (.iload_n 2, 1) := by decide +kernel
theorem d_M_tellsTree_132 : decode mi_M_tellsTree.2.1 132 = .ok (.invokevirtual 272, 3) := by decide +kernel
theorem d_M_tellsTree_135 : decode mi_M_tellsTree.2.1 135 = .ok (.aload_n 0, 1) := by decide +kernel
theorem d_M_tellsTree_136 : decode mi_M_tellsTree.2.1 136 = .ok (.bipush 45, 2) := by decide +kernel
theorem d_M_tellsTree_138 : decode mi_M_tellsTree.2.1 138 = .ok (.invokevirtual 276, 3) := by decide +kernel
theorem d_M_tellsTree_141 : decode mi_M_tellsTree.2.1 141 = .ok (.aload_n 0, 1) := by decide +kernel
theorem d_M_tellsTree_142 : decode mi_M_tellsTree.2.1 142 = .ok (.iload_n 3, 1) := by decide +kernel
theorem d_M_tellsTree_143 : decode mi_M_tellsTree.2.1 143 = .ok (.invokevirtual 272, 3) := by decide +kernel
theorem d_M_tellsTree_146 : decode mi_M_tellsTree.2.1 146 = .ok (.goto 86, 3) := by decide +kernel
theorem d_M_tellsTree_149 : decode mi_M_tellsTree.2.1 149 = .ok (.aload_n 0, 1) := by decide +kernel
theorem d_M_tellsTree_150 : decode mi_M_tellsTree.2.1 150 = .ok (.iload_n 2, 1) := by decide +kernel
theorem d_M_tellsTree_151 : decode mi_M_tellsTree.2.1 151 = .ok (.aload_n 0, 1) := by decide +kernel
theorem d_M_tellsTree_152 : decode mi_M_tellsTree.2.1 152 = .ok (.getfield 22, 3) := by decide +kernel
theorem d_M_tellsTree_155 : decode mi_M_tellsTree.2.1 155 = .ok (.iload_n 2, 1) := by decide +kernel
theorem d_M_tellsTree_156 : decode mi_M_tellsTree.2.1 156 = .ok (.iaload, 1) := by decide +kernel
theorem d_M_tellsTree_157 : decode mi_M_tellsTree.2.1 157 = .ok (.bipush 8, 2) := by decide +kernel
theorem d_M_tellsTree_159 : decode mi_M_tellsTree.2.1 159 = .ok (.if_icmp .ne 7, 3) := by decide +kernel
theorem d_M_tellsTree_162 : decode mi_M_tellsTree.2.1 162 = .ok (.iconst 1, 1) := by decide +kernel
theorem d_M_tellsTree_163 : decode mi_M_tellsTree.2.1 163 = .ok (.goto 4, 3) := by decide +kernel
theorem d_M_tellsTree_166 : decode mi_M_tellsTree.2.1 166 = .ok (.iconst 0, 1) := by decide +kernel
theorem d_M_tellsTree_167 : decode mi_M_tellsTree.2.1 167 = .ok (.invokevirtual 282, 3) := by decide +kernel
theorem d_M_tellsTree_170 : decode mi_M_tellsTree.2.1 170 = .ok (.aload_n 0, 1) := by decide +kernel
theorem d_M_tellsTree_171 : decode mi_M_tellsTree.2.1 171 = .ok (.bipush 38, 2) := by decide +kernel
theorem d_M_tellsTree_173 : decode mi_M_tellsTree.2.1 173 = .ok (.invokevirtual 276, 3) := by decide +kernel
theorem d_M_tellsTree_176 : decode mi_M_tellsTree.2.1 176 = .ok (.aload_n 0, 1) := by decide +kernel
theorem d_M_tellsTree_177 : decode mi_M_tellsTree.2.1 177 = .ok (.iload_n 3, 1) := by decide +kernel
theorem d_M_tellsTree_178 : decode mi_M_tellsTree.2.1 178 = .ok (.aload_n 0, 1) := by decide +kernel
theorem d_M_tellsTree_179 : decode mi_M_tellsTree.2.1 179 = .ok (.getfield 22, 3) := by decide +kernel
theorem d_M_tellsTree_182 : decode mi_M_tellsTree.2.1 182 = .ok (.iload_n 3, 1) := by decide +kernel
theorem d_M_tellsTree_183 : decode mi_M_tellsTree.2.1 183 = .ok (.iaload, 1) := by decide +kernel
theorem d_M_tellsTree_184 : decode mi_M_tellsTree.2.1 184 = .ok (.bipush 7, 2) := by decide +kernel
theorem d_M_tellsTree_186 : decode mi_M_tellsTree.2.1 186 = .ok (.if_icmp .lt 7, 3) := by decide +kernel
theorem d_M_tellsTree_189 : decode mi_M_tellsTree.2.1 189 = .ok (.iconst 1, 1) := by decide +kernel
theorem d_M_tellsTree_190 : decode mi_M_tellsTree.2.1 190 = .ok (.goto 4, 3) := by decide +kernel
theorem d_M_tellsTree_193 : decode mi_M_tellsTree.2.1 193 = .ok (.iconst 0, 1) := by decide +kernel
theorem d_M_tellsTree_194 : decode mi_M_tellsTree.2.1 194 = .ok (.invokevirtual 282, 3) := by decide +kernel
theorem d_M_tellsTree_197 : decode mi_M_tellsTree.2.1 197 = .ok (.goto 35, 3) := by decide +kernel
theorem d_M_tellsTree_200 : decode mi_M_tellsTree.2.1 200 = .ok (.aload_n 0, 1) := by decide +kernel
theorem d_M_tellsTree_201 : decode mi_M_tellsTree.2.1 201 = .ok (.iload_n 2, 1) := by decide +kernel
theorem d_M_tellsTree_202 : decode mi_M_tellsTree.2.1 202 = .ok (.invokevirtual 279, 3) := by decide +kernel
theorem d_M_tellsTree_205 : decode mi_M_tellsTree.2.1 205 = .ok (.aload_n 0, 1) := by decide +kernel
theorem d_M_tellsTree_206 : decode mi_M_tellsTree.2.1 206 = .ok (.bipush 124, 2) := by decide +kernel
theorem d_M_tellsTree_208 : decode mi_M_tellsTree.2.1 208 = .ok (.invokevirtual 276, 3) := by decide +kernel
theorem d_M_tellsTree_211 : decode mi_M_tellsTree.2.1 211 = .ok (.aload_n 0, 1) := by decide +kernel
theorem d_M_tellsTree_212 : decode mi_M_tellsTree.2.1 212 = .ok (.iload_n 3, 1) := by decide +kernel
theorem d_M_tellsTree_213 : decode mi_M_tellsTree.2.1 213 = .ok (.aload_n 0, 1) := by decide +kernel
theorem d_M_tellsTree_214 : decode mi_M_tellsTree.2.1 214 = .ok (.getfield 22, 3) := by decide +kernel
theorem d_M_tellsTree_217 : decode mi_M_tellsTree.2.1 217 = .ok (.iload_n 3, 1) := by decide +kernel
theorem d_M_tellsTree_218 : decode mi_M_tellsTree.2.1 218 = .ok (.iaload, 1) := by decide +kernel
theorem d_M_tellsTree_219 : decode mi_M_tellsTree.2.1 219 = .ok (.bipush 8, 2) := by decide +kernel
theorem d_M_tellsTree_221 : decode mi_M_tellsTree.2.1 221 = .ok (.if_icmp .ne 7, 3) := by decide +kernel
theorem d_M_tellsTree_224 : decode mi_M_tellsTree.2.1 224 = .ok (.iconst 1, 1) := by decide +kernel
theorem d_M_tellsTree_225 : decode mi_M_tellsTree.2.1 225 = .ok (.goto 4, 3) := by decide +kernel
theorem d_M_tellsTree_228 : decode mi_M_tellsTree.2.1 228 = .ok (.iconst 0, 1) := by decide +kernel
theorem d_M_tellsTree_229 : decode mi_M_tellsTree.2.1 229 = .ok (.invokevirtual 282, 3) := by decide +kernel
theorem d_M_tellsTree_232 : decode mi_M_tellsTree.2.1 232 = .ok (.return_, 1) := by decide +kernel
theorem d_M_tells_0 : decode mi_M_tells.2.1 0 = .ok (.aload_n 0, 1) := by decide +kernel
theorem d_M_tells_1 : decode mi_M_tells.2.1 1 = .ok (.aload_n 0, 1) := by decide +kernel
theorem d_M_tells_2 : decode mi_M_tells.2.1 2 = .ok (.getfield 263, 3) := by decide +kernel
theorem d_M_tells_5 : decode mi_M_tells.2.1 5 = .ok (.aload_n 0, 1) := by decide +kernel
theorem d_M_tells_6 : decode mi_M_tells.2.1 6 = .ok (.getfield 266, 3) := by decide +kernel
theorem d_M_tells_9 : decode mi_M_tells.2.1 9 = .ok (.if_icmp .ne 7, 3) := by decide +kernel
theorem d_M_tells_12 : decode mi_M_tells.2.1 12 = .ok (.iload_n 1, 1) := by decide +kernel
theorem d_M_tells_13 : decode mi_M_tells.2.1 13 = .ok (.goto 7, 3) := by decide +kernel
theorem d_M_tells_16 : decode mi_M_tells.2.1 16 = .ok (.aload_n 0, 1) := by decide +kernel
theorem d_M_tells_17 : decode mi_M_tells.2.1 17 = .ok (.getfield 269, 3) := by decide +kernel
theorem d_M_tells_20 : decode mi_M_tells.2.1 20 = .ok (.putfield 269, 3) := by decide +kernel
theorem d_M_tells_23 : decode mi_M_tells.2.1 23 = .ok (.aload_n 0, 1) := by decide +kernel
theorem d_M_tells_24 : decode mi_M_tells.2.1 24 = .ok (.dup, 1) := by decide +kernel
theorem d_M_tells_25 : decode mi_M_tells.2.1 25 = .ok (.getfield 263, 3) := by decide +kernel
theorem d_M_tells_28 : decode mi_M_tells.2.1 28 = .ok (.iconst 1, 1) := by decide +kernel
theorem d_M_tells_29 : decode mi_M_tells.2.1 29 = .ok (.iadd, 1) := by decide +kernel
theorem d_M_tells_30 : decode mi_M_tells.2.1 30 = .ok (.putfield 263, 3) := by decide +kernel
theorem d_M_tells_33 : decode mi_M_tells.2.1 33 = .ok (.return_, 1) := by decide +kernel
theorem d_M_tellsIn_0 : decode mi_M_tellsIn.2.1 0 = .ok (.iload_n 2, 1) := by decide +kernel
theorem d_M_tellsIn_1 : decode mi_M_tellsIn.2.1 1 = .ok (.ifCond .eq 9, 3) := by decide +kernel
theorem d_M_tellsIn_4 : decode mi_M_tellsIn.2.1 4 = .ok (.aload_n 0, 1) := by decide +kernel
theorem d_M_tellsIn_5 : decode mi_M_tellsIn.2.1 5 = .ok (.bipush 40, 2) := by decide +kernel
theorem d_M_tellsIn_7 : decode mi_M_tellsIn.2.1 7 = .ok (.invokevirtual 276, 3) := by decide +kernel
theorem d_M_tellsIn_10 : decode mi_M_tellsIn.2.1 10 = .ok (.aload_n 0, 1) := by decide +kernel
theorem d_M_tellsIn_11 : decode mi_M_tellsIn.2.1 11 = .ok (.iload_n 1, 1) := by decide +kernel
theorem d_M_tellsIn_12 : decode mi_M_tellsIn.2.1 12 = .ok (.invokevirtual 279, 3) := by decide +kernel
theorem d_M_tellsIn_15 : decode mi_M_tellsIn.2.1 15 = .ok (.iload_n 2, 1) := by decide +kernel
theorem d_M_tellsIn_16 : decode mi_M_tellsIn.2.1 16 = .ok (.ifCond .eq 9, 3) := by decide +kernel
theorem d_M_tellsIn_19 : decode mi_M_tellsIn.2.1 19 = .ok (.aload_n 0, 1) := by decide +kernel
theorem d_M_tellsIn_20 : decode mi_M_tellsIn.2.1 20 = .ok (.bipush 41, 2) := by decide +kernel
theorem d_M_tellsIn_22 : decode mi_M_tellsIn.2.1 22 = .ok (.invokevirtual 276, 3) := by decide +kernel
theorem d_M_tellsIn_25 : decode mi_M_tellsIn.2.1 25 = .ok (.return_, 1) := by decide +kernel
theorem d_M_tellsNumber_0 : decode mi_M_tellsNumber.2.1 0 = .ok (.iload_n 1, 1) := by decide +kernel
theorem d_M_tellsNumber_1 : decode mi_M_tellsNumber.2.1 1 = .ok (.bipush 9, 2) := by decide +kernel
theorem d_M_tellsNumber_3 : decode mi_M_tellsNumber.2.1 3 = .ok (.if_icmp .le 11, 3) := by decide +kernel
theorem d_M_tellsNumber_6 : decode mi_M_tellsNumber.2.1 6 = .ok (.aload_n 0, 1) := by decide +kernel
theorem d_M_tellsNumber_7 : decode mi_M_tellsNumber.2.1 7 = .ok (.iload_n 1, 1) := by decide +kernel
theorem d_M_tellsNumber_8 : decode mi_M_tellsNumber.2.1 8 = .ok (.bipush 10, 2) := by decide +kernel
theorem d_M_tellsNumber_10 : decode mi_M_tellsNumber.2.1 10 = .ok (.idiv, 1) := by decide +kernel
theorem d_M_tellsNumber_11 : decode mi_M_tellsNumber.2.1 11 = .ok (.invokevirtual 272, 3) := by decide +kernel
theorem d_M_tellsNumber_14 : decode mi_M_tellsNumber.2.1 14 = .ok (.aload_n 0, 1) := by decide +kernel
theorem d_M_tellsNumber_15 : decode mi_M_tellsNumber.2.1 15 = .ok (.bipush 48, 2) := by decide +kernel
theorem d_M_tellsNumber_17 : decode mi_M_tellsNumber.2.1 17 = .ok (.iload_n 1, 1) := by decide +kernel
theorem d_M_tellsNumber_18 : decode mi_M_tellsNumber.2.1 18 = .ok (.bipush 10, 2) := by decide +kernel
theorem d_M_tellsNumber_20 : decode mi_M_tellsNumber.2.1 20 = .ok (.irem, 1) := by decide +kernel
theorem d_M_tellsNumber_21 : decode mi_M_tellsNumber.2.1 21 = .ok (.iadd, 1) := by decide +kernel
theorem d_M_tellsNumber_22 : decode mi_M_tellsNumber.2.1 22 = .ok (.invokevirtual 276, 3) := by decide +kernel
theorem d_M_tellsNumber_25 : decode mi_M_tellsNumber.2.1 25 = .ok (.return_, 1) := by decide +kernel
theorem d_M_featureOf_0 : decode mi_M_featureOf.2.1 0 = .ok (.aload_n 0, 1) := by decide +kernel
theorem d_M_featureOf_1 : decode mi_M_featureOf.2.1 1 = .ok (.iload_n 1, 1) := by decide +kernel
theorem d_M_featureOf_2 : decode mi_M_featureOf.2.1 2 = .ok (.invokevirtual 72, 3) := by decide +kernel
theorem d_M_featureOf_5 : decode mi_M_featureOf.2.1 5 = .ok (.ifCond .eq 15, 3) := by decide +kernel
theorem d_M_featureOf_8 : decode mi_M_featureOf.2.1 8 = .ok (.iload_n 2, 1) := by decide +kernel
theorem d_M_featureOf_9 : decode mi_M_featureOf.2.1 9 = .ok (.i2l, 1) := by decide +kernel
theorem d_M_featureOf_10 : decode mi_M_featureOf.2.1 10 = .ok (.lconst 0, 1) := by decide +kernel
theorem d_M_featureOf_11 : decode mi_M_featureOf.2.1 11 = .ok (.ldc2_w 286, 3) := by decide +kernel
theorem d_M_featureOf_14 : decode mi_M_featureOf.2.1 14 = .ok (.invokestatic 68, 3) := by decide +kernel
theorem d_M_featureOf_17 : decode mi_M_featureOf.2.1 17 = .ok (.ifCond .ne 10, 3) := by decide +kernel
theorem d_M_featureOf_20 : decode mi_M_featureOf.2.1 20 = .ok (.aload_n 0, 1) := by decide +kernel
theorem d_M_featureOf_21 : decode mi_M_featureOf.2.1 21 = .ok (.bipush (-32), 2) := by decide +kernel
theorem d_M_featureOf_23 : decode mi_M_featureOf.2.1 23 = .ok (.invokevirtual 106, 3) := by decide +kernel
theorem d_M_featureOf_26 : decode mi_M_featureOf.2.1 26 = .ok (.ireturn, 1) := by decide +kernel
theorem d_M_featureOf_27 : decode mi_M_featureOf.2.1 27 = .ok (.iload_n 2, 1) := by decide +kernel
theorem d_M_featureOf_28 : decode mi_M_featureOf.2.1 28 = .ok (.bipush 8, 2) := by decide +kernel
theorem d_M_featureOf_30 : decode mi_M_featureOf.2.1 30 = .ok (.if_icmp .ne 35, 3) := by decide +kernel
theorem d_M_featureOf_33 : decode mi_M_featureOf.2.1 33 = .ok (.aload_n 0, 1) := by decide +kernel
theorem d_M_featureOf_34 : decode mi_M_featureOf.2.1 34 = .ok (.iload_n 1, 1) := by decide +kernel
theorem d_M_featureOf_35 : decode mi_M_featureOf.2.1 35 = .ok (.bipush 7, 2) := by decide +kernel
theorem d_M_featureOf_37 : decode mi_M_featureOf.2.1 37 = .ok (.invokevirtual 76, 3) := by decide +kernel
theorem d_M_featureOf_40 : decode mi_M_featureOf.2.1 40 = .ok (.ifCond .ge 7, 3) := by decide +kernel
theorem d_M_featureOf_43 : decode mi_M_featureOf.2.1 43 = .ok (.iconst 0, 1) := by decide +kernel
theorem d_M_featureOf_44 : decode mi_M_featureOf.2.1 44 = .ok (.goto 20, 3) := by decide +kernel
theorem d_M_featureOf_47 : decode mi_M_featureOf.2.1 47 = .ok (.aload_n 0, 1) := by decide +kernel
theorem d_M_featureOf_48 : decode mi_M_featureOf.2.1 48 = .ok (.iload_n 1, 1) := by decide +kernel
theorem d_M_featureOf_49 : decode mi_M_featureOf.2.1 49 = .ok (.bipush 9, 2) := by decide +kernel
theorem d_M_featureOf_51 : decode mi_M_featureOf.2.1 51 = .ok (.invokevirtual 76, 3) := by decide +kernel
theorem d_M_featureOf_54 : decode mi_M_featureOf.2.1 54 = .ok (.aload_n 0, 1) := by decide +kernel
theorem d_M_featureOf_55 : decode mi_M_featureOf.2.1 55 = .ok (.iload_n 1, 1) := by decide +kernel
theorem d_M_featureOf_56 : decode mi_M_featureOf.2.1 56 = .ok (.bipush 8, 2) := by decide +kernel
theorem d_M_featureOf_58 : decode mi_M_featureOf.2.1 58 = .ok (.invokevirtual 76, 3) := by decide +kernel
theorem d_M_featureOf_61 : decode mi_M_featureOf.2.1 61 = .ok (.isub, 1) := by decide +kernel
theorem d_M_featureOf_62 : decode mi_M_featureOf.2.1 62 = .ok (.iconst 1, 1) := by decide +kernel
theorem d_M_featureOf_63 : decode mi_M_featureOf.2.1 63 = .ok (.iadd, 1) := by decide +kernel
theorem d_M_featureOf_64 : decode mi_M_featureOf.2.1 64 = .ok (.ireturn, 1) := by decide +kernel
theorem d_M_featureOf_65 : decode mi_M_featureOf.2.1 65 = .ok (.iload_n 2, 1) := by decide +kernel
theorem d_M_featureOf_66 : decode mi_M_featureOf.2.1 66 = .ok (.bipush 9, 2) := by decide +kernel
theorem d_M_featureOf_68 : decode mi_M_featureOf.2.1 68 = .ok (.if_icmp .ne 11, 3) := by decide +kernel
theorem d_M_featureOf_71 : decode mi_M_featureOf.2.1 71 = .ok (.aload_n 0, 1) := by decide +kernel
theorem d_M_featureOf_72 : decode mi_M_featureOf.2.1 72 = .ok (.iload_n 1, 1) := by decide +kernel
theorem d_M_featureOf_73 : decode mi_M_featureOf.2.1 73 = .ok (.invokevirtual 260, 3) := by decide +kernel
theorem d_M_featureOf_76 : decode mi_M_featureOf.2.1 76 = .ok (.goto 9, 3) := by decide +kernel
theorem d_M_featureOf_79 : decode mi_M_featureOf.2.1 79 = .ok (.aload_n 0, 1) := by decide +kernel
theorem d_M_featureOf_80 : decode mi_M_featureOf.2.1 80 = .ok (.iload_n 1, 1) := by decide +kernel
theorem d_M_featureOf_81 : decode mi_M_featureOf.2.1 81 = .ok (.iload_n 2, 1) := by decide +kernel
theorem d_M_featureOf_82 : decode mi_M_featureOf.2.1 82 = .ok (.invokevirtual 76, 3) := by decide +kernel
theorem d_M_featureOf_85 : decode mi_M_featureOf.2.1 85 = .ok (.ireturn, 1) := by decide +kernel
theorem d_M_row_0 : decode mi_M_row.2.1 0 = .ok (.iload_n 1, 1) := by decide +kernel
theorem d_M_row_1 : decode mi_M_row.2.1 1 = .ok (.invokestatic 288, 3) := by decide +kernel
theorem d_M_row_4 : decode mi_M_row.2.1 4 = .ok (.ifCond .eq 27, 3) := by decide +kernel
theorem d_M_row_7 : decode mi_M_row.2.1 7 = .ok (.iload_n 2, 1) := by decide +kernel
theorem d_M_row_8 : decode mi_M_row.2.1 8 = .ok (.i2l, 1) := by decide +kernel
theorem d_M_row_9 : decode mi_M_row.2.1 9 = .ok (.lconst 0, 1) := by decide +kernel
theorem d_M_row_10 : decode mi_M_row.2.1 10 = .ok (.ldc2_w 291, 3) := by decide +kernel
theorem d_M_row_13 : decode mi_M_row.2.1 13 = .ok (.invokestatic 68, 3) := by decide +kernel
theorem d_M_row_16 : decode mi_M_row.2.1 16 = .ok (.ifCond .eq 15, 3) := by decide +kernel
theorem d_M_row_19 : decode mi_M_row.2.1 19 = .ok (.iload_n 3, 1) := by decide +kernel
theorem d_M_row_20 : decode mi_M_row.2.1 20 = .ok (.i2l, 1) := by decide +kernel
theorem d_M_row_21 : decode mi_M_row.2.1 21 = .ok (.lconst 0, 1) := by decide +kernel
theorem d_M_row_22 : decode mi_M_row.2.1 22 = .ok (.ldc2_w 293, 3) := by decide +kernel
theorem d_M_row_25 : decode mi_M_row.2.1 25 = .ok (.invokestatic 68, 3) := by decide +kernel
theorem d_M_row_28 : decode mi_M_row.2.1 28 = .ok (.ifCond .ne 10, 3) := by decide +kernel
theorem d_M_row_31 : decode mi_M_row.2.1 31 = .ok (.aload_n 0, 1) := by decide +kernel
theorem d_M_row_32 : decode mi_M_row.2.1 32 = .ok (.bipush (-32), 2) := by decide +kernel
theorem d_M_row_34 : decode mi_M_row.2.1 34 = .ok (.invokevirtual 106, 3) := by decide +kernel
theorem d_M_row_37 : decode mi_M_row.2.1 37 = .ok (.ireturn, 1) := by decide +kernel
theorem d_M_row_38 : decode mi_M_row.2.1 38 = .ok (.aload_n 0, 1) := by decide +kernel
theorem d_M_row_39 : decode mi_M_row.2.1 39 = .ok (.getfield 55, 3) := by decide +kernel
theorem d_M_row_42 : decode mi_M_row.2.1 42 = .ok (.iload_n 1, 1) := by decide +kernel
theorem d_M_row_43 : decode mi_M_row.2.1 43 = .ok (.iload_n 2, 1) := by decide +kernel
theorem d_M_row_44 : decode mi_M_row.2.1 44 = .ok (.iastore, 1) := by decide +kernel
theorem d_M_row_45 : decode mi_M_row.2.1 45 = .ok (.aload_n 0, 1) := by decide +kernel
theorem d_M_row_46 : decode mi_M_row.2.1 46 = .ok (.getfield 58, 3) := by decide +kernel
theorem d_M_row_49 : decode mi_M_row.2.1 49 = .ok (.iload_n 1, 1) := by decide +kernel
theorem d_M_row_50 : decode mi_M_row.2.1 50 = .ok (.iload_n 3, 1) := by decide +kernel
theorem d_M_row_51 : decode mi_M_row.2.1 51 = .ok (.iastore, 1) := by decide +kernel
theorem d_M_row_52 : decode mi_M_row.2.1 52 = .ok (.iconst 0, 1) := by decide +kernel
theorem d_M_row_53 : decode mi_M_row.2.1 53 = .ok (.istore 4, 2) := by decide +kernel
theorem d_M_row_55 : decode mi_M_row.2.1 55 = .ok (.iload 4, 2) := by decide +kernel
theorem d_M_row_57 : decode mi_M_row.2.1 57 = .ok (.bipush 40, 2) := by decide +kernel
theorem d_M_row_59 : decode mi_M_row.2.1 59 = .ok (.if_icmp .ge 22, 3) := by decide +kernel
theorem d_M_row_62 : decode mi_M_row.2.1 62 = .ok (.aload_n 0, 1) := by decide +kernel
theorem d_M_row_63 : decode mi_M_row.2.1 63 = .ok (.getfield 61, 3) := by decide +kernel
theorem d_M_row_66 : decode mi_M_row.2.1 66 = .ok (.bipush 40, 2) := by decide +kernel
theorem d_M_row_68 : decode mi_M_row.2.1 68 = .ok (.iload_n 1, 1) := by decide +kernel
theorem d_M_row_69 : decode mi_M_row.2.1 69 = .ok (.imul, 1) := by decide +kernel
theorem d_M_row_70 : decode mi_M_row.2.1 70 = .ok (.iload 4, 2) := by decide +kernel
theorem d_M_row_72 : decode mi_M_row.2.1 72 = .ok (.iadd, 1) := by decide +kernel
theorem d_M_row_73 : decode mi_M_row.2.1 73 = .ok (.lconst 0, 1) := by decide +kernel
theorem d_M_row_74 : decode mi_M_row.2.1 74 = .ok (.lastore, 1) := by decide +kernel
theorem d_M_row_75 : decode mi_M_row.2.1 75 = .ok (.iinc 4 1, 3) := by decide +kernel
theorem d_M_row_78 : decode mi_M_row.2.1 78 = .ok (.goto (-23), 3) := by decide +kernel
theorem d_M_row_81 : decode mi_M_row.2.1 81 = .ok (.iconst 1, 1) := by decide +kernel
theorem d_M_row_82 : decode mi_M_row.2.1 82 = .ok (.ireturn, 1) := by decide +kernel
theorem d_M_isShelf_0 : decode mi_M_isShelf.2.1 0 = .ok (.iload_n 0, 1) := by decide +kernel
theorem d_M_isShelf_1 : decode mi_M_isShelf.2.1 1 = .ok (.i2l, 1) := by decide +kernel
theorem d_M_isShelf_2 : decode mi_M_isShelf.2.1 2 = .ok (.lconst 0, 1) := by decide +kernel
theorem d_M_isShelf_3 : decode mi_M_isShelf.2.1 3 = .ok (.ldc2_w 253, 3) := by decide +kernel
theorem d_M_isShelf_6 : decode mi_M_isShelf.2.1 6 = .ok (.invokestatic 68, 3) := by decide +kernel
theorem d_M_isShelf_9 : decode mi_M_isShelf.2.1 9 = .ok (.ireturn, 1) := by decide +kernel
theorem d_M_set_0 : decode mi_M_set.2.1 0 = .ok (.iload_n 1, 1) := by decide +kernel
theorem d_M_set_1 : decode mi_M_set.2.1 1 = .ok (.invokestatic 288, 3) := by decide +kernel
theorem d_M_set_4 : decode mi_M_set.2.1 4 = .ok (.ifCond .ne 10, 3) := by decide +kernel
theorem d_M_set_7 : decode mi_M_set.2.1 7 = .ok (.aload_n 0, 1) := by decide +kernel
theorem d_M_set_8 : decode mi_M_set.2.1 8 = .ok (.bipush (-32), 2) := by decide +kernel
theorem d_M_set_10 : decode mi_M_set.2.1 10 = .ok (.invokevirtual 106, 3) := by decide +kernel
theorem d_M_set_13 : decode mi_M_set.2.1 13 = .ok (.ireturn, 1) := by decide +kernel
theorem d_M_set_14 : decode mi_M_set.2.1 14 = .ok (.aload_n 0, 1) := by decide +kernel
theorem d_M_set_15 : decode mi_M_set.2.1 15 = .ok (.getfield 55, 3) := by decide +kernel
theorem d_M_set_18 : decode mi_M_set.2.1 18 = .ok (.iload_n 1, 1) := by decide +kernel
theorem d_M_set_19 : decode mi_M_set.2.1 19 = .ok (.iaload, 1) := by decide +kernel
theorem d_M_set_20 : decode mi_M_set.2.1 20 = .ok (.iconst 4, 1) := by decide +kernel
theorem d_M_set_21 : decode mi_M_set.2.1 21 = .ok (.if_icmp .le 10, 3) := by decide +kernel
theorem d_M_set_24 : decode mi_M_set.2.1 24 = .ok (.aload_n 0, 1) := by decide +kernel
theorem d_M_set_25 : decode mi_M_set.2.1 25 = .ok (.bipush (-33), 2) := by decide +kernel
theorem d_M_set_27 : decode mi_M_set.2.1 27 = .ok (.invokevirtual 106, 3) := by decide +kernel
theorem d_M_set_30 : decode mi_M_set.2.1 30 = .ok (.ireturn, 1) := by decide +kernel
theorem d_M_set_31 : decode mi_M_set.2.1 31 = .ok (.aload_n 0, 1) := by decide +kernel
theorem d_M_set_32 : decode mi_M_set.2.1 32 = .ok (.getfield 55, 3) := by decide +kernel
theorem d_M_set_35 : decode mi_M_set.2.1 35 = .ok (.iload_n 1, 1) := by decide +kernel
theorem d_M_set_36 : decode mi_M_set.2.1 36 = .ok (.iaload, 1) := by decide +kernel
theorem d_M_set_37 : decode mi_M_set.2.1 37 = .ok (.ifCond .ge 10, 3) := by decide +kernel
theorem d_M_set_40 : decode mi_M_set.2.1 40 = .ok (.aload_n 0, 1) := by decide +kernel
theorem d_M_set_41 : decode mi_M_set.2.1 41 = .ok (.bipush (-34), 2) := by decide +kernel
theorem d_M_set_43 : decode mi_M_set.2.1 43 = .ok (.invokevirtual 106, 3) := by decide +kernel
theorem d_M_set_46 : decode mi_M_set.2.1 46 = .ok (.ireturn, 1) := by decide +kernel
theorem d_M_set_47 : decode mi_M_set.2.1 47 = .ok (.iload_n 2, 1) := by decide +kernel
theorem d_M_set_48 : decode mi_M_set.2.1 48 = .ok (.i2l, 1) := by decide +kernel
theorem d_M_set_49 : decode mi_M_set.2.1 49 = .ok (.lconst 0, 1) := by decide +kernel
theorem d_M_set_50 : decode mi_M_set.2.1 50 = .ok (.aload_n 0, 1) := by decide +kernel
theorem d_M_set_51 : decode mi_M_set.2.1 51 = .ok (.getfield 58, 3) := by decide +kernel
theorem d_M_set_54 : decode mi_M_set.2.1 54 = .ok (.iload_n 1, 1) := by decide +kernel
theorem d_M_set_55 : decode mi_M_set.2.1 55 = .ok (.iaload, 1) := by decide +kernel
theorem d_M_set_56 : decode mi_M_set.2.1 56 = .ok (.iconst 1, 1) := by decide +kernel
theorem d_M_set_57 : decode mi_M_set.2.1 57 = .ok (.isub, 1) := by decide +kernel
theorem d_M_set_58 : decode mi_M_set.2.1 58 = .ok (.i2l, 1) := by decide +kernel
theorem d_M_set_59 : decode mi_M_set.2.1 59 = .ok (.invokestatic 68, 3) := by decide +kernel
theorem d_M_set_62 : decode mi_M_set.2.1 62 = .ok (.ifCond .ne 10, 3) := by decide +kernel
theorem d_M_set_65 : decode mi_M_set.2.1 65 = .ok (.aload_n 0, 1) := by decide +kernel
theorem d_M_set_66 : decode mi_M_set.2.1 66 = .ok (.bipush (-32), 2) := by decide +kernel
theorem d_M_set_68 : decode mi_M_set.2.1 68 = .ok (.invokevirtual 106, 3) := by decide +kernel
theorem d_M_set_71 : decode mi_M_set.2.1 71 = .ok (.ireturn, 1) := by decide +kernel
theorem d_M_set_72 : decode mi_M_set.2.1 72 = .ok (.aload_n 0, 1) := by decide +kernel
theorem d_M_set_73 : decode mi_M_set.2.1 73 = .ok (.getfield 61, 3) := by decide +kernel
theorem d_M_set_76 : decode mi_M_set.2.1 76 = .ok (.bipush 40, 2) := by decide +kernel
theorem d_M_set_78 : decode mi_M_set.2.1 78 = .ok (.iload_n 1, 1) := by decide +kernel
theorem d_M_set_79 : decode mi_M_set.2.1 79 = .ok (.imul, 1) := by decide +kernel
theorem d_M_set_80 : decode mi_M_set.2.1 80 = .ok (.iload_n 2, 1) := by decide +kernel
theorem d_M_set_81 : decode mi_M_set.2.1 81 = .ok (.iadd, 1) := by decide +kernel
theorem d_M_set_82 : decode mi_M_set.2.1 82 = .ok (.aload_n 0, 1) := by decide +kernel
theorem d_M_set_83 : decode mi_M_set.2.1 83 = .ok (.getfield 55, 3) := by decide +kernel
theorem d_M_set_86 : decode mi_M_set.2.1 86 = .ok (.iload_n 1, 1) := by decide +kernel
theorem d_M_set_87 : decode mi_M_set.2.1 87 = .ok (.iaload, 1) := by decide +kernel
theorem d_M_set_88 : decode mi_M_set.2.1 88 = .ok (.lload_n 3, 1) := by decide +kernel
theorem d_M_set_89 : decode mi_M_set.2.1 89 = .ok (.invokestatic 295, 3) := by decide +kernel
theorem d_M_set_92 : decode mi_M_set.2.1 92 = .ok (.lastore, 1) := by decide +kernel
theorem d_M_set_93 : decode mi_M_set.2.1 93 = .ok (.iconst 1, 1) := by decide +kernel
theorem d_M_set_94 : decode mi_M_set.2.1 94 = .ok (.ireturn, 1) := by decide +kernel
theorem d_M_lowest_0 : decode mi_M_lowest.2.1 0 = .ok (.iload_n 0, 1) := by decide +kernel
theorem d_M_lowest_1 : decode mi_M_lowest.2.1 1 = .ok (.tableswitch 47 0 3 #[31, 36, 41, 45], 31) := by decide +kernel
theorem d_M_lowest_32 : decode mi_M_lowest.2.1 32 = .ok (.lload_n 1, 1) := by decide +kernel
theorem d_M_lowest_33 : decode mi_M_lowest.2.1 33 = .ok (.l2i, 1) := by decide +kernel
theorem d_M_lowest_34 : decode mi_M_lowest.2.1 34 = .ok (.i2b, 1) := by decide +kernel
theorem d_M_lowest_35 : decode mi_M_lowest.2.1 35 = .ok (.i2l, 1) := by decide +kernel
theorem d_M_lowest_36 : decode mi_M_lowest.2.1 36 = .ok (.lreturn, 1) := by decide +kernel
theorem d_M_lowest_37 : decode mi_M_lowest.2.1 37 = .ok (.lload_n 1, 1) := by decide +kernel
theorem d_M_lowest_38 : decode mi_M_lowest.2.1 38 = .ok (.l2i, 1) := by decide +kernel
theorem d_M_lowest_39 : decode mi_M_lowest.2.1 39 = .ok (.i2s, 1) := by decide +kernel
theorem d_M_lowest_40 : decode mi_M_lowest.2.1 40 = .ok (.i2l, 1) := by decide +kernel
theorem d_M_lowest_41 : decode mi_M_lowest.2.1 41 = .ok (.lreturn, 1) := by decide +kernel
theorem d_M_lowest_42 : decode mi_M_lowest.2.1 42 = .ok (.lload_n 1, 1) := by decide +kernel
theorem d_M_lowest_43 : decode mi_M_lowest.2.1 43 = .ok (.l2i, 1) := by decide +kernel
theorem d_M_lowest_44 : decode mi_M_lowest.2.1 44 = .ok (.i2l, 1) := by decide +kernel
theorem d_M_lowest_45 : decode mi_M_lowest.2.1 45 = .ok (.lreturn, 1) := by decide +kernel
theorem d_M_lowest_46 : decode mi_M_lowest.2.1 46 = .ok (.lload_n 1, 1) := by decide +kernel
theorem d_M_lowest_47 : decode mi_M_lowest.2.1 47 = .ok (.lreturn, 1) := by decide +kernel
theorem d_M_lowest_48 : decode mi_M_lowest.2.1 48 = .ok (.lload_n 1, 1) := by decide +kernel
theorem d_M_lowest_49 : decode mi_M_lowest.2.1 49 = .ok (.lconst 0, 1) := by decide +kernel
theorem d_M_lowest_50 : decode mi_M_lowest.2.1 50 = .ok (.lcmp, 1) := by decide +kernel
theorem d_M_lowest_51 : decode mi_M_lowest.2.1 51 = .ok (.ifCond .ne 7, 3) := by decide +kernel
theorem d_M_lowest_54 : decode mi_M_lowest.2.1 54 = .ok (.lconst 0, 1) := by decide +kernel
theorem d_M_lowest_55 : decode mi_M_lowest.2.1 55 = .ok (.goto 4, 3) := by decide +kernel
theorem d_M_lowest_58 : decode mi_M_lowest.2.1 58 = .ok (.lconst 1, 1) := by decide +kernel
theorem d_M_lowest_59 : decode mi_M_lowest.2.1 59 = .ok (.lreturn, 1) := by decide +kernel
theorem d_M_copy_0 : decode mi_M_copy.2.1 0 = .ok (.iload_n 1, 1) := by decide +kernel
theorem d_M_copy_1 : decode mi_M_copy.2.1 1 = .ok (.invokestatic 288, 3) := by decide +kernel
theorem d_M_copy_4 : decode mi_M_copy.2.1 4 = .ok (.ifCond .eq 10, 3) := by decide +kernel
theorem d_M_copy_7 : decode mi_M_copy.2.1 7 = .ok (.iload_n 2, 1) := by decide +kernel
theorem d_M_copy_8 : decode mi_M_copy.2.1 8 = .ok (.invokestatic 288, 3) := by decide +kernel
theorem d_M_copy_11 : decode mi_M_copy.2.1 11 = .ok (.ifCond .ne 10, 3) := by decide +kernel
theorem d_M_copy_14 : decode mi_M_copy.2.1 14 = .ok (.aload_n 0, 1) := by decide +kernel
theorem d_M_copy_15 : decode mi_M_copy.2.1 15 = .ok (.bipush (-32), 2) := by decide +kernel
theorem d_M_copy_17 : decode mi_M_copy.2.1 17 = .ok (.invokevirtual 106, 3) := by decide +kernel
theorem d_M_copy_20 : decode mi_M_copy.2.1 20 = .ok (.ireturn, 1) := by decide +kernel
theorem d_M_copy_21 : decode mi_M_copy.2.1 21 = .ok (.aload_n 0, 1) := by decide +kernel
theorem d_M_copy_22 : decode mi_M_copy.2.1 22 = .ok (.getfield 55, 3) := by decide +kernel
theorem d_M_copy_25 : decode mi_M_copy.2.1 25 = .ok (.iload_n 1, 1) := by decide +kernel
theorem d_M_copy_26 : decode mi_M_copy.2.1 26 = .ok (.iaload, 1) := by decide +kernel
theorem d_M_copy_27 : decode mi_M_copy.2.1 27 = .ok (.iconst 4, 1) := by decide +kernel
theorem d_M_copy_28 : decode mi_M_copy.2.1 28 = .ok (.if_icmp .gt 46, 3) := by decide +kernel
theorem d_M_copy_31 : decode mi_M_copy.2.1 31 = .ok (.aload_n 0, 1) := by decide +kernel
theorem d_M_copy_32 : decode mi_M_copy.2.1 32 = .ok (.getfield 55, 3) := by decide +kernel
theorem d_M_copy_35 : decode mi_M_copy.2.1 35 = .ok (.iload_n 2, 1) := by decide +kernel
theorem d_M_copy_36 : decode mi_M_copy.2.1 36 = .ok (.iaload, 1) := by decide +kernel
theorem d_M_copy_37 : decode mi_M_copy.2.1 37 = .ok (.iconst 4, 1) := by decide +kernel
theorem d_M_copy_38 : decode mi_M_copy.2.1 38 = .ok (.if_icmp .gt 36, 3) := by decide +kernel
theorem d_M_copy_41 : decode mi_M_copy.2.1 41 = .ok (.aload_n 0, 1) := by decide +kernel
theorem d_M_copy_42 : decode mi_M_copy.2.1 42 = .ok (.getfield 55, 3) := by decide +kernel
theorem d_M_copy_45 : decode mi_M_copy.2.1 45 = .ok (.iload_n 1, 1) := by decide +kernel
theorem d_M_copy_46 : decode mi_M_copy.2.1 46 = .ok (.iaload, 1) := by decide +kernel
theorem d_M_copy_47 : decode mi_M_copy.2.1 47 = .ok (.ifCond .lt 34, 3) := by decide +kernel
theorem d_M_copy_50 : decode mi_M_copy.2.1 50 = .ok (.aload_n 0, 1) := by decide +kernel
theorem d_M_copy_51 : decode mi_M_copy.2.1 51 = .ok (.getfield 55, 3) := by decide +kernel
theorem d_M_copy_54 : decode mi_M_copy.2.1 54 = .ok (.iload_n 2, 1) := by decide +kernel
theorem d_M_copy_55 : decode mi_M_copy.2.1 55 = .ok (.iaload, 1) := by decide +kernel
theorem d_M_copy_56 : decode mi_M_copy.2.1 56 = .ok (.ifCond .lt 25, 3) := by decide +kernel
theorem d_M_copy_59 : decode mi_M_copy.2.1 59 = .ok (.aload_n 0, 1) := by decide +kernel
theorem d_M_copy_60 : decode mi_M_copy.2.1 60 = .ok (.getfield 55, 3) := by decide +kernel
theorem d_M_copy_63 : decode mi_M_copy.2.1 63 = .ok (.iload_n 1, 1) := by decide +kernel
theorem d_M_copy_64 : decode mi_M_copy.2.1 64 = .ok (.iaload, 1) := by decide +kernel
theorem d_M_copy_65 : decode mi_M_copy.2.1 65 = .ok (.aload_n 0, 1) := by decide +kernel
theorem d_M_copy_66 : decode mi_M_copy.2.1 66 = .ok (.getfield 55, 3) := by decide +kernel
theorem d_M_copy_69 : decode mi_M_copy.2.1 69 = .ok (.iload_n 2, 1) := by decide +kernel
theorem d_M_copy_70 : decode mi_M_copy.2.1 70 = .ok (.iaload, 1) := by decide +kernel
theorem d_M_copy_71 : decode mi_M_copy.2.1 71 = .ok (.if_icmp .eq 10, 3) := by decide +kernel
theorem d_M_copy_74 : decode mi_M_copy.2.1 74 = .ok (.aload_n 0, 1) := by decide +kernel
theorem d_M_copy_75 : decode mi_M_copy.2.1 75 = .ok (.bipush (-33), 2) := by decide +kernel
theorem d_M_copy_77 : decode mi_M_copy.2.1 77 = .ok (.invokevirtual 106, 3) := by decide +kernel
theorem d_M_copy_80 : decode mi_M_copy.2.1 80 = .ok (.ireturn, 1) := by decide +kernel
theorem d_M_copy_81 : decode mi_M_copy.2.1 81 = .ok (.aload_n 0, 1) := by decide +kernel
theorem d_M_copy_82 : decode mi_M_copy.2.1 82 = .ok (.getfield 55, 3) := by decide +kernel
theorem d_M_copy_85 : decode mi_M_copy.2.1 85 = .ok (.iload_n 1, 1) := by decide +kernel
theorem d_M_copy_86 : decode mi_M_copy.2.1 86 = .ok (.iaload, 1) := by decide +kernel
theorem d_M_copy_87 : decode mi_M_copy.2.1 87 = .ok (.ifCond .lt 12, 3) := by decide +kernel
theorem d_M_copy_90 : decode mi_M_copy.2.1 90 = .ok (.aload_n 0, 1) := by decide +kernel
theorem d_M_copy_91 : decode mi_M_copy.2.1 91 = .ok (.getfield 55, 3) := by decide +kernel
theorem d_M_copy_94 : decode mi_M_copy.2.1 94 = .ok (.iload_n 2, 1) := by decide +kernel
theorem d_M_copy_95 : decode mi_M_copy.2.1 95 = .ok (.iaload, 1) := by decide +kernel
theorem d_M_copy_96 : decode mi_M_copy.2.1 96 = .ok (.ifCond .ge 10, 3) := by decide +kernel
theorem d_M_copy_99 : decode mi_M_copy.2.1 99 = .ok (.aload_n 0, 1) := by decide +kernel
theorem d_M_copy_100 : decode mi_M_copy.2.1 100 = .ok (.bipush (-34), 2) := by decide +kernel
theorem d_M_copy_102 : decode mi_M_copy.2.1 102 = .ok (.invokevirtual 106, 3) := by decide +kernel
theorem d_M_copy_105 : decode mi_M_copy.2.1 105 = .ok (.ireturn, 1) := by decide +kernel
theorem d_M_copy_106 : decode mi_M_copy.2.1 106 = .ok (.iload_n 3, 1) := by decide +kernel
theorem d_M_copy_107 : decode mi_M_copy.2.1 107 = .ok (.ifCond .lt 61, 3) := by decide +kernel
theorem d_M_copy_110 : decode mi_M_copy.2.1 110 = .ok (.iload 4, 2) := by decide +kernel
theorem d_M_copy_112 : decode mi_M_copy.2.1 112 = .ok (.ifCond .lt 56, 3) := by decide +kernel
theorem d_M_copy_115 : decode mi_M_copy.2.1 115 = .ok (.iload 5, 2) := by decide +kernel
theorem d_M_copy_117 : decode mi_M_copy.2.1 117 = .ok (.ifCond .lt 51, 3) := by decide +kernel
theorem d_M_copy_120 : decode mi_M_copy.2.1 120 = .ok (.iload_n 3, 1) := by decide +kernel
theorem d_M_copy_121 : decode mi_M_copy.2.1 121 = .ok (.aload_n 0, 1) := by decide +kernel
theorem d_M_copy_122 : decode mi_M_copy.2.1 122 = .ok (.getfield 58, 3) := by decide +kernel
theorem d_M_copy_125 : decode mi_M_copy.2.1 125 = .ok (.iload_n 1, 1) := by decide +kernel
theorem d_M_copy_126 : decode mi_M_copy.2.1 126 = .ok (.iaload, 1) := by decide +kernel
theorem d_M_copy_127 : decode mi_M_copy.2.1 127 = .ok (.if_icmp .gt 41, 3) := by decide +kernel
theorem d_M_copy_130 : decode mi_M_copy.2.1 130 = .ok (.iload 4, 2) := by decide +kernel
theorem d_M_copy_132 : decode mi_M_copy.2.1 132 = .ok (.aload_n 0, 1) := by decide +kernel
theorem d_M_copy_133 : decode mi_M_copy.2.1 133 = .ok (.getfield 58, 3) := by decide +kernel
theorem d_M_copy_136 : decode mi_M_copy.2.1 136 = .ok (.iload_n 2, 1) := by decide +kernel
theorem d_M_copy_137 : decode mi_M_copy.2.1 137 = .ok (.iaload, 1) := by decide +kernel
theorem d_M_copy_138 : decode mi_M_copy.2.1 138 = .ok (.if_icmp .gt 30, 3) := by decide +kernel
theorem d_M_copy_141 : decode mi_M_copy.2.1 141 = .ok (.iload 5, 2) := by decide +kernel
theorem d_M_copy_143 : decode mi_M_copy.2.1 143 = .ok (.aload_n 0, 1) := by decide +kernel
theorem d_M_copy_144 : decode mi_M_copy.2.1 144 = .ok (.getfield 58, 3) := by decide +kernel
theorem d_M_copy_147 : decode mi_M_copy.2.1 147 = .ok (.iload_n 1, 1) := by decide +kernel
theorem d_M_copy_148 : decode mi_M_copy.2.1 148 = .ok (.iaload, 1) := by decide +kernel
theorem d_M_copy_149 : decode mi_M_copy.2.1 149 = .ok (.iload_n 3, 1) := by decide +kernel
theorem d_M_copy_150 : decode mi_M_copy.2.1 150 = .ok (.isub, 1) := by decide +kernel
theorem d_M_copy_151 : decode mi_M_copy.2.1 151 = .ok (.if_icmp .gt 17, 3) := by decide +kernel
theorem d_M_copy_154 : decode mi_M_copy.2.1 154 = .ok (.iload 5, 2) := by decide +kernel
theorem d_M_copy_156 : decode mi_M_copy.2.1 156 = .ok (.aload_n 0, 1) := by decide +kernel
theorem d_M_copy_157 : decode mi_M_copy.2.1 157 = .ok (.getfield 58, 3) := by decide +kernel
theorem d_M_copy_160 : decode mi_M_copy.2.1 160 = .ok (.iload_n 2, 1) := by decide +kernel
theorem d_M_copy_161 : decode mi_M_copy.2.1 161 = .ok (.iaload, 1) := by decide +kernel
theorem d_M_copy_162 : decode mi_M_copy.2.1 162 = .ok (.iload 4, 2) := by decide +kernel
theorem d_M_copy_164 : decode mi_M_copy.2.1 164 = .ok (.isub, 1) := by decide +kernel
theorem d_M_copy_165 : decode mi_M_copy.2.1 165 = .ok (.if_icmp .le 10, 3) := by decide +kernel
theorem d_M_copy_168 : decode mi_M_copy.2.1 168 = .ok (.aload_n 0, 1) := by decide +kernel
theorem d_M_copy_169 : decode mi_M_copy.2.1 169 = .ok (.bipush (-32), 2) := by decide +kernel
theorem d_M_copy_171 : decode mi_M_copy.2.1 171 = .ok (.invokevirtual 106, 3) := by decide +kernel
theorem d_M_copy_174 : decode mi_M_copy.2.1 174 = .ok (.ireturn, 1) := by decide +kernel
theorem d_M_copy_175 : decode mi_M_copy.2.1 175 = .ok (.iconst 0, 1) := by decide +kernel
theorem d_M_copy_176 : decode mi_M_copy.2.1 176 = .ok (.istore 6, 2) := by decide +kernel
theorem d_M_copy_178 : decode mi_M_copy.2.1 178 = .ok (.iload 6, 2) := by decide +kernel
theorem d_M_copy_180 : decode mi_M_copy.2.1 180 = .ok (.iload 5, 2) := by decide +kernel
theorem d_M_copy_182 : decode mi_M_copy.2.1 182 = .ok (.if_icmp .ge 58, 3) := by decide +kernel
theorem d_M_copy_185 : decode mi_M_copy.2.1 185 = .ok (.iload_n 3, 1) := by decide +kernel
theorem d_M_copy_186 : decode mi_M_copy.2.1 186 = .ok (.iload 4, 2) := by decide +kernel
theorem d_M_copy_188 : decode mi_M_copy.2.1 188 = .ok (.if_icmp .ge 13, 3) := by decide +kernel
theorem d_M_copy_191 : decode mi_M_copy.2.1 191 = .ok (.iload 5, 2) := by decide +kernel
theorem d_M_copy_193 : decode mi_M_copy.2.1 193 = .ok (.iconst 1, 1) := by decide +kernel
theorem d_M_copy_194 : decode mi_M_copy.2.1 194 = .ok (.isub, 1) := by decide +kernel
theorem d_M_copy_195 : decode mi_M_copy.2.1 195 = .ok (.iload 6, 2) := by decide +kernel
theorem d_M_copy_197 : decode mi_M_copy.2.1 197 = .ok (.isub, 1) := by decide +kernel
theorem d_M_copy_198 : decode mi_M_copy.2.1 198 = .ok (.goto 5, 3) := by decide +kernel
theorem d_M_copy_201 : decode mi_M_copy.2.1 201 = .ok (.iload 6, 2) := by decide +kernel
theorem d_M_copy_203 : decode mi_M_copy.2.1 203 = .ok (.istore 7, 2) := by decide +kernel
theorem d_M_copy_205 : decode mi_M_copy.2.1 205 = .ok (.aload_n 0, 1) := by decide +kernel
theorem d_M_copy_206 : decode mi_M_copy.2.1 206 = .ok (.getfield 61, 3) := by decide +kernel
theorem d_M_copy_209 : decode mi_M_copy.2.1 209 = .ok (.bipush 40, 2) := by decide +kernel
theorem d_M_copy_211 : decode mi_M_copy.2.1 211 = .ok (.iload_n 2, 1) := by decide +kernel
theorem d_M_copy_212 : decode mi_M_copy.2.1 212 = .ok (.imul, 1) := by decide +kernel
theorem d_M_copy_213 : decode mi_M_copy.2.1 213 = .ok (.iload 4, 2) := by decide +kernel
theorem d_M_copy_215 : decode mi_M_copy.2.1 215 = .ok (.iadd, 1) := by decide +kernel
theorem d_M_copy_216 : decode mi_M_copy.2.1 216 = .ok (.iload 7, 2) := by decide +kernel
theorem d_M_copy_218 : decode mi_M_copy.2.1 218 = .ok (.iadd, 1) := by decide +kernel
theorem d_M_copy_219 : decode mi_M_copy.2.1 219 = .ok (.aload_n 0, 1) := by decide +kernel
theorem d_M_copy_220 : decode mi_M_copy.2.1 220 = .ok (.getfield 61, 3) := by decide +kernel
theorem d_M_copy_223 : decode mi_M_copy.2.1 223 = .ok (.bipush 40, 2) := by decide +kernel
theorem d_M_copy_225 : decode mi_M_copy.2.1 225 = .ok (.iload_n 1, 1) := by decide +kernel
theorem d_M_copy_226 : decode mi_M_copy.2.1 226 = .ok (.imul, 1) := by decide +kernel
theorem d_M_copy_227 : decode mi_M_copy.2.1 227 = .ok (.iload_n 3, 1) := by decide +kernel
theorem d_M_copy_228 : decode mi_M_copy.2.1 228 = .ok (.iadd, 1) := by decide +kernel
theorem d_M_copy_229 : decode mi_M_copy.2.1 229 = .ok (.iload 7, 2) := by decide +kernel
theorem d_M_copy_231 : decode mi_M_copy.2.1 231 = .ok (.iadd, 1) := by decide +kernel
theorem d_M_copy_232 : decode mi_M_copy.2.1 232 = .ok (.laload, 1) := by decide +kernel
theorem d_M_copy_233 : decode mi_M_copy.2.1 233 = .ok (.lastore, 1) := by decide +kernel
theorem d_M_copy_234 : decode mi_M_copy.2.1 234 = .ok (.iinc 6 1, 3) := by decide +kernel
theorem d_M_copy_237 : decode mi_M_copy.2.1 237 = .ok (.goto (-59), 3) := by decide +kernel
theorem d_M_copy_240 : decode mi_M_copy.2.1 240 = .ok (.iload 5, 2) := by decide +kernel
theorem d_M_copy_242 : decode mi_M_copy.2.1 242 = .ok (.ireturn, 1) := by decide +kernel
theorem d_M_element_0 : decode mi_M_element.2.1 0 = .ok (.iload_n 1, 1) := by decide +kernel
theorem d_M_element_1 : decode mi_M_element.2.1 1 = .ok (.invokestatic 288, 3) := by decide +kernel
theorem d_M_element_4 : decode mi_M_element.2.1 4 = .ok (.ifCond .eq 52, 3) := by decide +kernel
theorem d_M_element_7 : decode mi_M_element.2.1 7 = .ok (.aload_n 0, 1) := by decide +kernel
theorem d_M_element_8 : decode mi_M_element.2.1 8 = .ok (.getfield 55, 3) := by decide +kernel
theorem d_M_element_11 : decode mi_M_element.2.1 11 = .ok (.iload_n 1, 1) := by decide +kernel
theorem d_M_element_12 : decode mi_M_element.2.1 12 = .ok (.iaload, 1) := by decide +kernel
theorem d_M_element_13 : decode mi_M_element.2.1 13 = .ok (.i2l, 1) := by decide +kernel
theorem d_M_element_14 : decode mi_M_element.2.1 14 = .ok (.lconst 0, 1) := by decide +kernel
theorem d_M_element_15 : decode mi_M_element.2.1 15 = .ok (.ldc2_w 291, 3) := by decide +kernel
theorem d_M_element_18 : decode mi_M_element.2.1 18 = .ok (.invokestatic 68, 3) := by decide +kernel
theorem d_M_element_21 : decode mi_M_element.2.1 21 = .ok (.ifCond .eq 35, 3) := by decide +kernel
theorem d_M_element_24 : decode mi_M_element.2.1 24 = .ok (.iload_n 2, 1) := by decide +kernel
theorem d_M_element_25 : decode mi_M_element.2.1 25 = .ok (.i2l, 1) := by decide +kernel
theorem d_M_element_26 : decode mi_M_element.2.1 26 = .ok (.lconst 0, 1) := by decide +kernel
theorem d_M_element_27 : decode mi_M_element.2.1 27 = .ok (.aload_n 0, 1) := by decide +kernel
theorem d_M_element_28 : decode mi_M_element.2.1 28 = .ok (.getfield 58, 3) := by decide +kernel
theorem d_M_element_31 : decode mi_M_element.2.1 31 = .ok (.iload_n 1, 1) := by decide +kernel
theorem d_M_element_32 : decode mi_M_element.2.1 32 = .ok (.iaload, 1) := by decide +kernel
theorem d_M_element_33 : decode mi_M_element.2.1 33 = .ok (.iconst 1, 1) := by decide +kernel
theorem d_M_element_34 : decode mi_M_element.2.1 34 = .ok (.isub, 1) := by decide +kernel
theorem d_M_element_35 : decode mi_M_element.2.1 35 = .ok (.i2l, 1) := by decide +kernel
theorem d_M_element_36 : decode mi_M_element.2.1 36 = .ok (.invokestatic 68, 3) := by decide +kernel
theorem d_M_element_39 : decode mi_M_element.2.1 39 = .ok (.ifCond .eq 17, 3) := by decide +kernel
theorem d_M_element_42 : decode mi_M_element.2.1 42 = .ok (.aload_n 0, 1) := by decide +kernel
theorem d_M_element_43 : decode mi_M_element.2.1 43 = .ok (.getfield 61, 3) := by decide +kernel
theorem d_M_element_46 : decode mi_M_element.2.1 46 = .ok (.bipush 40, 2) := by decide +kernel
theorem d_M_element_48 : decode mi_M_element.2.1 48 = .ok (.iload_n 1, 1) := by decide +kernel
theorem d_M_element_49 : decode mi_M_element.2.1 49 = .ok (.imul, 1) := by decide +kernel
theorem d_M_element_50 : decode mi_M_element.2.1 50 = .ok (.iload_n 2, 1) := by decide +kernel
theorem d_M_element_51 : decode mi_M_element.2.1 51 = .ok (.iadd, 1) := by decide +kernel
theorem d_M_element_52 : decode mi_M_element.2.1 52 = .ok (.laload, 1) := by decide +kernel
theorem d_M_element_53 : decode mi_M_element.2.1 53 = .ok (.goto 4, 3) := by decide +kernel
theorem d_M_element_56 : decode mi_M_element.2.1 56 = .ok (.lconst 0, 1) := by decide +kernel
theorem d_M_element_57 : decode mi_M_element.2.1 57 = .ok (.lreturn, 1) := by decide +kernel
theorem d_M_holds_0 : decode mi_M_holds.2.1 0 = .ok (.iload_n 1, 1) := by decide +kernel
theorem d_M_holds_1 : decode mi_M_holds.2.1 1 = .ok (.invokestatic 288, 3) := by decide +kernel
theorem d_M_holds_4 : decode mi_M_holds.2.1 4 = .ok (.ifCond .eq 12, 3) := by decide +kernel
theorem d_M_holds_7 : decode mi_M_holds.2.1 7 = .ok (.aload_n 0, 1) := by decide +kernel
theorem d_M_holds_8 : decode mi_M_holds.2.1 8 = .ok (.getfield 55, 3) := by decide +kernel
theorem d_M_holds_11 : decode mi_M_holds.2.1 11 = .ok (.iload_n 1, 1) := by decide +kernel
theorem d_M_holds_12 : decode mi_M_holds.2.1 12 = .ok (.iaload, 1) := by decide +kernel
theorem d_M_holds_13 : decode mi_M_holds.2.1 13 = .ok (.goto 4, 3) := by decide +kernel
theorem d_M_holds_16 : decode mi_M_holds.2.1 16 = .ok (.iconst (-1), 1) := by decide +kernel
theorem d_M_holds_17 : decode mi_M_holds.2.1 17 = .ok (.ireturn, 1) := by decide +kernel
theorem d_M_show_0 : decode mi_M_show.2.1 0 = .ok (.iload_n 1, 1) := by decide +kernel
theorem d_M_show_1 : decode mi_M_show.2.1 1 = .ok (.invokestatic 288, 3) := by decide +kernel
theorem d_M_show_4 : decode mi_M_show.2.1 4 = .ok (.ifCond .ne 10, 3) := by decide +kernel
theorem d_M_show_7 : decode mi_M_show.2.1 7 = .ok (.aload_n 0, 1) := by decide +kernel
theorem d_M_show_8 : decode mi_M_show.2.1 8 = .ok (.bipush (-32), 2) := by decide +kernel
theorem d_M_show_10 : decode mi_M_show.2.1 10 = .ok (.invokevirtual 106, 3) := by decide +kernel
theorem d_M_show_13 : decode mi_M_show.2.1 13 = .ok (.ireturn, 1) := by decide +kernel
theorem d_M_show_14 : decode mi_M_show.2.1 14 = .ok (.iload_n 2, 1) := by decide +kernel
theorem d_M_show_15 : decode mi_M_show.2.1 15 = .ok (.iconst (-1), 1) := by decide +kernel
theorem d_M_show_16 : decode mi_M_show.2.1 16 = .ok (.if_icmp .ne 12, 3) := by decide +kernel
theorem d_M_show_19 : decode mi_M_show.2.1 19 = .ok (.aload_n 0, 1) := by decide +kernel
theorem d_M_show_20 : decode mi_M_show.2.1 20 = .ok (.getfield 55, 3) := by decide +kernel
theorem d_M_show_23 : decode mi_M_show.2.1 23 = .ok (.iload_n 1, 1) := by decide +kernel
theorem d_M_show_24 : decode mi_M_show.2.1 24 = .ok (.iconst (-1), 1) := by decide +kernel
theorem d_M_show_25 : decode mi_M_show.2.1 25 = .ok (.iastore, 1) := by decide +kernel
theorem d_M_show_26 : decode mi_M_show.2.1 26 = .ok (.iconst 1, 1) := by decide +kernel
theorem d_M_show_27 : decode mi_M_show.2.1 27 = .ok (.ireturn, 1) := by decide +kernel
theorem d_M_show_28 : decode mi_M_show.2.1 28 = .ok (.aload_n 0, 1) := by decide +kernel
theorem d_M_show_29 : decode mi_M_show.2.1 29 = .ok (.iload_n 2, 1) := by decide +kernel
theorem d_M_show_30 : decode mi_M_show.2.1 30 = .ok (.iload_n 3, 1) := by decide +kernel
theorem d_M_show_31 : decode mi_M_show.2.1 31 = .ok (.invokevirtual 223, 3) := by decide +kernel
theorem d_M_show_34 : decode mi_M_show.2.1 34 = .ok (.ifCond .eq 16, 3) := by decide +kernel
theorem d_M_show_37 : decode mi_M_show.2.1 37 = .ok (.iload 4, 2) := by decide +kernel
theorem d_M_show_39 : decode mi_M_show.2.1 39 = .ok (.i2l, 1) := by decide +kernel
theorem d_M_show_40 : decode mi_M_show.2.1 40 = .ok (.lconst 0, 1) := by decide +kernel
theorem d_M_show_41 : decode mi_M_show.2.1 41 = .ok (.ldc2_w 221, 3) := by decide +kernel
theorem d_M_show_44 : decode mi_M_show.2.1 44 = .ok (.invokestatic 68, 3) := by decide +kernel
theorem d_M_show_47 : decode mi_M_show.2.1 47 = .ok (.ifCond .ne 10, 3) := by decide +kernel
theorem d_M_show_50 : decode mi_M_show.2.1 50 = .ok (.aload_n 0, 1) := by decide +kernel
theorem d_M_show_51 : decode mi_M_show.2.1 51 = .ok (.bipush (-32), 2) := by decide +kernel
theorem d_M_show_53 : decode mi_M_show.2.1 53 = .ok (.invokevirtual 106, 3) := by decide +kernel
theorem d_M_show_56 : decode mi_M_show.2.1 56 = .ok (.ireturn, 1) := by decide +kernel
theorem d_M_show_57 : decode mi_M_show.2.1 57 = .ok (.aload_n 0, 1) := by decide +kernel
theorem d_M_show_58 : decode mi_M_show.2.1 58 = .ok (.iload_n 2, 1) := by decide +kernel
theorem d_M_show_59 : decode mi_M_show.2.1 59 = .ok (.iload_n 3, 1) := by decide +kernel
theorem d_M_show_60 : decode mi_M_show.2.1 60 = .ok (.invokevirtual 185, 3) := by decide +kernel
theorem d_M_show_63 : decode mi_M_show.2.1 63 = .ok (.istore 5, 2) := by decide +kernel
theorem d_M_show_65 : decode mi_M_show.2.1 65 = .ok (.iload 4, 2) := by decide +kernel
theorem d_M_show_67 : decode mi_M_show.2.1 67 = .ok (.ifCond .le 50, 3) := by decide +kernel
theorem d_M_show_70 : decode mi_M_show.2.1 70 = .ok (.aload_n 0, 1) := by decide +kernel
theorem d_M_show_71 : decode mi_M_show.2.1 71 = .ok (.getfield 22, 3) := by decide +kernel
theorem d_M_show_74 : decode mi_M_show.2.1 74 = .ok (.iload 5, 2) := by decide +kernel
theorem d_M_show_76 : decode mi_M_show.2.1 76 = .ok (.iaload, 1) := by decide +kernel
theorem d_M_show_77 : decode mi_M_show.2.1 77 = .ok (.iconst 3, 1) := by decide +kernel
theorem d_M_show_78 : decode mi_M_show.2.1 78 = .ok (.if_icmp .eq 15, 3) := by decide +kernel
theorem d_M_show_81 : decode mi_M_show.2.1 81 = .ok (.aload_n 0, 1) := by decide +kernel
theorem d_M_show_82 : decode mi_M_show.2.1 82 = .ok (.getfield 22, 3) := by decide +kernel
theorem d_M_show_85 : decode mi_M_show.2.1 85 = .ok (.iload 5, 2) := by decide +kernel
theorem d_M_show_87 : decode mi_M_show.2.1 87 = .ok (.iaload, 1) := by decide +kernel
theorem d_M_show_88 : decode mi_M_show.2.1 88 = .ok (.bipush 7, 2) := by decide +kernel
theorem d_M_show_90 : decode mi_M_show.2.1 90 = .ok (.if_icmp .lt 20, 3) := by decide +kernel
theorem d_M_show_93 : decode mi_M_show.2.1 93 = .ok (.aload_n 0, 1) := by decide +kernel
theorem d_M_show_94 : decode mi_M_show.2.1 94 = .ok (.getfield 22, 3) := by decide +kernel
theorem d_M_show_97 : decode mi_M_show.2.1 97 = .ok (.iload 5, 2) := by decide +kernel
theorem d_M_show_99 : decode mi_M_show.2.1 99 = .ok (.iaload, 1) := by decide +kernel
theorem d_M_show_100 : decode mi_M_show.2.1 100 = .ok (.iconst 3, 1) := by decide +kernel
theorem d_M_show_101 : decode mi_M_show.2.1 101 = .ok (.if_icmp .ne 16, 3) := by decide +kernel
theorem d_M_show_104 : decode mi_M_show.2.1 104 = .ok (.iload 4, 2) := by decide +kernel
theorem d_M_show_106 : decode mi_M_show.2.1 106 = .ok (.iconst 2, 1) := by decide +kernel
theorem d_M_show_107 : decode mi_M_show.2.1 107 = .ok (.if_icmp .ne 10, 3) := by decide +kernel
theorem d_M_show_110 : decode mi_M_show.2.1 110 = .ok (.aload_n 0, 1) := by decide +kernel
theorem d_M_show_111 : decode mi_M_show.2.1 111 = .ok (.bipush (-32), 2) := by decide +kernel
theorem d_M_show_113 : decode mi_M_show.2.1 113 = .ok (.invokevirtual 106, 3) := by decide +kernel
theorem d_M_show_116 : decode mi_M_show.2.1 116 = .ok (.ireturn, 1) := by decide +kernel
theorem d_M_show_117 : decode mi_M_show.2.1 117 = .ok (.aload_n 0, 1) := by decide +kernel
theorem d_M_show_118 : decode mi_M_show.2.1 118 = .ok (.getfield 65, 3) := by decide +kernel
theorem d_M_show_121 : decode mi_M_show.2.1 121 = .ok (.iload_n 1, 1) := by decide +kernel
theorem d_M_show_122 : decode mi_M_show.2.1 122 = .ok (.iload 4, 2) := by decide +kernel
theorem d_M_show_124 : decode mi_M_show.2.1 124 = .ok (.ifCond .ne 8, 3) := by decide +kernel
theorem d_M_show_127 : decode mi_M_show.2.1 127 = .ok (.iload 5, 2) := by decide +kernel
theorem d_M_show_129 : decode mi_M_show.2.1 129 = .ok (.goto 26, 3) := by decide +kernel
theorem d_M_show_132 : decode mi_M_show.2.1 132 = .ok (.iload 4, 2) := by decide +kernel
theorem d_M_show_134 : decode mi_M_show.2.1 134 = .ok (.iconst 1, 1) := by decide +kernel
theorem d_M_show_135 : decode mi_M_show.2.1 135 = .ok (.if_icmp .ne 13, 3) := by decide +kernel
theorem d_M_show_138 : decode mi_M_show.2.1 138 = .ok (.aload_n 0, 1) := by decide +kernel
theorem d_M_show_139 : decode mi_M_show.2.1 139 = .ok (.getfield 25, 3) := by decide +kernel
theorem d_M_show_142 : decode mi_M_show.2.1 142 = .ok (.iload 5, 2) := by decide +kernel
theorem d_M_show_144 : decode mi_M_show.2.1 144 = .ok (.iaload, 1) := by decide +kernel
theorem d_M_show_145 : decode mi_M_show.2.1 145 = .ok (.goto 10, 3) := by decide +kernel
theorem d_M_show_148 : decode mi_M_show.2.1 148 = .ok (.aload_n 0, 1) := by decide +kernel
theorem d_M_show_149 : decode mi_M_show.2.1 149 = .ok (.getfield 28, 3) := by decide +kernel
theorem d_M_show_152 : decode mi_M_show.2.1 152 = .ok (.iload 5, 2) := by decide +kernel
theorem d_M_show_154 : decode mi_M_show.2.1 154 = .ok (.iaload, 1) := by decide +kernel
theorem d_M_show_155 : decode mi_M_show.2.1 155 = .ok (.iastore, 1) := by decide +kernel
theorem d_M_show_156 : decode mi_M_show.2.1 156 = .ok (.aload_n 0, 1) := by decide +kernel
theorem d_M_show_157 : decode mi_M_show.2.1 157 = .ok (.getfield 55, 3) := by decide +kernel
theorem d_M_show_160 : decode mi_M_show.2.1 160 = .ok (.iload_n 1, 1) := by decide +kernel
theorem d_M_show_161 : decode mi_M_show.2.1 161 = .ok (.bipush 10, 2) := by decide +kernel
theorem d_M_show_163 : decode mi_M_show.2.1 163 = .ok (.aload_n 0, 1) := by decide +kernel
theorem d_M_show_164 : decode mi_M_show.2.1 164 = .ok (.getfield 22, 3) := by decide +kernel
theorem d_M_show_167 : decode mi_M_show.2.1 167 = .ok (.aload_n 0, 1) := by decide +kernel
theorem d_M_show_168 : decode mi_M_show.2.1 168 = .ok (.getfield 65, 3) := by decide +kernel
theorem d_M_show_171 : decode mi_M_show.2.1 171 = .ok (.iload_n 1, 1) := by decide +kernel
theorem d_M_show_172 : decode mi_M_show.2.1 172 = .ok (.iaload, 1) := by decide +kernel
theorem d_M_show_173 : decode mi_M_show.2.1 173 = .ok (.iaload, 1) := by decide +kernel
theorem d_M_show_174 : decode mi_M_show.2.1 174 = .ok (.iadd, 1) := by decide +kernel
theorem d_M_show_175 : decode mi_M_show.2.1 175 = .ok (.iastore, 1) := by decide +kernel
theorem d_M_show_176 : decode mi_M_show.2.1 176 = .ok (.iconst 1, 1) := by decide +kernel
theorem d_M_show_177 : decode mi_M_show.2.1 177 = .ok (.ireturn, 1) := by decide +kernel
theorem d_M_says_0 : decode mi_M_says.2.1 0 = .ok (.iload_n 1, 1) := by decide +kernel
theorem d_M_says_1 : decode mi_M_says.2.1 1 = .ok (.invokestatic 288, 3) := by decide +kernel
theorem d_M_says_4 : decode mi_M_says.2.1 4 = .ok (.ifCond .eq 15, 3) := by decide +kernel
theorem d_M_says_7 : decode mi_M_says.2.1 7 = .ok (.iload_n 2, 1) := by decide +kernel
theorem d_M_says_8 : decode mi_M_says.2.1 8 = .ok (.i2l, 1) := by decide +kernel
theorem d_M_says_9 : decode mi_M_says.2.1 9 = .ok (.lconst 0, 1) := by decide +kernel
theorem d_M_says_10 : decode mi_M_says.2.1 10 = .ok (.ldc2_w 301, 3) := by decide +kernel
theorem d_M_says_13 : decode mi_M_says.2.1 13 = .ok (.invokestatic 68, 3) := by decide +kernel
theorem d_M_says_16 : decode mi_M_says.2.1 16 = .ok (.ifCond .ne 10, 3) := by decide +kernel
theorem d_M_says_19 : decode mi_M_says.2.1 19 = .ok (.aload_n 0, 1) := by decide +kernel
theorem d_M_says_20 : decode mi_M_says.2.1 20 = .ok (.bipush (-32), 2) := by decide +kernel
theorem d_M_says_22 : decode mi_M_says.2.1 22 = .ok (.invokevirtual 106, 3) := by decide +kernel
theorem d_M_says_25 : decode mi_M_says.2.1 25 = .ok (.ireturn, 1) := by decide +kernel
theorem d_M_says_26 : decode mi_M_says.2.1 26 = .ok (.aload_n 0, 1) := by decide +kernel
theorem d_M_says_27 : decode mi_M_says.2.1 27 = .ok (.getfield 55, 3) := by decide +kernel
theorem d_M_says_30 : decode mi_M_says.2.1 30 = .ok (.iload_n 1, 1) := by decide +kernel
theorem d_M_says_31 : decode mi_M_says.2.1 31 = .ok (.iaload, 1) := by decide +kernel
theorem d_M_says_32 : decode mi_M_says.2.1 32 = .ok (.i2l, 1) := by decide +kernel
theorem d_M_says_33 : decode mi_M_says.2.1 33 = .ok (.lconst 0, 1) := by decide +kernel
theorem d_M_says_34 : decode mi_M_says.2.1 34 = .ok (.ldc2_w 291, 3) := by decide +kernel
theorem d_M_says_37 : decode mi_M_says.2.1 37 = .ok (.invokestatic 68, 3) := by decide +kernel
theorem d_M_says_40 : decode mi_M_says.2.1 40 = .ok (.ifCond .eq 10, 3) := by decide +kernel
theorem d_M_says_43 : decode mi_M_says.2.1 43 = .ok (.aload_n 0, 1) := by decide +kernel
theorem d_M_says_44 : decode mi_M_says.2.1 44 = .ok (.bipush (-33), 2) := by decide +kernel
theorem d_M_says_46 : decode mi_M_says.2.1 46 = .ok (.invokevirtual 106, 3) := by decide +kernel
theorem d_M_says_49 : decode mi_M_says.2.1 49 = .ok (.ireturn, 1) := by decide +kernel
theorem d_M_says_50 : decode mi_M_says.2.1 50 = .ok (.aload_n 0, 1) := by decide +kernel
theorem d_M_says_51 : decode mi_M_says.2.1 51 = .ok (.getfield 55, 3) := by decide +kernel
theorem d_M_says_54 : decode mi_M_says.2.1 54 = .ok (.iload_n 1, 1) := by decide +kernel
theorem d_M_says_55 : decode mi_M_says.2.1 55 = .ok (.iaload, 1) := by decide +kernel
theorem d_M_says_56 : decode mi_M_says.2.1 56 = .ok (.ifCond .ge 10, 3) := by decide +kernel
theorem d_M_says_59 : decode mi_M_says.2.1 59 = .ok (.aload_n 0, 1) := by decide +kernel
theorem d_M_says_60 : decode mi_M_says.2.1 60 = .ok (.bipush (-34), 2) := by decide +kernel
theorem d_M_says_62 : decode mi_M_says.2.1 62 = .ok (.invokevirtual 106, 3) := by decide +kernel
theorem d_M_says_65 : decode mi_M_says.2.1 65 = .ok (.ireturn, 1) := by decide +kernel
theorem d_M_says_66 : decode mi_M_says.2.1 66 = .ok (.aload_n 0, 1) := by decide +kernel
theorem d_M_says_67 : decode mi_M_says.2.1 67 = .ok (.getfield 65, 3) := by decide +kernel
theorem d_M_says_70 : decode mi_M_says.2.1 70 = .ok (.iload_n 1, 1) := by decide +kernel
theorem d_M_says_71 : decode mi_M_says.2.1 71 = .ok (.iaload, 1) := by decide +kernel
theorem d_M_says_72 : decode mi_M_says.2.1 72 = .ok (.istore_n 3, 1) := by decide +kernel
theorem d_M_says_73 : decode mi_M_says.2.1 73 = .ok (.aload_n 0, 1) := by decide +kernel
theorem d_M_says_74 : decode mi_M_says.2.1 74 = .ok (.getfield 55, 3) := by decide +kernel
theorem d_M_says_77 : decode mi_M_says.2.1 77 = .ok (.iload_n 1, 1) := by decide +kernel
theorem d_M_says_78 : decode mi_M_says.2.1 78 = .ok (.iaload, 1) := by decide +kernel
theorem d_M_says_79 : decode mi_M_says.2.1 79 = .ok (.bipush 10, 2) := by decide +kernel
theorem d_M_says_81 : decode mi_M_says.2.1 81 = .ok (.isub, 1) := by decide +kernel
theorem d_M_says_82 : decode mi_M_says.2.1 82 = .ok (.iload_n 2, 1) := by decide +kernel
theorem d_M_says_83 : decode mi_M_says.2.1 83 = .ok (.invokestatic 303, 3) := by decide +kernel
theorem d_M_says_86 : decode mi_M_says.2.1 86 = .ok (.ifCond .ne 10, 3) := by decide +kernel
theorem d_M_says_89 : decode mi_M_says.2.1 89 = .ok (.aload_n 0, 1) := by decide +kernel
theorem d_M_says_90 : decode mi_M_says.2.1 90 = .ok (.bipush (-33), 2) := by decide +kernel
theorem d_M_says_92 : decode mi_M_says.2.1 92 = .ok (.invokevirtual 106, 3) := by decide +kernel
theorem d_M_says_95 : decode mi_M_says.2.1 95 = .ok (.ireturn, 1) := by decide +kernel
theorem d_M_says_96 : decode mi_M_says.2.1 96 = .ok (.iload_n 2, 1) := by decide +kernel
theorem d_M_says_97 : decode mi_M_says.2.1 97 = .ok (.tableswitch 140 0 7 #[47, 53, 63, 75, 87, 89, 106, 122], 47) := by decide +kernel
theorem d_M_says_144 : decode mi_M_says.2.1 144 = .ok (.aload_n 0, 1) := by decide +kernel
theorem d_M_says_145 : decode mi_M_says.2.1 145 = .ok (.iload_n 3, 1) := by decide +kernel
theorem d_M_says_146 : decode mi_M_says.2.1 146 = .ok (.invokevirtual 306, 3) := by decide +kernel
theorem d_M_says_149 : decode mi_M_says.2.1 149 = .ok (.ireturn, 1) := by decide +kernel
theorem d_M_says_150 : decode mi_M_says.2.1 150 = .ok (.aload_n 0, 1) := by decide +kernel
theorem d_M_says_151 : decode mi_M_says.2.1 151 = .ok (.getfield 55, 3) := by decide +kernel
theorem d_M_says_154 : decode mi_M_says.2.1 154 = .ok (.iload_n 1, 1) := by decide +kernel
theorem d_M_says_155 : decode mi_M_says.2.1 155 = .ok (.iaload, 1) := by decide +kernel
theorem d_M_says_156 : decode mi_M_says.2.1 156 = .ok (.bipush 14, 2) := by decide +kernel
theorem d_M_says_158 : decode mi_M_says.2.1 158 = .ok (.isub, 1) := by decide +kernel
theorem d_M_says_159 : decode mi_M_says.2.1 159 = .ok (.ireturn, 1) := by decide +kernel
theorem d_M_says_160 : decode mi_M_says.2.1 160 = .ok (.aload_n 0, 1) := by decide +kernel
theorem d_M_says_161 : decode mi_M_says.2.1 161 = .ok (.getfield 22, 3) := by decide +kernel
theorem d_M_says_164 : decode mi_M_says.2.1 164 = .ok (.aload_n 0, 1) := by decide +kernel
theorem d_M_says_165 : decode mi_M_says.2.1 165 = .ok (.getfield 28, 3) := by decide +kernel
theorem d_M_says_168 : decode mi_M_says.2.1 168 = .ok (.iload_n 3, 1) := by decide +kernel
theorem d_M_says_169 : decode mi_M_says.2.1 169 = .ok (.iaload, 1) := by decide +kernel
theorem d_M_says_170 : decode mi_M_says.2.1 170 = .ok (.iaload, 1) := by decide +kernel
theorem d_M_says_171 : decode mi_M_says.2.1 171 = .ok (.ireturn, 1) := by decide +kernel
theorem d_M_says_172 : decode mi_M_says.2.1 172 = .ok (.aload_n 0, 1) := by decide +kernel
theorem d_M_says_173 : decode mi_M_says.2.1 173 = .ok (.getfield 22, 3) := by decide +kernel
theorem d_M_says_176 : decode mi_M_says.2.1 176 = .ok (.aload_n 0, 1) := by decide +kernel
theorem d_M_says_177 : decode mi_M_says.2.1 177 = .ok (.getfield 25, 3) := by decide +kernel
theorem d_M_says_180 : decode mi_M_says.2.1 180 = .ok (.iload_n 3, 1) := by decide +kernel
theorem d_M_says_181 : decode mi_M_says.2.1 181 = .ok (.iaload, 1) := by decide +kernel
theorem d_M_says_182 : decode mi_M_says.2.1 182 = .ok (.iaload, 1) := by decide +kernel
theorem d_M_says_183 : decode mi_M_says.2.1 183 = .ok (.ireturn, 1) := by decide +kernel
theorem d_M_says_184 : decode mi_M_says.2.1 184 = .ok (.iconst 1, 1) := by decide +kernel
theorem d_M_says_185 : decode mi_M_says.2.1 185 = .ok (.ireturn, 1) := by decide +kernel
theorem d_M_says_186 : decode mi_M_says.2.1 186 = .ok (.bipush 10, 2) := by decide +kernel
theorem d_M_says_188 : decode mi_M_says.2.1 188 = .ok (.aload_n 0, 1) := by decide +kernel
theorem d_M_says_189 : decode mi_M_says.2.1 189 = .ok (.getfield 25, 3) := by decide +kernel
theorem d_M_says_192 : decode mi_M_says.2.1 192 = .ok (.iload_n 3, 1) := by decide +kernel
theorem d_M_says_193 : decode mi_M_says.2.1 193 = .ok (.iaload, 1) := by decide +kernel
theorem d_M_says_194 : decode mi_M_says.2.1 194 = .ok (.imul, 1) := by decide +kernel
theorem d_M_says_195 : decode mi_M_says.2.1 195 = .ok (.aload_n 0, 1) := by decide +kernel
theorem d_M_says_196 : decode mi_M_says.2.1 196 = .ok (.getfield 28, 3) := by decide +kernel
theorem d_M_says_199 : decode mi_M_says.2.1 199 = .ok (.iload_n 3, 1) := by decide +kernel
theorem d_M_says_200 : decode mi_M_says.2.1 200 = .ok (.iaload, 1) := by decide +kernel
theorem d_M_says_201 : decode mi_M_says.2.1 201 = .ok (.iadd, 1) := by decide +kernel
theorem d_M_says_202 : decode mi_M_says.2.1 202 = .ok (.ireturn, 1) := by decide +kernel
theorem d_M_says_203 : decode mi_M_says.2.1 203 = .ok (.aload_n 0, 1) := by decide +kernel
theorem d_M_says_204 : decode mi_M_says.2.1 204 = .ok (.getfield 28, 3) := by decide +kernel
theorem d_M_says_207 : decode mi_M_says.2.1 207 = .ok (.iload_n 3, 1) := by decide +kernel
theorem d_M_says_208 : decode mi_M_says.2.1 208 = .ok (.iaload, 1) := by decide +kernel
theorem d_M_says_209 : decode mi_M_says.2.1 209 = .ok (.aload_n 0, 1) := by decide +kernel
theorem d_M_says_210 : decode mi_M_says.2.1 210 = .ok (.getfield 25, 3) := by decide +kernel
theorem d_M_says_213 : decode mi_M_says.2.1 213 = .ok (.iload_n 3, 1) := by decide +kernel
theorem d_M_says_214 : decode mi_M_says.2.1 214 = .ok (.iaload, 1) := by decide +kernel
theorem d_M_says_215 : decode mi_M_says.2.1 215 = .ok (.isub, 1) := by decide +kernel
theorem d_M_says_216 : decode mi_M_says.2.1 216 = .ok (.iconst 1, 1) := by decide +kernel
theorem d_M_says_217 : decode mi_M_says.2.1 217 = .ok (.iadd, 1) := by decide +kernel
theorem d_M_says_218 : decode mi_M_says.2.1 218 = .ok (.ireturn, 1) := by decide +kernel
theorem d_M_says_219 : decode mi_M_says.2.1 219 = .ok (.aload_n 0, 1) := by decide +kernel
theorem d_M_says_220 : decode mi_M_says.2.1 220 = .ok (.aload_n 0, 1) := by decide +kernel
theorem d_M_says_221 : decode mi_M_says.2.1 221 = .ok (.getfield 25, 3) := by decide +kernel
theorem d_M_says_224 : decode mi_M_says.2.1 224 = .ok (.iload_n 3, 1) := by decide +kernel
theorem d_M_says_225 : decode mi_M_says.2.1 225 = .ok (.iaload, 1) := by decide +kernel
theorem d_M_says_226 : decode mi_M_says.2.1 226 = .ok (.aload_n 0, 1) := by decide +kernel
theorem d_M_says_227 : decode mi_M_says.2.1 227 = .ok (.getfield 28, 3) := by decide +kernel
theorem d_M_says_230 : decode mi_M_says.2.1 230 = .ok (.iload_n 3, 1) := by decide +kernel
theorem d_M_says_231 : decode mi_M_says.2.1 231 = .ok (.iaload, 1) := by decide +kernel
theorem d_M_says_232 : decode mi_M_says.2.1 232 = .ok (.iconst 0, 1) := by decide +kernel
theorem d_M_says_233 : decode mi_M_says.2.1 233 = .ok (.invokevirtual 309, 3) := by decide +kernel
theorem d_M_says_236 : decode mi_M_says.2.1 236 = .ok (.ireturn, 1) := by decide +kernel
theorem d_M_says_237 : decode mi_M_says.2.1 237 = .ok (.aload_n 0, 1) := by decide +kernel
theorem d_M_says_238 : decode mi_M_says.2.1 238 = .ok (.aload_n 0, 1) := by decide +kernel
theorem d_M_says_239 : decode mi_M_says.2.1 239 = .ok (.getfield 25, 3) := by decide +kernel
theorem d_M_says_242 : decode mi_M_says.2.1 242 = .ok (.iload_n 3, 1) := by decide +kernel
theorem d_M_says_243 : decode mi_M_says.2.1 243 = .ok (.iaload, 1) := by decide +kernel
theorem d_M_says_244 : decode mi_M_says.2.1 244 = .ok (.aload_n 0, 1) := by decide +kernel
theorem d_M_says_245 : decode mi_M_says.2.1 245 = .ok (.getfield 28, 3) := by decide +kernel
theorem d_M_says_248 : decode mi_M_says.2.1 248 = .ok (.iload_n 3, 1) := by decide +kernel
theorem d_M_says_249 : decode mi_M_says.2.1 249 = .ok (.iaload, 1) := by decide +kernel
theorem d_M_says_250 : decode mi_M_says.2.1 250 = .ok (.iconst 1, 1) := by decide +kernel
theorem d_M_says_251 : decode mi_M_says.2.1 251 = .ok (.invokevirtual 309, 3) := by decide +kernel
theorem d_M_says_254 : decode mi_M_says.2.1 254 = .ok (.ireturn, 1) := by decide +kernel
theorem d_M_isUnder_0 : decode mi_M_isUnder.2.1 0 = .ok (.iload_n 1, 1) := by decide +kernel
theorem d_M_isUnder_1 : decode mi_M_isUnder.2.1 1 = .ok (.ifCond .eq 38, 3) := by decide +kernel
theorem d_M_isUnder_4 : decode mi_M_isUnder.2.1 4 = .ok (.iload_n 0, 1) := by decide +kernel
theorem d_M_isUnder_5 : decode mi_M_isUnder.2.1 5 = .ok (.iload_n 1, 1) := by decide +kernel
theorem d_M_isUnder_6 : decode mi_M_isUnder.2.1 6 = .ok (.if_icmp .eq 33, 3) := by decide +kernel
theorem d_M_isUnder_9 : decode mi_M_isUnder.2.1 9 = .ok (.iload_n 1, 1) := by decide +kernel
theorem d_M_isUnder_10 : decode mi_M_isUnder.2.1 10 = .ok (.iconst 1, 1) := by decide +kernel
theorem d_M_isUnder_11 : decode mi_M_isUnder.2.1 11 = .ok (.if_icmp .ne 17, 3) := by decide +kernel
theorem d_M_isUnder_14 : decode mi_M_isUnder.2.1 14 = .ok (.iload_n 0, 1) := by decide +kernel
theorem d_M_isUnder_15 : decode mi_M_isUnder.2.1 15 = .ok (.i2l, 1) := by decide +kernel
theorem d_M_isUnder_16 : decode mi_M_isUnder.2.1 16 = .ok (.ldc2_w 291, 3) := by decide +kernel
theorem d_M_isUnder_19 : decode mi_M_isUnder.2.1 19 = .ok (.ldc2_w 299, 3) := by decide +kernel
theorem d_M_isUnder_22 : decode mi_M_isUnder.2.1 22 = .ok (.invokestatic 68, 3) := by decide +kernel
theorem d_M_isUnder_25 : decode mi_M_isUnder.2.1 25 = .ok (.ifCond .ne 14, 3) := by decide +kernel
theorem d_M_isUnder_28 : decode mi_M_isUnder.2.1 28 = .ok (.iload_n 1, 1) := by decide +kernel
theorem d_M_isUnder_29 : decode mi_M_isUnder.2.1 29 = .ok (.iconst 2, 1) := by decide +kernel
theorem d_M_isUnder_30 : decode mi_M_isUnder.2.1 30 = .ok (.if_icmp .ne 13, 3) := by decide +kernel
theorem d_M_isUnder_33 : decode mi_M_isUnder.2.1 33 = .ok (.iload_n 0, 1) := by decide +kernel
theorem d_M_isUnder_34 : decode mi_M_isUnder.2.1 34 = .ok (.bipush 7, 2) := by decide +kernel
theorem d_M_isUnder_36 : decode mi_M_isUnder.2.1 36 = .ok (.if_icmp .lt 7, 3) := by decide +kernel
theorem d_M_isUnder_39 : decode mi_M_isUnder.2.1 39 = .ok (.iconst 1, 1) := by decide +kernel
theorem d_M_isUnder_40 : decode mi_M_isUnder.2.1 40 = .ok (.goto 4, 3) := by decide +kernel
theorem d_M_isUnder_43 : decode mi_M_isUnder.2.1 43 = .ok (.iconst 0, 1) := by decide +kernel
theorem d_M_isUnder_44 : decode mi_M_isUnder.2.1 44 = .ok (.ireturn, 1) := by decide +kernel
theorem d_M_soMany_0 : decode mi_M_soMany.2.1 0 = .ok (.iconst 0, 1) := by decide +kernel
theorem d_M_soMany_1 : decode mi_M_soMany.2.1 1 = .ok (.istore_n 2, 1) := by decide +kernel
theorem d_M_soMany_2 : decode mi_M_soMany.2.1 2 = .ok (.iconst 0, 1) := by decide +kernel
theorem d_M_soMany_3 : decode mi_M_soMany.2.1 3 = .ok (.istore_n 3, 1) := by decide +kernel
theorem d_M_soMany_4 : decode mi_M_soMany.2.1 4 = .ok (.iload_n 3, 1) := by decide +kernel
theorem d_M_soMany_5 : decode mi_M_soMany.2.1 5 = .ok (.aload_n 0, 1) := by decide +kernel
theorem d_M_soMany_6 : decode mi_M_soMany.2.1 6 = .ok (.getfield 9, 3) := by decide +kernel
theorem d_M_soMany_9 : decode mi_M_soMany.2.1 9 = .ok (.iconst 0, 1) := by decide +kernel
theorem d_M_soMany_10 : decode mi_M_soMany.2.1 10 = .ok (.iaload, 1) := by decide +kernel
theorem d_M_soMany_11 : decode mi_M_soMany.2.1 11 = .ok (.if_icmp .ge 26, 3) := by decide +kernel
theorem d_M_soMany_14 : decode mi_M_soMany.2.1 14 = .ok (.iload_n 2, 1) := by decide +kernel
theorem d_M_soMany_15 : decode mi_M_soMany.2.1 15 = .ok (.aload_n 0, 1) := by decide +kernel
theorem d_M_soMany_16 : decode mi_M_soMany.2.1 16 = .ok (.iload_n 1, 1) := by decide +kernel
theorem d_M_soMany_17 : decode mi_M_soMany.2.1 17 = .ok (.iload_n 3, 1) := by decide +kernel
theorem d_M_soMany_18 : decode mi_M_soMany.2.1 18 = .ok (.invokevirtual 100, 3) := by decide +kernel
theorem d_M_soMany_21 : decode mi_M_soMany.2.1 21 = .ok (.ifCond .eq 7, 3) := by decide +kernel
theorem d_M_soMany_24 : decode mi_M_soMany.2.1 24 = .ok (.iconst 1, 1) := by decide +kernel
theorem d_M_soMany_25 : decode mi_M_soMany.2.1 25 = .ok (.goto 4, 3) := by decide +kernel
theorem d_M_soMany_28 : decode mi_M_soMany.2.1 28 = .ok (.iconst 0, 1) := by decide +kernel
theorem d_M_soMany_29 : decode mi_M_soMany.2.1 29 = .ok (.iadd, 1) := by decide +kernel
theorem d_M_soMany_30 : decode mi_M_soMany.2.1 30 = .ok (.istore_n 2, 1) := by decide +kernel
theorem d_M_soMany_31 : decode mi_M_soMany.2.1 31 = .ok (.iinc 3 1, 3) := by decide +kernel
theorem d_M_soMany_34 : decode mi_M_soMany.2.1 34 = .ok (.goto (-30), 3) := by decide +kernel
theorem d_M_soMany_37 : decode mi_M_soMany.2.1 37 = .ok (.iload_n 2, 1) := by decide +kernel
theorem d_M_soMany_38 : decode mi_M_soMany.2.1 38 = .ok (.ireturn, 1) := by decide +kernel
theorem d_M_soTogether_0 : decode mi_M_soTogether.2.1 0 = .ok (.iconst 0, 1) := by decide +kernel
theorem d_M_soTogether_1 : decode mi_M_soTogether.2.1 1 = .ok (.istore 4, 2) := by decide +kernel
theorem d_M_soTogether_3 : decode mi_M_soTogether.2.1 3 = .ok (.iconst 0, 1) := by decide +kernel
theorem d_M_soTogether_4 : decode mi_M_soTogether.2.1 4 = .ok (.istore 5, 2) := by decide +kernel
theorem d_M_soTogether_6 : decode mi_M_soTogether.2.1 6 = .ok (.iload 5, 2) := by decide +kernel
theorem d_M_soTogether_8 : decode mi_M_soTogether.2.1 8 = .ok (.aload_n 0, 1) := by decide +kernel
theorem d_M_soTogether_9 : decode mi_M_soTogether.2.1 9 = .ok (.getfield 9, 3) := by decide +kernel
theorem d_M_soTogether_12 : decode mi_M_soTogether.2.1 12 = .ok (.iconst 0, 1) := by decide +kernel
theorem d_M_soTogether_13 : decode mi_M_soTogether.2.1 13 = .ok (.iaload, 1) := by decide +kernel
theorem d_M_soTogether_14 : decode mi_M_soTogether.2.1 14 = .ok (.if_icmp .ge 61, 3) := by decide +kernel
theorem d_M_soTogether_17 : decode mi_M_soTogether.2.1 17 = .ok (.aload_n 0, 1) := by decide +kernel
theorem d_M_soTogether_18 : decode mi_M_soTogether.2.1 18 = .ok (.iload_n 1, 1) := by decide +kernel
theorem d_M_soTogether_19 : decode mi_M_soTogether.2.1 19 = .ok (.iload 5, 2) := by decide +kernel
theorem d_M_soTogether_21 : decode mi_M_soTogether.2.1 21 = .ok (.invokevirtual 100, 3) := by decide +kernel
theorem d_M_soTogether_24 : decode mi_M_soTogether.2.1 24 = .ok (.istore 6, 2) := by decide +kernel
theorem d_M_soTogether_26 : decode mi_M_soTogether.2.1 26 = .ok (.aload_n 0, 1) := by decide +kernel
theorem d_M_soTogether_27 : decode mi_M_soTogether.2.1 27 = .ok (.iload_n 2, 1) := by decide +kernel
theorem d_M_soTogether_28 : decode mi_M_soTogether.2.1 28 = .ok (.iload 5, 2) := by decide +kernel
theorem d_M_soTogether_30 : decode mi_M_soTogether.2.1 30 = .ok (.invokevirtual 100, 3) := by decide +kernel
theorem d_M_soTogether_33 : decode mi_M_soTogether.2.1 33 = .ok (.istore 7, 2) := by decide +kernel
theorem d_M_soTogether_35 : decode mi_M_soTogether.2.1 35 = .ok (.iload 4, 2) := by decide +kernel
theorem d_M_soTogether_37 : decode mi_M_soTogether.2.1 37 = .ok (.iload_n 3, 1) := by decide +kernel
theorem d_M_soTogether_38 : decode mi_M_soTogether.2.1 38 = .ok (.ifCond .eq 16, 3) := by decide +kernel
theorem d_M_soTogether_41 : decode mi_M_soTogether.2.1 41 = .ok (.iload 6, 2) := by decide +kernel
theorem d_M_soTogether_43 : decode mi_M_soTogether.2.1 43 = .ok (.ifCond .eq 22, 3) := by decide +kernel
theorem d_M_soTogether_46 : decode mi_M_soTogether.2.1 46 = .ok (.iload 7, 2) := by decide +kernel
theorem d_M_soTogether_48 : decode mi_M_soTogether.2.1 48 = .ok (.ifCond .eq 17, 3) := by decide +kernel
theorem d_M_soTogether_51 : decode mi_M_soTogether.2.1 51 = .ok (.goto 10, 3) := by decide +kernel
theorem d_M_soTogether_54 : decode mi_M_soTogether.2.1 54 = .ok (.iload 6, 2) := by decide +kernel
theorem d_M_soTogether_56 : decode mi_M_soTogether.2.1 56 = .ok (.iload 7, 2) := by decide +kernel
theorem d_M_soTogether_58 : decode mi_M_soTogether.2.1 58 = .ok (.if_icmp .eq 7, 3) := by decide +kernel
theorem d_M_soTogether_61 : decode mi_M_soTogether.2.1 61 = .ok (.iconst 1, 1) := by decide +kernel
theorem d_M_soTogether_62 : decode mi_M_soTogether.2.1 62 = .ok (.goto 4, 3) := by decide +kernel
theorem d_M_soTogether_65 : decode mi_M_soTogether.2.1 65 = .ok (.iconst 0, 1) := by decide +kernel
theorem d_M_soTogether_66 : decode mi_M_soTogether.2.1 66 = .ok (.iadd, 1) := by decide +kernel
theorem d_M_soTogether_67 : decode mi_M_soTogether.2.1 67 = .ok (.istore 4, 2) := by decide +kernel
theorem d_M_soTogether_69 : decode mi_M_soTogether.2.1 69 = .ok (.iinc 5 1, 3) := by decide +kernel
theorem d_M_soTogether_72 : decode mi_M_soTogether.2.1 72 = .ok (.goto (-66), 3) := by decide +kernel
theorem d_M_soTogether_75 : decode mi_M_soTogether.2.1 75 = .ok (.iload 4, 2) := by decide +kernel
theorem d_M_soTogether_77 : decode mi_M_soTogether.2.1 77 = .ok (.ireturn, 1) := by decide +kernel
theorem d_M_judge_0 : decode mi_M_judge.2.1 0 = .ok (.aload_n 0, 1) := by decide +kernel
theorem d_M_judge_1 : decode mi_M_judge.2.1 1 = .ok (.iload_n 1, 1) := by decide +kernel
theorem d_M_judge_2 : decode mi_M_judge.2.1 2 = .ok (.invokevirtual 72, 3) := by decide +kernel
theorem d_M_judge_5 : decode mi_M_judge.2.1 5 = .ok (.ifCond .eq 22, 3) := by decide +kernel
theorem d_M_judge_8 : decode mi_M_judge.2.1 8 = .ok (.iload_n 2, 1) := by decide +kernel
theorem d_M_judge_9 : decode mi_M_judge.2.1 9 = .ok (.invokestatic 288, 3) := by decide +kernel
theorem d_M_judge_12 : decode mi_M_judge.2.1 12 = .ok (.ifCond .eq 15, 3) := by decide +kernel
theorem d_M_judge_15 : decode mi_M_judge.2.1 15 = .ok (.iload_n 3, 1) := by decide +kernel
theorem d_M_judge_16 : decode mi_M_judge.2.1 16 = .ok (.i2l, 1) := by decide +kernel
theorem d_M_judge_17 : decode mi_M_judge.2.1 17 = .ok (.lconst 0, 1) := by decide +kernel
theorem d_M_judge_18 : decode mi_M_judge.2.1 18 = .ok (.ldc2_w 313, 3) := by decide +kernel
theorem d_M_judge_21 : decode mi_M_judge.2.1 21 = .ok (.invokestatic 68, 3) := by decide +kernel
theorem d_M_judge_24 : decode mi_M_judge.2.1 24 = .ok (.ifCond .ne 10, 3) := by decide +kernel
theorem d_M_judge_27 : decode mi_M_judge.2.1 27 = .ok (.aload_n 0, 1) := by decide +kernel
theorem d_M_judge_28 : decode mi_M_judge.2.1 28 = .ok (.bipush (-32), 2) := by decide +kernel
theorem d_M_judge_30 : decode mi_M_judge.2.1 30 = .ok (.invokevirtual 106, 3) := by decide +kernel
theorem d_M_judge_33 : decode mi_M_judge.2.1 33 = .ok (.ireturn, 1) := by decide +kernel
theorem d_M_judge_34 : decode mi_M_judge.2.1 34 = .ok (.aload_n 0, 1) := by decide +kernel
theorem d_M_judge_35 : decode mi_M_judge.2.1 35 = .ok (.getfield 55, 3) := by decide +kernel
theorem d_M_judge_38 : decode mi_M_judge.2.1 38 = .ok (.iload_n 2, 1) := by decide +kernel
theorem d_M_judge_39 : decode mi_M_judge.2.1 39 = .ok (.iaload, 1) := by decide +kernel
theorem d_M_judge_40 : decode mi_M_judge.2.1 40 = .ok (.iconst 4, 1) := by decide +kernel
theorem d_M_judge_41 : decode mi_M_judge.2.1 41 = .ok (.if_icmp .le 10, 3) := by decide +kernel
theorem d_M_judge_44 : decode mi_M_judge.2.1 44 = .ok (.aload_n 0, 1) := by decide +kernel
theorem d_M_judge_45 : decode mi_M_judge.2.1 45 = .ok (.bipush (-33), 2) := by decide +kernel
theorem d_M_judge_47 : decode mi_M_judge.2.1 47 = .ok (.invokevirtual 106, 3) := by decide +kernel
theorem d_M_judge_50 : decode mi_M_judge.2.1 50 = .ok (.ireturn, 1) := by decide +kernel
theorem d_M_judge_51 : decode mi_M_judge.2.1 51 = .ok (.aload_n 0, 1) := by decide +kernel
theorem d_M_judge_52 : decode mi_M_judge.2.1 52 = .ok (.getfield 55, 3) := by decide +kernel
theorem d_M_judge_55 : decode mi_M_judge.2.1 55 = .ok (.iload_n 2, 1) := by decide +kernel
theorem d_M_judge_56 : decode mi_M_judge.2.1 56 = .ok (.iaload, 1) := by decide +kernel
theorem d_M_judge_57 : decode mi_M_judge.2.1 57 = .ok (.ifCond .ge 10, 3) := by decide +kernel
theorem d_M_judge_60 : decode mi_M_judge.2.1 60 = .ok (.aload_n 0, 1) := by decide +kernel
theorem d_M_judge_61 : decode mi_M_judge.2.1 61 = .ok (.bipush (-34), 2) := by decide +kernel
theorem d_M_judge_63 : decode mi_M_judge.2.1 63 = .ok (.invokevirtual 106, 3) := by decide +kernel
theorem d_M_judge_66 : decode mi_M_judge.2.1 66 = .ok (.ireturn, 1) := by decide +kernel
theorem d_M_judge_67 : decode mi_M_judge.2.1 67 = .ok (.iconst 2, 1) := by decide +kernel
theorem d_M_judge_68 : decode mi_M_judge.2.1 68 = .ok (.iload_n 3, 1) := by decide +kernel
theorem d_M_judge_69 : decode mi_M_judge.2.1 69 = .ok (.imul, 1) := by decide +kernel
theorem d_M_judge_70 : decode mi_M_judge.2.1 70 = .ok (.aload_n 0, 1) := by decide +kernel
theorem d_M_judge_71 : decode mi_M_judge.2.1 71 = .ok (.getfield 58, 3) := by decide +kernel
theorem d_M_judge_74 : decode mi_M_judge.2.1 74 = .ok (.iload_n 2, 1) := by decide +kernel
theorem d_M_judge_75 : decode mi_M_judge.2.1 75 = .ok (.iaload, 1) := by decide +kernel
theorem d_M_judge_76 : decode mi_M_judge.2.1 76 = .ok (.if_icmp .le 10, 3) := by decide +kernel
theorem d_M_judge_79 : decode mi_M_judge.2.1 79 = .ok (.aload_n 0, 1) := by decide +kernel
theorem d_M_judge_80 : decode mi_M_judge.2.1 80 = .ok (.bipush (-32), 2) := by decide +kernel
theorem d_M_judge_82 : decode mi_M_judge.2.1 82 = .ok (.invokevirtual 106, 3) := by decide +kernel
theorem d_M_judge_85 : decode mi_M_judge.2.1 85 = .ok (.ireturn, 1) := by decide +kernel
theorem d_M_judge_86 : decode mi_M_judge.2.1 86 = .ok (.iconst (-1), 1) := by decide +kernel
theorem d_M_judge_87 : decode mi_M_judge.2.1 87 = .ok (.istore 4, 2) := by decide +kernel
theorem d_M_judge_89 : decode mi_M_judge.2.1 89 = .ok (.iload_n 3, 1) := by decide +kernel
theorem d_M_judge_90 : decode mi_M_judge.2.1 90 = .ok (.iconst 1, 1) := by decide +kernel
theorem d_M_judge_91 : decode mi_M_judge.2.1 91 = .ok (.isub, 1) := by decide +kernel
theorem d_M_judge_92 : decode mi_M_judge.2.1 92 = .ok (.istore 5, 2) := by decide +kernel
theorem d_M_judge_94 : decode mi_M_judge.2.1 94 = .ok (.iload 5, 2) := by decide +kernel
theorem d_M_judge_96 : decode mi_M_judge.2.1 96 = .ok (.ifCond .lt 99, 3) := by decide +kernel
theorem d_M_judge_99 : decode mi_M_judge.2.1 99 = .ok (.aload_n 0, 1) := by decide +kernel
theorem d_M_judge_100 : decode mi_M_judge.2.1 100 = .ok (.getfield 61, 3) := by decide +kernel
theorem d_M_judge_103 : decode mi_M_judge.2.1 103 = .ok (.bipush 40, 2) := by decide +kernel
theorem d_M_judge_105 : decode mi_M_judge.2.1 105 = .ok (.iload_n 2, 1) := by decide +kernel
theorem d_M_judge_106 : decode mi_M_judge.2.1 106 = .ok (.imul, 1) := by decide +kernel
theorem d_M_judge_107 : decode mi_M_judge.2.1 107 = .ok (.iconst 2, 1) := by decide +kernel
theorem d_M_judge_108 : decode mi_M_judge.2.1 108 = .ok (.iload 5, 2) := by decide +kernel
theorem d_M_judge_110 : decode mi_M_judge.2.1 110 = .ok (.imul, 1) := by decide +kernel
theorem d_M_judge_111 : decode mi_M_judge.2.1 111 = .ok (.iadd, 1) := by decide +kernel
theorem d_M_judge_112 : decode mi_M_judge.2.1 112 = .ok (.laload, 1) := by decide +kernel
theorem d_M_judge_113 : decode mi_M_judge.2.1 113 = .ok (.lstore 6, 2) := by decide +kernel
theorem d_M_judge_115 : decode mi_M_judge.2.1 115 = .ok (.lload 6, 2) := by decide +kernel
theorem d_M_judge_117 : decode mi_M_judge.2.1 117 = .ok (.lconst 0, 1) := by decide +kernel
theorem d_M_judge_118 : decode mi_M_judge.2.1 118 = .ok (.ldc2_w 212, 3) := by decide +kernel
theorem d_M_judge_121 : decode mi_M_judge.2.1 121 = .ok (.invokestatic 68, 3) := by decide +kernel
theorem d_M_judge_124 : decode mi_M_judge.2.1 124 = .ok (.ifCond .eq 13, 3) := by decide +kernel
theorem d_M_judge_127 : decode mi_M_judge.2.1 127 = .ok (.aload_n 0, 1) := by decide +kernel
theorem d_M_judge_128 : decode mi_M_judge.2.1 128 = .ok (.lload 6, 2) := by decide +kernel
theorem d_M_judge_130 : decode mi_M_judge.2.1 130 = .ok (.l2i, 1) := by decide +kernel
theorem d_M_judge_131 : decode mi_M_judge.2.1 131 = .ok (.invokevirtual 204, 3) := by decide +kernel
theorem d_M_judge_134 : decode mi_M_judge.2.1 134 = .ok (.goto 4, 3) := by decide +kernel
theorem d_M_judge_137 : decode mi_M_judge.2.1 137 = .ok (.iconst (-1), 1) := by decide +kernel
theorem d_M_judge_138 : decode mi_M_judge.2.1 138 = .ok (.istore 8, 2) := by decide +kernel
theorem d_M_judge_140 : decode mi_M_judge.2.1 140 = .ok (.iload 8, 2) := by decide +kernel
theorem d_M_judge_142 : decode mi_M_judge.2.1 142 = .ok (.ifCond .ge 10, 3) := by decide +kernel
theorem d_M_judge_145 : decode mi_M_judge.2.1 145 = .ok (.aload_n 0, 1) := by decide +kernel
theorem d_M_judge_146 : decode mi_M_judge.2.1 146 = .ok (.bipush (-35), 2) := by decide +kernel
theorem d_M_judge_148 : decode mi_M_judge.2.1 148 = .ok (.invokevirtual 106, 3) := by decide +kernel
theorem d_M_judge_151 : decode mi_M_judge.2.1 151 = .ok (.ireturn, 1) := by decide +kernel
theorem d_M_judge_152 : decode mi_M_judge.2.1 152 = .ok (.aload_n 0, 1) := by decide +kernel
theorem d_M_judge_153 : decode mi_M_judge.2.1 153 = .ok (.iload_n 1, 1) := by decide +kernel
theorem d_M_judge_154 : decode mi_M_judge.2.1 154 = .ok (.iload 8, 2) := by decide +kernel
theorem d_M_judge_156 : decode mi_M_judge.2.1 156 = .ok (.invokevirtual 201, 3) := by decide +kernel
theorem d_M_judge_159 : decode mi_M_judge.2.1 159 = .ok (.i2l, 1) := by decide +kernel
theorem d_M_judge_160 : decode mi_M_judge.2.1 160 = .ok (.aload_n 0, 1) := by decide +kernel
theorem d_M_judge_161 : decode mi_M_judge.2.1 161 = .ok (.getfield 61, 3) := by decide +kernel
theorem d_M_judge_164 : decode mi_M_judge.2.1 164 = .ok (.bipush 40, 2) := by decide +kernel
theorem d_M_judge_166 : decode mi_M_judge.2.1 166 = .ok (.iload_n 2, 1) := by decide +kernel
theorem d_M_judge_167 : decode mi_M_judge.2.1 167 = .ok (.imul, 1) := by decide +kernel
theorem d_M_judge_168 : decode mi_M_judge.2.1 168 = .ok (.iconst 2, 1) := by decide +kernel
theorem d_M_judge_169 : decode mi_M_judge.2.1 169 = .ok (.iload 5, 2) := by decide +kernel
theorem d_M_judge_171 : decode mi_M_judge.2.1 171 = .ok (.imul, 1) := by decide +kernel
theorem d_M_judge_172 : decode mi_M_judge.2.1 172 = .ok (.iadd, 1) := by decide +kernel
theorem d_M_judge_173 : decode mi_M_judge.2.1 173 = .ok (.iconst 1, 1) := by decide +kernel
theorem d_M_judge_174 : decode mi_M_judge.2.1 174 = .ok (.iadd, 1) := by decide +kernel
theorem d_M_judge_175 : decode mi_M_judge.2.1 175 = .ok (.laload, 1) := by decide +kernel
theorem d_M_judge_176 : decode mi_M_judge.2.1 176 = .ok (.lcmp, 1) := by decide +kernel
theorem d_M_judge_177 : decode mi_M_judge.2.1 177 = .ok (.ifCond .eq 8, 3) := by decide +kernel
theorem d_M_judge_180 : decode mi_M_judge.2.1 180 = .ok (.iload 5, 2) := by decide +kernel
theorem d_M_judge_182 : decode mi_M_judge.2.1 182 = .ok (.goto 5, 3) := by decide +kernel
theorem d_M_judge_185 : decode mi_M_judge.2.1 185 = .ok (.iload 4, 2) := by decide +kernel
theorem d_M_judge_187 : decode mi_M_judge.2.1 187 = .ok (.istore 4, 2) := by decide +kernel
theorem d_M_judge_189 : decode mi_M_judge.2.1 189 = .ok (.iinc 5 (-1), 3) := by decide +kernel
theorem d_M_judge_192 : decode mi_M_judge.2.1 192 = .ok (.goto (-98), 3) := by decide +kernel
theorem d_M_judge_195 : decode mi_M_judge.2.1 195 = .ok (.iload 4, 2) := by decide +kernel
theorem d_M_judge_197 : decode mi_M_judge.2.1 197 = .ok (.ireturn, 1) := by decide +kernel
theorem d_M_days_0 : decode mi_M_days.2.1 0 = .ok (.iload_n 1, 1) := by decide +kernel
theorem d_M_days_1 : decode mi_M_days.2.1 1 = .ok (.i2l, 1) := by decide +kernel
theorem d_M_days_2 : decode mi_M_days.2.1 2 = .ok (.lconst 1, 1) := by decide +kernel
theorem d_M_days_3 : decode mi_M_days.2.1 3 = .ok (.ldc2_w 316, 3) := by decide +kernel
theorem d_M_days_6 : decode mi_M_days.2.1 6 = .ok (.invokestatic 68, 3) := by decide +kernel
theorem d_M_days_9 : decode mi_M_days.2.1 9 = .ok (.ifCond .ne 10, 3) := by decide +kernel
theorem d_M_days_12 : decode mi_M_days.2.1 12 = .ok (.aload_n 0, 1) := by decide +kernel
theorem d_M_days_13 : decode mi_M_days.2.1 13 = .ok (.bipush (-32), 2) := by decide +kernel
theorem d_M_days_15 : decode mi_M_days.2.1 15 = .ok (.invokevirtual 106, 3) := by decide +kernel
theorem d_M_days_18 : decode mi_M_days.2.1 18 = .ok (.ireturn, 1) := by decide +kernel
theorem d_M_days_19 : decode mi_M_days.2.1 19 = .ok (.aload_n 0, 1) := by decide +kernel
theorem d_M_days_20 : decode mi_M_days.2.1 20 = .ok (.getfield 9, 3) := by decide +kernel
theorem d_M_days_23 : decode mi_M_days.2.1 23 = .ok (.iconst 1, 1) := by decide +kernel
theorem d_M_days_24 : decode mi_M_days.2.1 24 = .ok (.iaload, 1) := by decide +kernel
theorem d_M_days_25 : decode mi_M_days.2.1 25 = .ok (.ifCond .eq 12, 3) := by decide +kernel
theorem d_M_days_28 : decode mi_M_days.2.1 28 = .ok (.aload_n 0, 1) := by decide +kernel
theorem d_M_days_29 : decode mi_M_days.2.1 29 = .ok (.getfield 9, 3) := by decide +kernel
theorem d_M_days_32 : decode mi_M_days.2.1 32 = .ok (.iconst 0, 1) := by decide +kernel
theorem d_M_days_33 : decode mi_M_days.2.1 33 = .ok (.iaload, 1) := by decide +kernel
theorem d_M_days_34 : decode mi_M_days.2.1 34 = .ok (.ifCond .ne 10, 3) := by decide +kernel
theorem d_M_days_37 : decode mi_M_days.2.1 37 = .ok (.aload_n 0, 1) := by decide +kernel
theorem d_M_days_38 : decode mi_M_days.2.1 38 = .ok (.bipush (-35), 2) := by decide +kernel
theorem d_M_days_40 : decode mi_M_days.2.1 40 = .ok (.invokevirtual 106, 3) := by decide +kernel
theorem d_M_days_43 : decode mi_M_days.2.1 43 = .ok (.ireturn, 1) := by decide +kernel
theorem d_M_days_44 : decode mi_M_days.2.1 44 = .ok (.iconst 0, 1) := by decide +kernel
theorem d_M_days_45 : decode mi_M_days.2.1 45 = .ok (.istore_n 2, 1) := by decide +kernel
theorem d_M_days_46 : decode mi_M_days.2.1 46 = .ok (.iconst 0, 1) := by decide +kernel
theorem d_M_days_47 : decode mi_M_days.2.1 47 = .ok (.istore_n 3, 1) := by decide +kernel
theorem d_M_days_48 : decode mi_M_days.2.1 48 = .ok (.iload_n 3, 1) := by decide +kernel
theorem d_M_days_49 : decode mi_M_days.2.1 49 = .ok (.iload_n 1, 1) := by decide +kernel
theorem d_M_days_50 : decode mi_M_days.2.1 50 = .ok (.if_icmp .ge 74, 3) := by decide +kernel
theorem d_M_days_53 : decode mi_M_days.2.1 53 = .ok (.aload_n 0, 1) := by decide +kernel
theorem d_M_days_54 : decode mi_M_days.2.1 54 = .ok (.aload_n 0, 1) := by decide +kernel
theorem d_M_days_55 : decode mi_M_days.2.1 55 = .ok (.getfield 9, 3) := by decide +kernel
theorem d_M_days_58 : decode mi_M_days.2.1 58 = .ok (.iconst 1, 1) := by decide +kernel
theorem d_M_days_59 : decode mi_M_days.2.1 59 = .ok (.iaload, 1) := by decide +kernel
theorem d_M_days_60 : decode mi_M_days.2.1 60 = .ok (.invokevirtual 318, 3) := by decide +kernel
theorem d_M_days_63 : decode mi_M_days.2.1 63 = .ok (.istore 4, 2) := by decide +kernel
theorem d_M_days_65 : decode mi_M_days.2.1 65 = .ok (.iload_n 2, 1) := by decide +kernel
theorem d_M_days_66 : decode mi_M_days.2.1 66 = .ok (.aload_n 0, 1) := by decide +kernel
theorem d_M_days_67 : decode mi_M_days.2.1 67 = .ok (.iload 4, 2) := by decide +kernel
theorem d_M_days_69 : decode mi_M_days.2.1 69 = .ok (.aload_n 0, 1) := by decide +kernel
theorem d_M_days_70 : decode mi_M_days.2.1 70 = .ok (.aload_n 0, 1) := by decide +kernel
theorem d_M_days_71 : decode mi_M_days.2.1 71 = .ok (.getfield 9, 3) := by decide +kernel
theorem d_M_days_74 : decode mi_M_days.2.1 74 = .ok (.iconst 0, 1) := by decide +kernel
theorem d_M_days_75 : decode mi_M_days.2.1 75 = .ok (.iaload, 1) := by decide +kernel
theorem d_M_days_76 : decode mi_M_days.2.1 76 = .ok (.invokevirtual 318, 3) := by decide +kernel
theorem d_M_days_79 : decode mi_M_days.2.1 79 = .ok (.invokevirtual 207, 3) := by decide +kernel
theorem d_M_days_82 : decode mi_M_days.2.1 82 = .ok (.ifCond .eq 7, 3) := by decide +kernel
theorem d_M_days_85 : decode mi_M_days.2.1 85 = .ok (.iconst 1, 1) := by decide +kernel
theorem d_M_days_86 : decode mi_M_days.2.1 86 = .ok (.goto 4, 3) := by decide +kernel
theorem d_M_days_89 : decode mi_M_days.2.1 89 = .ok (.iconst 0, 1) := by decide +kernel
theorem d_M_days_90 : decode mi_M_days.2.1 90 = .ok (.iadd, 1) := by decide +kernel
theorem d_M_days_91 : decode mi_M_days.2.1 91 = .ok (.istore_n 2, 1) := by decide +kernel
theorem d_M_days_92 : decode mi_M_days.2.1 92 = .ok (.aload_n 0, 1) := by decide +kernel
theorem d_M_days_93 : decode mi_M_days.2.1 93 = .ok (.getfield 9, 3) := by decide +kernel
theorem d_M_days_96 : decode mi_M_days.2.1 96 = .ok (.iconst 3, 1) := by decide +kernel
theorem d_M_days_97 : decode mi_M_days.2.1 97 = .ok (.dup2, 1) := by decide +kernel
theorem d_M_days_98 : decode mi_M_days.2.1 98 = .ok (.iaload, 1) := by decide +kernel
theorem d_M_days_99 : decode mi_M_days.2.1 99 = .ok (.aload_n 0, 1) := by decide +kernel
theorem d_M_days_100 : decode mi_M_days.2.1 100 = .ok (.iconst 4, 1) := by decide +kernel
theorem d_M_days_101 : decode mi_M_days.2.1 101 = .ok (.invokevirtual 318, 3) := by decide +kernel
theorem d_M_days_104 : decode mi_M_days.2.1 104 = .ok (.iadd, 1) := by decide +kernel
theorem d_M_days_105 : decode mi_M_days.2.1 105 = .ok (.iastore, 1) := by decide +kernel
theorem d_M_days_106 : decode mi_M_days.2.1 106 = .ok (.aload_n 0, 1) := by decide +kernel
theorem d_M_days_107 : decode mi_M_days.2.1 107 = .ok (.aload_n 0, 1) := by decide +kernel
theorem d_M_days_108 : decode mi_M_days.2.1 108 = .ok (.getfield 9, 3) := by decide +kernel
theorem d_M_days_111 : decode mi_M_days.2.1 111 = .ok (.iconst 3, 1) := by decide +kernel
theorem d_M_days_112 : decode mi_M_days.2.1 112 = .ok (.iaload, 1) := by decide +kernel
theorem d_M_days_113 : decode mi_M_days.2.1 113 = .ok (.invokevirtual 246, 3) := by decide +kernel
theorem d_M_days_116 : decode mi_M_days.2.1 116 = .ok (.istore 5, 2) := by decide +kernel
theorem d_M_days_118 : decode mi_M_days.2.1 118 = .ok (.iinc 3 1, 3) := by decide +kernel
theorem d_M_days_121 : decode mi_M_days.2.1 121 = .ok (.goto (-73), 3) := by decide +kernel
theorem d_M_days_124 : decode mi_M_days.2.1 124 = .ok (.iload_n 2, 1) := by decide +kernel
theorem d_M_days_125 : decode mi_M_days.2.1 125 = .ok (.ireturn, 1) := by decide +kernel
theorem d_M_draw_0 : decode mi_M_draw.2.1 0 = .ok (.aload_n 0, 1) := by decide +kernel
theorem d_M_draw_1 : decode mi_M_draw.2.1 1 = .ok (.getfield 9, 3) := by decide +kernel
theorem d_M_draw_4 : decode mi_M_draw.2.1 4 = .ok (.iconst 5, 1) := by decide +kernel
theorem d_M_draw_5 : decode mi_M_draw.2.1 5 = .ok (.aload_n 0, 1) := by decide +kernel
theorem d_M_draw_6 : decode mi_M_draw.2.1 6 = .ok (.getfield 9, 3) := by decide +kernel
theorem d_M_draw_9 : decode mi_M_draw.2.1 9 = .ok (.iconst 5, 1) := by decide +kernel
theorem d_M_draw_10 : decode mi_M_draw.2.1 10 = .ok (.iaload, 1) := by decide +kernel
theorem d_M_draw_11 : decode mi_M_draw.2.1 11 = .ok (.ldc_w 315, 3) := by decide +kernel
theorem d_M_draw_14 : decode mi_M_draw.2.1 14 = .ok (.imul, 1) := by decide +kernel
theorem d_M_draw_15 : decode mi_M_draw.2.1 15 = .ok (.sipush 12345, 3) := by decide +kernel
theorem d_M_draw_18 : decode mi_M_draw.2.1 18 = .ok (.iadd, 1) := by decide +kernel
theorem d_M_draw_19 : decode mi_M_draw.2.1 19 = .ok (.iastore, 1) := by decide +kernel
theorem d_M_draw_20 : decode mi_M_draw.2.1 20 = .ok (.aload_n 0, 1) := by decide +kernel
theorem d_M_draw_21 : decode mi_M_draw.2.1 21 = .ok (.getfield 9, 3) := by decide +kernel
theorem d_M_draw_24 : decode mi_M_draw.2.1 24 = .ok (.iconst 5, 1) := by decide +kernel
theorem d_M_draw_25 : decode mi_M_draw.2.1 25 = .ok (.iaload, 1) := by decide +kernel
theorem d_M_draw_26 : decode mi_M_draw.2.1 26 = .ok (.bipush 16, 2) := by decide +kernel
theorem d_M_draw_28 : decode mi_M_draw.2.1 28 = .ok (.iushr, 1) := by decide +kernel
theorem d_M_draw_29 : decode mi_M_draw.2.1 29 = .ok (.iload_n 1, 1) := by decide +kernel
theorem d_M_draw_30 : decode mi_M_draw.2.1 30 = .ok (.irem, 1) := by decide +kernel
theorem d_M_draw_31 : decode mi_M_draw.2.1 31 = .ok (.ireturn, 1) := by decide +kernel
theorem d_M_seed_0 : decode mi_M_seed.2.1 0 = .ok (.aload_n 0, 1) := by decide +kernel
theorem d_M_seed_1 : decode mi_M_seed.2.1 1 = .ok (.getfield 9, 3) := by decide +kernel
theorem d_M_seed_4 : decode mi_M_seed.2.1 4 = .ok (.iconst 5, 1) := by decide +kernel
theorem d_M_seed_5 : decode mi_M_seed.2.1 5 = .ok (.iaload, 1) := by decide +kernel
theorem d_M_seed_6 : decode mi_M_seed.2.1 6 = .ok (.istore_n 2, 1) := by decide +kernel
theorem d_M_seed_7 : decode mi_M_seed.2.1 7 = .ok (.aload_n 0, 1) := by decide +kernel
theorem d_M_seed_8 : decode mi_M_seed.2.1 8 = .ok (.getfield 9, 3) := by decide +kernel
theorem d_M_seed_11 : decode mi_M_seed.2.1 11 = .ok (.iconst 5, 1) := by decide +kernel
theorem d_M_seed_12 : decode mi_M_seed.2.1 12 = .ok (.iload_n 1, 1) := by decide +kernel
theorem d_M_seed_13 : decode mi_M_seed.2.1 13 = .ok (.iastore, 1) := by decide +kernel
theorem d_M_seed_14 : decode mi_M_seed.2.1 14 = .ok (.iload_n 2, 1) := by decide +kernel
theorem d_M_seed_15 : decode mi_M_seed.2.1 15 = .ok (.ireturn, 1) := by decide +kernel
theorem d_M_image_0 : decode mi_M_image.2.1 0 = .ok (.aload_n 0, 1) := by decide +kernel
theorem d_M_image_1 : decode mi_M_image.2.1 1 = .ok (.getfield 9, 3) := by decide +kernel
theorem d_M_image_4 : decode mi_M_image.2.1 4 = .ok (.aload_n 0, 1) := by decide +kernel
theorem d_M_image_5 : decode mi_M_image.2.1 5 = .ok (.getfield 16, 3) := by decide +kernel
theorem d_M_image_8 : decode mi_M_image.2.1 8 = .ok (.invokestatic 249, 3) := by decide +kernel
theorem d_M_image_11 : decode mi_M_image.2.1 11 = .ok (.aload_n 0, 1) := by decide +kernel
theorem d_M_image_12 : decode mi_M_image.2.1 12 = .ok (.iconst 1, 1) := by decide +kernel
theorem d_M_image_13 : decode mi_M_image.2.1 13 = .ok (.putfield 321, 3) := by decide +kernel
theorem d_M_image_16 : decode mi_M_image.2.1 16 = .ok (.iconst 1, 1) := by decide +kernel
theorem d_M_image_17 : decode mi_M_image.2.1 17 = .ok (.ireturn, 1) := by decide +kernel
theorem d_M_back_0 : decode mi_M_back.2.1 0 = .ok (.aload_n 0, 1) := by decide +kernel
theorem d_M_back_1 : decode mi_M_back.2.1 1 = .ok (.getfield 321, 3) := by decide +kernel
theorem d_M_back_4 : decode mi_M_back.2.1 4 = .ok (.ifCond .ne 10, 3) := by decide +kernel
theorem d_M_back_7 : decode mi_M_back.2.1 7 = .ok (.aload_n 0, 1) := by decide +kernel
theorem d_M_back_8 : decode mi_M_back.2.1 8 = .ok (.bipush (-35), 2) := by decide +kernel
theorem d_M_back_10 : decode mi_M_back.2.1 10 = .ok (.invokevirtual 106, 3) := by decide +kernel
theorem d_M_back_13 : decode mi_M_back.2.1 13 = .ok (.ireturn, 1) := by decide +kernel
theorem d_M_back_14 : decode mi_M_back.2.1 14 = .ok (.aload_n 0, 1) := by decide +kernel
theorem d_M_back_15 : decode mi_M_back.2.1 15 = .ok (.getfield 16, 3) := by decide +kernel
theorem d_M_back_18 : decode mi_M_back.2.1 18 = .ok (.aload_n 0, 1) := by decide +kernel
theorem d_M_back_19 : decode mi_M_back.2.1 19 = .ok (.getfield 9, 3) := by decide +kernel
theorem d_M_back_22 : decode mi_M_back.2.1 22 = .ok (.invokestatic 249, 3) := by decide +kernel
theorem d_M_back_25 : decode mi_M_back.2.1 25 = .ok (.iconst 1, 1) := by decide +kernel
theorem d_M_back_26 : decode mi_M_back.2.1 26 = .ok (.ireturn, 1) := by decide +kernel
theorem d_M_status_0 : decode mi_M_status.2.1 0 = .ok (.iload_n 1, 1) := by decide +kernel
theorem d_M_status_1 : decode mi_M_status.2.1 1 = .ok (.tableswitch 129 0 10 #[59, 66, 73, 79, 85, 92, 99, 105, 112, 117, 124], 59) := by decide +kernel
theorem d_M_status_60 : decode mi_M_status.2.1 60 = .ok (.aload_n 0, 1) := by decide +kernel
theorem d_M_status_61 : decode mi_M_status.2.1 61 = .ok (.getfield 9, 3) := by decide +kernel
theorem d_M_status_64 : decode mi_M_status.2.1 64 = .ok (.iconst 0, 1) := by decide +kernel
theorem d_M_status_65 : decode mi_M_status.2.1 65 = .ok (.iaload, 1) := by decide +kernel
theorem d_M_status_66 : decode mi_M_status.2.1 66 = .ok (.ireturn, 1) := by decide +kernel
theorem d_M_status_67 : decode mi_M_status.2.1 67 = .ok (.aload_n 0, 1) := by decide +kernel
theorem d_M_status_68 : decode mi_M_status.2.1 68 = .ok (.getfield 9, 3) := by decide +kernel
theorem d_M_status_71 : decode mi_M_status.2.1 71 = .ok (.iconst 1, 1) := by decide +kernel
theorem d_M_status_72 : decode mi_M_status.2.1 72 = .ok (.iaload, 1) := by decide +kernel
theorem d_M_status_73 : decode mi_M_status.2.1 73 = .ok (.ireturn, 1) := by decide +kernel
theorem d_M_status_74 : decode mi_M_status.2.1 74 = .ok (.aload_n 0, 1) := by decide +kernel
theorem d_M_status_75 : decode mi_M_status.2.1 75 = .ok (.iconst 4, 1) := by decide +kernel
theorem d_M_status_76 : decode mi_M_status.2.1 76 = .ok (.invokevirtual 325, 3) := by decide +kernel
theorem d_M_status_79 : decode mi_M_status.2.1 79 = .ok (.ireturn, 1) := by decide +kernel
theorem d_M_status_80 : decode mi_M_status.2.1 80 = .ok (.aload_n 0, 1) := by decide +kernel
theorem d_M_status_81 : decode mi_M_status.2.1 81 = .ok (.iconst 5, 1) := by decide +kernel
theorem d_M_status_82 : decode mi_M_status.2.1 82 = .ok (.invokevirtual 325, 3) := by decide +kernel
theorem d_M_status_85 : decode mi_M_status.2.1 85 = .ok (.ireturn, 1) := by decide +kernel
theorem d_M_status_86 : decode mi_M_status.2.1 86 = .ok (.aload_n 0, 1) := by decide +kernel
theorem d_M_status_87 : decode mi_M_status.2.1 87 = .ok (.getfield 9, 3) := by decide +kernel
theorem d_M_status_90 : decode mi_M_status.2.1 90 = .ok (.iconst 2, 1) := by decide +kernel
theorem d_M_status_91 : decode mi_M_status.2.1 91 = .ok (.iaload, 1) := by decide +kernel
theorem d_M_status_92 : decode mi_M_status.2.1 92 = .ok (.ireturn, 1) := by decide +kernel
theorem d_M_status_93 : decode mi_M_status.2.1 93 = .ok (.aload_n 0, 1) := by decide +kernel
theorem d_M_status_94 : decode mi_M_status.2.1 94 = .ok (.getfield 9, 3) := by decide +kernel
theorem d_M_status_97 : decode mi_M_status.2.1 97 = .ok (.iconst 3, 1) := by decide +kernel
theorem d_M_status_98 : decode mi_M_status.2.1 98 = .ok (.iaload, 1) := by decide +kernel
theorem d_M_status_99 : decode mi_M_status.2.1 99 = .ok (.ireturn, 1) := by decide +kernel
theorem d_M_status_100 : decode mi_M_status.2.1 100 = .ok (.aload_n 0, 1) := by decide +kernel
theorem d_M_status_101 : decode mi_M_status.2.1 101 = .ok (.iconst (-1), 1) := by decide +kernel
theorem d_M_status_102 : decode mi_M_status.2.1 102 = .ok (.invokevirtual 325, 3) := by decide +kernel
theorem d_M_status_105 : decode mi_M_status.2.1 105 = .ok (.ireturn, 1) := by decide +kernel
theorem d_M_status_106 : decode mi_M_status.2.1 106 = .ok (.aload_n 0, 1) := by decide +kernel
theorem d_M_status_107 : decode mi_M_status.2.1 107 = .ok (.getfield 9, 3) := by decide +kernel
theorem d_M_status_110 : decode mi_M_status.2.1 110 = .ok (.iconst 4, 1) := by decide +kernel
theorem d_M_status_111 : decode mi_M_status.2.1 111 = .ok (.iaload, 1) := by decide +kernel
theorem d_M_status_112 : decode mi_M_status.2.1 112 = .ok (.ireturn, 1) := by decide +kernel
theorem d_M_status_113 : decode mi_M_status.2.1 113 = .ok (.aload_n 0, 1) := by decide +kernel
theorem d_M_status_114 : decode mi_M_status.2.1 114 = .ok (.getfield 109, 3) := by decide +kernel
theorem d_M_status_117 : decode mi_M_status.2.1 117 = .ok (.ireturn, 1) := by decide +kernel
theorem d_M_status_118 : decode mi_M_status.2.1 118 = .ok (.aload_n 0, 1) := by decide +kernel
theorem d_M_status_119 : decode mi_M_status.2.1 119 = .ok (.getfield 9, 3) := by decide +kernel
theorem d_M_status_122 : decode mi_M_status.2.1 122 = .ok (.iconst 5, 1) := by decide +kernel
theorem d_M_status_123 : decode mi_M_status.2.1 123 = .ok (.iaload, 1) := by decide +kernel
theorem d_M_status_124 : decode mi_M_status.2.1 124 = .ok (.ireturn, 1) := by decide +kernel
theorem d_M_status_125 : decode mi_M_status.2.1 125 = .ok (.aload_n 0, 1) := by decide +kernel
theorem d_M_status_126 : decode mi_M_status.2.1 126 = .ok (.invokevirtual 328, 3) := by decide +kernel
theorem d_M_status_129 : decode mi_M_status.2.1 129 = .ok (.ireturn, 1) := by decide +kernel
theorem d_M_status_130 : decode mi_M_status.2.1 130 = .ok (.iload_n 1, 1) := by decide +kernel
theorem d_M_status_131 : decode mi_M_status.2.1 131 = .ok (.i2l, 1) := by decide +kernel
theorem d_M_status_132 : decode mi_M_status.2.1 132 = .ok (.ldc2_w 331, 3) := by decide +kernel
theorem d_M_status_135 : decode mi_M_status.2.1 135 = .ok (.ldc2_w 333, 3) := by decide +kernel
theorem d_M_status_138 : decode mi_M_status.2.1 138 = .ok (.invokestatic 68, 3) := by decide +kernel
theorem d_M_status_141 : decode mi_M_status.2.1 141 = .ok (.ifCond .eq 15, 3) := by decide +kernel
theorem d_M_status_144 : decode mi_M_status.2.1 144 = .ok (.aload_n 0, 1) := by decide +kernel
theorem d_M_status_145 : decode mi_M_status.2.1 145 = .ok (.getfield 19, 3) := by decide +kernel
theorem d_M_status_148 : decode mi_M_status.2.1 148 = .ok (.iload_n 1, 1) := by decide +kernel
theorem d_M_status_149 : decode mi_M_status.2.1 149 = .ok (.bipush 12, 2) := by decide +kernel
theorem d_M_status_151 : decode mi_M_status.2.1 151 = .ok (.isub, 1) := by decide +kernel
theorem d_M_status_152 : decode mi_M_status.2.1 152 = .ok (.iaload, 1) := by decide +kernel
theorem d_M_status_153 : decode mi_M_status.2.1 153 = .ok (.goto 4, 3) := by decide +kernel
theorem d_M_status_156 : decode mi_M_status.2.1 156 = .ok (.iconst (-1), 1) := by decide +kernel
theorem d_M_status_157 : decode mi_M_status.2.1 157 = .ok (.ireturn, 1) := by decide +kernel
theorem d_M_sum_0 : decode mi_M_sum.2.1 0 = .ok (.iconst 0, 1) := by decide +kernel
theorem d_M_sum_1 : decode mi_M_sum.2.1 1 = .ok (.istore_n 2, 1) := by decide +kernel
theorem d_M_sum_2 : decode mi_M_sum.2.1 2 = .ok (.iconst 0, 1) := by decide +kernel
theorem d_M_sum_3 : decode mi_M_sum.2.1 3 = .ok (.istore_n 3, 1) := by decide +kernel
theorem d_M_sum_4 : decode mi_M_sum.2.1 4 = .ok (.iload_n 3, 1) := by decide +kernel
theorem d_M_sum_5 : decode mi_M_sum.2.1 5 = .ok (.aload_n 0, 1) := by decide +kernel
theorem d_M_sum_6 : decode mi_M_sum.2.1 6 = .ok (.getfield 9, 3) := by decide +kernel
theorem d_M_sum_9 : decode mi_M_sum.2.1 9 = .ok (.iconst 1, 1) := by decide +kernel
theorem d_M_sum_10 : decode mi_M_sum.2.1 10 = .ok (.iaload, 1) := by decide +kernel
theorem d_M_sum_11 : decode mi_M_sum.2.1 11 = .ok (.if_icmp .ge 30, 3) := by decide +kernel
theorem d_M_sum_14 : decode mi_M_sum.2.1 14 = .ok (.iload_n 2, 1) := by decide +kernel
theorem d_M_sum_15 : decode mi_M_sum.2.1 15 = .ok (.iload_n 1, 1) := by decide +kernel
theorem d_M_sum_16 : decode mi_M_sum.2.1 16 = .ok (.ifCond .ge 11, 3) := by decide +kernel
theorem d_M_sum_19 : decode mi_M_sum.2.1 19 = .ok (.aload_n 0, 1) := by decide +kernel
theorem d_M_sum_20 : decode mi_M_sum.2.1 20 = .ok (.iload_n 3, 1) := by decide +kernel
theorem d_M_sum_21 : decode mi_M_sum.2.1 21 = .ok (.invokevirtual 260, 3) := by decide +kernel
theorem d_M_sum_24 : decode mi_M_sum.2.1 24 = .ok (.goto 9, 3) := by decide +kernel
theorem d_M_sum_27 : decode mi_M_sum.2.1 27 = .ok (.aload_n 0, 1) := by decide +kernel
theorem d_M_sum_28 : decode mi_M_sum.2.1 28 = .ok (.iload_n 3, 1) := by decide +kernel
theorem d_M_sum_29 : decode mi_M_sum.2.1 29 = .ok (.iload_n 1, 1) := by decide +kernel
theorem d_M_sum_30 : decode mi_M_sum.2.1 30 = .ok (.invokevirtual 76, 3) := by decide +kernel
theorem d_M_sum_33 : decode mi_M_sum.2.1 33 = .ok (.iadd, 1) := by decide +kernel
theorem d_M_sum_34 : decode mi_M_sum.2.1 34 = .ok (.istore_n 2, 1) := by decide +kernel
theorem d_M_sum_35 : decode mi_M_sum.2.1 35 = .ok (.iinc 3 1, 3) := by decide +kernel
theorem d_M_sum_38 : decode mi_M_sum.2.1 38 = .ok (.goto (-34), 3) := by decide +kernel
theorem d_M_sum_41 : decode mi_M_sum.2.1 41 = .ok (.iload_n 2, 1) := by decide +kernel
theorem d_M_sum_42 : decode mi_M_sum.2.1 42 = .ok (.ireturn, 1) := by decide +kernel
theorem d_M_held_0 : decode mi_M_held.2.1 0 = .ok (.iconst 0, 1) := by decide +kernel
theorem d_M_held_1 : decode mi_M_held.2.1 1 = .ok (.istore_n 1, 1) := by decide +kernel
theorem d_M_held_2 : decode mi_M_held.2.1 2 = .ok (.iconst 0, 1) := by decide +kernel
theorem d_M_held_3 : decode mi_M_held.2.1 3 = .ok (.istore_n 2, 1) := by decide +kernel
theorem d_M_held_4 : decode mi_M_held.2.1 4 = .ok (.iload_n 2, 1) := by decide +kernel
theorem d_M_held_5 : decode mi_M_held.2.1 5 = .ok (.bipush 8, 2) := by decide +kernel
theorem d_M_held_7 : decode mi_M_held.2.1 7 = .ok (.if_icmp .ge 26, 3) := by decide +kernel
theorem d_M_held_10 : decode mi_M_held.2.1 10 = .ok (.iload_n 1, 1) := by decide +kernel
theorem d_M_held_11 : decode mi_M_held.2.1 11 = .ok (.aload_n 0, 1) := by decide +kernel
theorem d_M_held_12 : decode mi_M_held.2.1 12 = .ok (.getfield 55, 3) := by decide +kernel
theorem d_M_held_15 : decode mi_M_held.2.1 15 = .ok (.iload_n 2, 1) := by decide +kernel
theorem d_M_held_16 : decode mi_M_held.2.1 16 = .ok (.iaload, 1) := by decide +kernel
theorem d_M_held_17 : decode mi_M_held.2.1 17 = .ok (.ifCond .lt 7, 3) := by decide +kernel
theorem d_M_held_20 : decode mi_M_held.2.1 20 = .ok (.iconst 1, 1) := by decide +kernel
theorem d_M_held_21 : decode mi_M_held.2.1 21 = .ok (.goto 4, 3) := by decide +kernel
theorem d_M_held_24 : decode mi_M_held.2.1 24 = .ok (.iconst 0, 1) := by decide +kernel
theorem d_M_held_25 : decode mi_M_held.2.1 25 = .ok (.iadd, 1) := by decide +kernel
theorem d_M_held_26 : decode mi_M_held.2.1 26 = .ok (.istore_n 1, 1) := by decide +kernel
theorem d_M_held_27 : decode mi_M_held.2.1 27 = .ok (.iinc 2 1, 3) := by decide +kernel
theorem d_M_held_30 : decode mi_M_held.2.1 30 = .ok (.goto (-26), 3) := by decide +kernel
theorem d_M_held_33 : decode mi_M_held.2.1 33 = .ok (.iload_n 1, 1) := by decide +kernel
theorem d_M_held_34 : decode mi_M_held.2.1 34 = .ok (.ireturn, 1) := by decide +kernel
