theorem dX8_init_0 : decode cX8_init 0 = .ok (.aload_n 0, 1) := by decide +kernel
theorem dX8_init_1 : decode cX8_init 1 = .ok (.invokespecial 1, 3) := by decide +kernel
theorem dX8_init_4 : decode cX8_init 4 = .ok (.aload_n 0, 1) := by decide +kernel
theorem dX8_init_5 : decode cX8_init 5 = .ok (.sipush 3108, 3) := by decide +kernel
theorem dX8_init_8 : decode cX8_init 8 = .ok (.newarray .int, 2) := by decide +kernel
theorem dX8_init_10 : decode cX8_init 10 = .ok (.putfield 7, 3) := by decide +kernel
theorem dX8_init_13 : decode cX8_init 13 = .ok (.aload_n 0, 1) := by decide +kernel
theorem dX8_init_14 : decode cX8_init 14 = .ok (.sipush 3108, 3) := by decide +kernel
theorem dX8_init_17 : decode cX8_init 17 = .ok (.newarray .int, 2) := by decide +kernel
theorem dX8_init_19 : decode cX8_init 19 = .ok (.putfield 13, 3) := by decide +kernel
theorem dX8_init_22 : decode cX8_init 22 = .ok (.aload_n 0, 1) := by decide +kernel
theorem dX8_init_23 : decode cX8_init 23 = .ok (.sipush 3108, 3) := by decide +kernel
theorem dX8_init_26 : decode cX8_init 26 = .ok (.newarray .int, 2) := by decide +kernel
theorem dX8_init_28 : decode cX8_init 28 = .ok (.putfield 16, 3) := by decide +kernel
theorem dX8_init_31 : decode cX8_init 31 = .ok (.aload_n 0, 1) := by decide +kernel
theorem dX8_init_32 : decode cX8_init 32 = .ok (.iconst 4, 1) := by decide +kernel
theorem dX8_init_33 : decode cX8_init 33 = .ok (.newarray .int, 2) := by decide +kernel
theorem dX8_init_35 : decode cX8_init 35 = .ok (.putfield 19, 3) := by decide +kernel
theorem dX8_init_38 : decode cX8_init 38 = .ok (.aload_n 0, 1) := by decide +kernel
theorem dX8_init_39 : decode cX8_init 39 = .ok (.iconst 4, 1) := by decide +kernel
theorem dX8_init_40 : decode cX8_init 40 = .ok (.newarray .int, 2) := by decide +kernel
theorem dX8_init_42 : decode cX8_init 42 = .ok (.putfield 22, 3) := by decide +kernel
theorem dX8_init_45 : decode cX8_init 45 = .ok (.aload_n 0, 1) := by decide +kernel
theorem dX8_init_46 : decode cX8_init 46 = .ok (.bipush 96, 2) := by decide +kernel
theorem dX8_init_48 : decode cX8_init 48 = .ok (.newarray .int, 2) := by decide +kernel
theorem dX8_init_50 : decode cX8_init 50 = .ok (.putfield 25, 3) := by decide +kernel
theorem dX8_init_53 : decode cX8_init 53 = .ok (.aload_n 0, 1) := by decide +kernel
theorem dX8_init_54 : decode cX8_init 54 = .ok (.iconst 5, 1) := by decide +kernel
theorem dX8_init_55 : decode cX8_init 55 = .ok (.newarray .int, 2) := by decide +kernel
theorem dX8_init_57 : decode cX8_init 57 = .ok (.putfield 28, 3) := by decide +kernel
theorem dX8_init_60 : decode cX8_init 60 = .ok (.aload_n 0, 1) := by decide +kernel
theorem dX8_init_61 : decode cX8_init 61 = .ok (.iconst 5, 1) := by decide +kernel
theorem dX8_init_62 : decode cX8_init 62 = .ok (.newarray .int, 2) := by decide +kernel
theorem dX8_init_64 : decode cX8_init 64 = .ok (.putfield 31, 3) := by decide +kernel
theorem dX8_init_67 : decode cX8_init 67 = .ok (.aload_n 0, 1) := by decide +kernel
theorem dX8_init_68 : decode cX8_init 68 = .ok (.iconst 5, 1) := by decide +kernel
theorem dX8_init_69 : decode cX8_init 69 = .ok (.newarray .int, 2) := by decide +kernel
theorem dX8_init_71 : decode cX8_init 71 = .ok (.putfield 34, 3) := by decide +kernel
theorem dX8_init_74 : decode cX8_init 74 = .ok (.aload_n 0, 1) := by decide +kernel
theorem dX8_init_75 : decode cX8_init 75 = .ok (.iconst 5, 1) := by decide +kernel
theorem dX8_init_76 : decode cX8_init 76 = .ok (.newarray .int, 2) := by decide +kernel
theorem dX8_init_78 : decode cX8_init 78 = .ok (.putfield 37, 3) := by decide +kernel
theorem dX8_init_81 : decode cX8_init 81 = .ok (.aload_n 0, 1) := by decide +kernel
theorem dX8_init_82 : decode cX8_init 82 = .ok (.bipush 120, 2) := by decide +kernel
theorem dX8_init_84 : decode cX8_init 84 = .ok (.newarray .int, 2) := by decide +kernel
theorem dX8_init_86 : decode cX8_init 86 = .ok (.putfield 40, 3) := by decide +kernel
theorem dX8_init_89 : decode cX8_init 89 = .ok (.aload_n 0, 1) := by decide +kernel
theorem dX8_init_90 : decode cX8_init 90 = .ok (.bipush 10, 2) := by decide +kernel
theorem dX8_init_92 : decode cX8_init 92 = .ok (.newarray .int, 2) := by decide +kernel
theorem dX8_init_94 : decode cX8_init 94 = .ok (.putfield 43, 3) := by decide +kernel
theorem dX8_init_97 : decode cX8_init 97 = .ok (.aload_n 0, 1) := by decide +kernel
theorem dX8_init_98 : decode cX8_init 98 = .ok (.sipush 1024, 3) := by decide +kernel
theorem dX8_init_101 : decode cX8_init 101 = .ok (.newarray .int, 2) := by decide +kernel
theorem dX8_init_103 : decode cX8_init 103 = .ok (.putfield 46, 3) := by decide +kernel
theorem dX8_init_106 : decode cX8_init 106 = .ok (.aload_n 0, 1) := by decide +kernel
theorem dX8_init_107 : decode cX8_init 107 = .ok (.bipush 108, 2) := by decide +kernel
theorem dX8_init_109 : decode cX8_init 109 = .ok (.newarray .int, 2) := by decide +kernel
theorem dX8_init_111 : decode cX8_init 111 = .ok (.putfield 49, 3) := by decide +kernel
theorem dX8_init_114 : decode cX8_init 114 = .ok (.aload_n 0, 1) := by decide +kernel
theorem dX8_init_115 : decode cX8_init 115 = .ok (.bipush 96, 2) := by decide +kernel
theorem dX8_init_117 : decode cX8_init 117 = .ok (.newarray .int, 2) := by decide +kernel
theorem dX8_init_119 : decode cX8_init 119 = .ok (.putfield 52, 3) := by decide +kernel
theorem dX8_init_122 : decode cX8_init 122 = .ok (.aload_n 0, 1) := by decide +kernel
theorem dX8_init_123 : decode cX8_init 123 = .ok (.sipush 128, 3) := by decide +kernel
theorem dX8_init_126 : decode cX8_init 126 = .ok (.newarray .int, 2) := by decide +kernel
theorem dX8_init_128 : decode cX8_init 128 = .ok (.putfield 55, 3) := by decide +kernel
theorem dX8_init_131 : decode cX8_init 131 = .ok (.aload_n 0, 1) := by decide +kernel
theorem dX8_init_132 : decode cX8_init 132 = .ok (.bipush 100, 2) := by decide +kernel
theorem dX8_init_134 : decode cX8_init 134 = .ok (.newarray .int, 2) := by decide +kernel
theorem dX8_init_136 : decode cX8_init 136 = .ok (.putfield 58, 3) := by decide +kernel
theorem dX8_init_139 : decode cX8_init 139 = .ok (.aload_n 0, 1) := by decide +kernel
theorem dX8_init_140 : decode cX8_init 140 = .ok (.bipush 24, 2) := by decide +kernel
theorem dX8_init_142 : decode cX8_init 142 = .ok (.newarray .int, 2) := by decide +kernel
theorem dX8_init_144 : decode cX8_init 144 = .ok (.putfield 61, 3) := by decide +kernel
theorem dX8_init_147 : decode cX8_init 147 = .ok (.aload_n 0, 1) := by decide +kernel
theorem dX8_init_148 : decode cX8_init 148 = .ok (.bipush 60, 2) := by decide +kernel
theorem dX8_init_150 : decode cX8_init 150 = .ok (.newarray .int, 2) := by decide +kernel
theorem dX8_init_152 : decode cX8_init 152 = .ok (.putfield 64, 3) := by decide +kernel
theorem dX8_init_155 : decode cX8_init 155 = .ok (.aload_n 0, 1) := by decide +kernel
theorem dX8_init_156 : decode cX8_init 156 = .ok (.bipush 60, 2) := by decide +kernel
theorem dX8_init_158 : decode cX8_init 158 = .ok (.newarray .int, 2) := by decide +kernel
theorem dX8_init_160 : decode cX8_init 160 = .ok (.putfield 67, 3) := by decide +kernel
theorem dX8_init_163 : decode cX8_init 163 = .ok (.aload_n 0, 1) := by decide +kernel
theorem dX8_init_164 : decode cX8_init 164 = .ok (.getfield 7, 3) := by decide +kernel
theorem dX8_init_167 : decode cX8_init 167 = .ok (.bipush 6, 2) := by decide +kernel
theorem dX8_init_169 : decode cX8_init 169 = .ok (.iconst 1, 1) := by decide +kernel
theorem dX8_init_170 : decode cX8_init 170 = .ok (.iastore, 1) := by decide +kernel
theorem dX8_init_171 : decode cX8_init 171 = .ok (.iconst 0, 1) := by decide +kernel
theorem dX8_init_172 : decode cX8_init 172 = .ok (.istore_n 1, 1) := by decide +kernel
theorem dX8_init_173 : decode cX8_init 173 = .ok (.iload_n 1, 1) := by decide +kernel
theorem dX8_init_174 : decode cX8_init 174 = .ok (.iconst 4, 1) := by decide +kernel
theorem dX8_init_175 : decode cX8_init 175 = .ok (.if_icmp .ge 16, 3) := by decide +kernel
theorem dX8_init_178 : decode cX8_init 178 = .ok (.aload_n 0, 1) := by decide +kernel
theorem dX8_init_179 : decode cX8_init 179 = .ok (.getfield 19, 3) := by decide +kernel
theorem dX8_init_182 : decode cX8_init 182 = .ok (.iload_n 1, 1) := by decide +kernel
theorem dX8_init_183 : decode cX8_init 183 = .ok (.iconst (-1), 1) := by decide +kernel
theorem dX8_init_184 : decode cX8_init 184 = .ok (.iastore, 1) := by decide +kernel
theorem dX8_init_185 : decode cX8_init 185 = .ok (.iinc 1 1, 3) := by decide +kernel
theorem dX8_init_188 : decode cX8_init 188 = .ok (.goto (-15), 3) := by decide +kernel
theorem dX8_init_191 : decode cX8_init 191 = .ok (.return_, 1) := by decide +kernel
theorem dX8_isIn_0 : decode cX8_isIn 0 = .ok (.lload_n 0, 1) := by decide +kernel
theorem dX8_isIn_1 : decode cX8_isIn 1 = .ok (.lload_n 2, 1) := by decide +kernel
theorem dX8_isIn_2 : decode cX8_isIn 2 = .ok (.lcmp, 1) := by decide +kernel
theorem dX8_isIn_3 : decode cX8_isIn 3 = .ok (.ifCond .lt 14, 3) := by decide +kernel
theorem dX8_isIn_6 : decode cX8_isIn 6 = .ok (.lload_n 0, 1) := by decide +kernel
theorem dX8_isIn_7 : decode cX8_isIn 7 = .ok (.lload 4, 2) := by decide +kernel
theorem dX8_isIn_9 : decode cX8_isIn 9 = .ok (.lcmp, 1) := by decide +kernel
theorem dX8_isIn_10 : decode cX8_isIn 10 = .ok (.ifCond .gt 7, 3) := by decide +kernel
theorem dX8_isIn_13 : decode cX8_isIn 13 = .ok (.iconst 1, 1) := by decide +kernel
theorem dX8_isIn_14 : decode cX8_isIn 14 = .ok (.goto 4, 3) := by decide +kernel
theorem dX8_isIn_17 : decode cX8_isIn 17 = .ok (.iconst 0, 1) := by decide +kernel
theorem dX8_isIn_18 : decode cX8_isIn 18 = .ok (.ireturn, 1) := by decide +kernel
theorem dX8_orNone_0 : decode cX8_orNone 0 = .ok (.iload_n 0, 1) := by decide +kernel
theorem dX8_orNone_1 : decode cX8_orNone 1 = .ok (.ifCond .ge 8, 3) := by decide +kernel
theorem dX8_orNone_4 : decode cX8_orNone 4 = .ok (.ldc 70, 2) := by decide +kernel
theorem dX8_orNone_6 : decode cX8_orNone 6 = .ok (.goto 4, 3) := by decide +kernel
theorem dX8_orNone_9 : decode cX8_orNone 9 = .ok (.iload_n 0, 1) := by decide +kernel
theorem dX8_orNone_10 : decode cX8_orNone 10 = .ok (.ireturn, 1) := by decide +kernel
theorem dX8_within_0 : decode cX8_within 0 = .ok (.iload_n 0, 1) := by decide +kernel
theorem dX8_within_1 : decode cX8_within 1 = .ok (.iload_n 1, 1) := by decide +kernel
theorem dX8_within_2 : decode cX8_within 2 = .ok (.if_icmp .ge 7, 3) := by decide +kernel
theorem dX8_within_5 : decode cX8_within 5 = .ok (.iload_n 1, 1) := by decide +kernel
theorem dX8_within_6 : decode cX8_within 6 = .ok (.goto 13, 3) := by decide +kernel
theorem dX8_within_9 : decode cX8_within 9 = .ok (.iload_n 0, 1) := by decide +kernel
theorem dX8_within_10 : decode cX8_within 10 = .ok (.iload_n 2, 1) := by decide +kernel
theorem dX8_within_11 : decode cX8_within 11 = .ok (.if_icmp .le 7, 3) := by decide +kernel
theorem dX8_within_14 : decode cX8_within 14 = .ok (.iload_n 2, 1) := by decide +kernel
theorem dX8_within_15 : decode cX8_within 15 = .ok (.goto 4, 3) := by decide +kernel
theorem dX8_within_18 : decode cX8_within 18 = .ok (.iload_n 0, 1) := by decide +kernel
theorem dX8_within_19 : decode cX8_within 19 = .ok (.ireturn, 1) := by decide +kernel
theorem dX8_off_0 : decode cX8_off 0 = .ok (.iload_n 0, 1) := by decide +kernel
theorem dX8_off_1 : decode cX8_off 1 = .ok (.iload_n 1, 1) := by decide +kernel
theorem dX8_off_2 : decode cX8_off 2 = .ok (.if_icmp .ge 9, 3) := by decide +kernel
theorem dX8_off_5 : decode cX8_off 5 = .ok (.iload_n 1, 1) := by decide +kernel
theorem dX8_off_6 : decode cX8_off 6 = .ok (.iload_n 0, 1) := by decide +kernel
theorem dX8_off_7 : decode cX8_off 7 = .ok (.isub, 1) := by decide +kernel
theorem dX8_off_8 : decode cX8_off 8 = .ok (.goto 6, 3) := by decide +kernel
theorem dX8_off_11 : decode cX8_off 11 = .ok (.iload_n 0, 1) := by decide +kernel
theorem dX8_off_12 : decode cX8_off 12 = .ok (.iload_n 1, 1) := by decide +kernel
theorem dX8_off_13 : decode cX8_off 13 = .ok (.isub, 1) := by decide +kernel
theorem dX8_off_14 : decode cX8_off 14 = .ok (.ireturn, 1) := by decide +kernel
theorem dX8_becomes_0 : decode cX8_becomes 0 = .ok (.aload_n 0, 1) := by decide +kernel
theorem dX8_becomes_1 : decode cX8_becomes 1 = .ok (.getfield 7, 3) := by decide +kernel
theorem dX8_becomes_4 : decode cX8_becomes 4 = .ok (.iload_n 1, 1) := by decide +kernel
theorem dX8_becomes_5 : decode cX8_becomes 5 = .ok (.iaload, 1) := by decide +kernel
theorem dX8_becomes_6 : decode cX8_becomes 6 = .ok (.istore_n 3, 1) := by decide +kernel
theorem dX8_becomes_7 : decode cX8_becomes 7 = .ok (.aload_n 0, 1) := by decide +kernel
theorem dX8_becomes_8 : decode cX8_becomes 8 = .ok (.getfield 7, 3) := by decide +kernel
theorem dX8_becomes_11 : decode cX8_becomes 11 = .ok (.iload_n 1, 1) := by decide +kernel
theorem dX8_becomes_12 : decode cX8_becomes 12 = .ok (.iload_n 2, 1) := by decide +kernel
theorem dX8_becomes_13 : decode cX8_becomes 13 = .ok (.iastore, 1) := by decide +kernel
theorem dX8_becomes_14 : decode cX8_becomes 14 = .ok (.iload_n 3, 1) := by decide +kernel
theorem dX8_becomes_15 : decode cX8_becomes 15 = .ok (.ireturn, 1) := by decide +kernel
theorem dX8_textAt_0 : decode cX8_textAt 0 = .ok (.bipush 108, 2) := by decide +kernel
theorem dX8_textAt_2 : decode cX8_textAt 2 = .ok (.sipush 200, 3) := by decide +kernel
theorem dX8_textAt_5 : decode cX8_textAt 5 = .ok (.iload_n 1, 1) := by decide +kernel
theorem dX8_textAt_6 : decode cX8_textAt 6 = .ok (.imul, 1) := by decide +kernel
theorem dX8_textAt_7 : decode cX8_textAt 7 = .ok (.iadd, 1) := by decide +kernel
theorem dX8_textAt_8 : decode cX8_textAt 8 = .ok (.ireturn, 1) := by decide +kernel
theorem dX8_of_0 : decode cX8_of 0 = .ok (.aload_n 0, 1) := by decide +kernel
theorem dX8_of_1 : decode cX8_of 1 = .ok (.getfield 7, 3) := by decide +kernel
theorem dX8_of_4 : decode cX8_of 4 = .ok (.bipush 7, 2) := by decide +kernel
theorem dX8_of_6 : decode cX8_of 6 = .ok (.iconst 5, 1) := by decide +kernel
theorem dX8_of_7 : decode cX8_of 7 = .ok (.iload_n 1, 1) := by decide +kernel
theorem dX8_of_8 : decode cX8_of 8 = .ok (.imul, 1) := by decide +kernel
theorem dX8_of_9 : decode cX8_of 9 = .ok (.iadd, 1) := by decide +kernel
theorem dX8_of_10 : decode cX8_of 10 = .ok (.iload_n 2, 1) := by decide +kernel
theorem dX8_of_11 : decode cX8_of 11 = .ok (.iadd, 1) := by decide +kernel
theorem dX8_of_12 : decode cX8_of 12 = .ok (.iaload, 1) := by decide +kernel
theorem dX8_of_13 : decode cX8_of 13 = .ok (.ireturn, 1) := by decide +kernel
theorem dX8_sets_0 : decode cX8_sets 0 = .ok (.aload_n 0, 1) := by decide +kernel
theorem dX8_sets_1 : decode cX8_sets 1 = .ok (.getfield 7, 3) := by decide +kernel
theorem dX8_sets_4 : decode cX8_sets 4 = .ok (.bipush 7, 2) := by decide +kernel
theorem dX8_sets_6 : decode cX8_sets 6 = .ok (.iconst 5, 1) := by decide +kernel
theorem dX8_sets_7 : decode cX8_sets 7 = .ok (.iload_n 1, 1) := by decide +kernel
theorem dX8_sets_8 : decode cX8_sets 8 = .ok (.imul, 1) := by decide +kernel
theorem dX8_sets_9 : decode cX8_sets 9 = .ok (.iadd, 1) := by decide +kernel
theorem dX8_sets_10 : decode cX8_sets 10 = .ok (.iload_n 2, 1) := by decide +kernel
theorem dX8_sets_11 : decode cX8_sets 11 = .ok (.iadd, 1) := by decide +kernel
theorem dX8_sets_12 : decode cX8_sets 12 = .ok (.iload_n 3, 1) := by decide +kernel
theorem dX8_sets_13 : decode cX8_sets 13 = .ok (.iastore, 1) := by decide +kernel
theorem dX8_sets_14 : decode cX8_sets 14 = .ok (.return_, 1) := by decide +kernel
theorem dX8_vowIs_0 : decode cX8_vowIs 0 = .ok (.aload_n 0, 1) := by decide +kernel
theorem dX8_vowIs_1 : decode cX8_vowIs 1 = .ok (.getfield 7, 3) := by decide +kernel
theorem dX8_vowIs_4 : decode cX8_vowIs 4 = .ok (.bipush 57, 2) := by decide +kernel
theorem dX8_vowIs_6 : decode cX8_vowIs 6 = .ok (.iconst 3, 1) := by decide +kernel
theorem dX8_vowIs_7 : decode cX8_vowIs 7 = .ok (.iload_n 1, 1) := by decide +kernel
theorem dX8_vowIs_8 : decode cX8_vowIs 8 = .ok (.imul, 1) := by decide +kernel
theorem dX8_vowIs_9 : decode cX8_vowIs 9 = .ok (.iadd, 1) := by decide +kernel
theorem dX8_vowIs_10 : decode cX8_vowIs 10 = .ok (.iload_n 2, 1) := by decide +kernel
theorem dX8_vowIs_11 : decode cX8_vowIs 11 = .ok (.iadd, 1) := by decide +kernel
theorem dX8_vowIs_12 : decode cX8_vowIs 12 = .ok (.iaload, 1) := by decide +kernel
theorem dX8_vowIs_13 : decode cX8_vowIs 13 = .ok (.ireturn, 1) := by decide +kernel
theorem dX8_isOne_0 : decode cX8_isOne 0 = .ok (.iload_n 1, 1) := by decide +kernel
theorem dX8_isOne_1 : decode cX8_isOne 1 = .ok (.i2l, 1) := by decide +kernel
theorem dX8_isOne_2 : decode cX8_isOne 2 = .ok (.lconst 0, 1) := by decide +kernel
theorem dX8_isOne_3 : decode cX8_isOne 3 = .ok (.aload_n 0, 1) := by decide +kernel
theorem dX8_isOne_4 : decode cX8_isOne 4 = .ok (.getfield 7, 3) := by decide +kernel
theorem dX8_isOne_7 : decode cX8_isOne 7 = .ok (.iconst 0, 1) := by decide +kernel
theorem dX8_isOne_8 : decode cX8_isOne 8 = .ok (.iaload, 1) := by decide +kernel
theorem dX8_isOne_9 : decode cX8_isOne 9 = .ok (.iconst 1, 1) := by decide +kernel
theorem dX8_isOne_10 : decode cX8_isOne 10 = .ok (.isub, 1) := by decide +kernel
theorem dX8_isOne_11 : decode cX8_isOne 11 = .ok (.i2l, 1) := by decide +kernel
theorem dX8_isOne_12 : decode cX8_isOne 12 = .ok (.invokestatic 71, 3) := by decide +kernel
theorem dX8_isOne_15 : decode cX8_isOne 15 = .ok (.ireturn, 1) := by decide +kernel
theorem dX8_isVow_0 : decode cX8_isVow 0 = .ok (.iload_n 1, 1) := by decide +kernel
theorem dX8_isVow_1 : decode cX8_isVow 1 = .ok (.i2l, 1) := by decide +kernel
theorem dX8_isVow_2 : decode cX8_isVow 2 = .ok (.lconst 0, 1) := by decide +kernel
theorem dX8_isVow_3 : decode cX8_isVow 3 = .ok (.aload_n 0, 1) := by decide +kernel
theorem dX8_isVow_4 : decode cX8_isVow 4 = .ok (.getfield 7, 3) := by decide +kernel
theorem dX8_isVow_7 : decode cX8_isVow 7 = .ok (.iconst 3, 1) := by decide +kernel
theorem dX8_isVow_8 : decode cX8_isVow 8 = .ok (.iaload, 1) := by decide +kernel
theorem dX8_isVow_9 : decode cX8_isVow 9 = .ok (.iconst 1, 1) := by decide +kernel
theorem dX8_isVow_10 : decode cX8_isVow 10 = .ok (.isub, 1) := by decide +kernel
theorem dX8_isVow_11 : decode cX8_isVow 11 = .ok (.i2l, 1) := by decide +kernel
theorem dX8_isVow_12 : decode cX8_isVow 12 = .ok (.invokestatic 71, 3) := by decide +kernel
theorem dX8_isVow_15 : decode cX8_isVow 15 = .ok (.ireturn, 1) := by decide +kernel
theorem dX8_isText_0 : decode cX8_isText 0 = .ok (.iload_n 1, 1) := by decide +kernel
theorem dX8_isText_1 : decode cX8_isText 1 = .ok (.i2l, 1) := by decide +kernel
theorem dX8_isText_2 : decode cX8_isText 2 = .ok (.lconst 0, 1) := by decide +kernel
theorem dX8_isText_3 : decode cX8_isText 3 = .ok (.aload_n 0, 1) := by decide +kernel
theorem dX8_isText_4 : decode cX8_isText 4 = .ok (.getfield 7, 3) := by decide +kernel
theorem dX8_isText_7 : decode cX8_isText 7 = .ok (.iconst 1, 1) := by decide +kernel
theorem dX8_isText_8 : decode cX8_isText 8 = .ok (.iaload, 1) := by decide +kernel
theorem dX8_isText_9 : decode cX8_isText 9 = .ok (.iconst 1, 1) := by decide +kernel
theorem dX8_isText_10 : decode cX8_isText 10 = .ok (.isub, 1) := by decide +kernel
theorem dX8_isText_11 : decode cX8_isText 11 = .ok (.i2l, 1) := by decide +kernel
theorem dX8_isText_12 : decode cX8_isText 12 = .ok (.invokestatic 71, 3) := by decide +kernel
theorem dX8_isText_15 : decode cX8_isText 15 = .ok (.ireturn, 1) := by decide +kernel
theorem dX8_drawn_0 : decode cX8_drawn 0 = .ok (.aload_n 0, 1) := by decide +kernel
theorem dX8_drawn_1 : decode cX8_drawn 1 = .ok (.getfield 7, 3) := by decide +kernel
theorem dX8_drawn_4 : decode cX8_drawn 4 = .ok (.bipush 6, 2) := by decide +kernel
theorem dX8_drawn_6 : decode cX8_drawn 6 = .ok (.aload_n 0, 1) := by decide +kernel
theorem dX8_drawn_7 : decode cX8_drawn 7 = .ok (.getfield 7, 3) := by decide +kernel
theorem dX8_drawn_10 : decode cX8_drawn 10 = .ok (.bipush 6, 2) := by decide +kernel
theorem dX8_drawn_12 : decode cX8_drawn 12 = .ok (.iaload, 1) := by decide +kernel
theorem dX8_drawn_13 : decode cX8_drawn 13 = .ok (.ldc 75, 2) := by decide +kernel
theorem dX8_drawn_15 : decode cX8_drawn 15 = .ok (.imul, 1) := by decide +kernel
theorem dX8_drawn_16 : decode cX8_drawn 16 = .ok (.sipush 12345, 3) := by decide +kernel
theorem dX8_drawn_19 : decode cX8_drawn 19 = .ok (.iadd, 1) := by decide +kernel
theorem dX8_drawn_20 : decode cX8_drawn 20 = .ok (.iastore, 1) := by decide +kernel
theorem dX8_drawn_21 : decode cX8_drawn 21 = .ok (.aload_n 0, 1) := by decide +kernel
theorem dX8_drawn_22 : decode cX8_drawn 22 = .ok (.getfield 7, 3) := by decide +kernel
theorem dX8_drawn_25 : decode cX8_drawn 25 = .ok (.bipush 6, 2) := by decide +kernel
theorem dX8_drawn_27 : decode cX8_drawn 27 = .ok (.iaload, 1) := by decide +kernel
theorem dX8_drawn_28 : decode cX8_drawn 28 = .ok (.bipush 8, 2) := by decide +kernel
theorem dX8_drawn_30 : decode cX8_drawn 30 = .ok (.iushr, 1) := by decide +kernel
theorem dX8_drawn_31 : decode cX8_drawn 31 = .ok (.ireturn, 1) := by decide +kernel
theorem dX8_comes_0 : decode cX8_comes 0 = .ok (.aload_n 0, 1) := by decide +kernel
theorem dX8_comes_1 : decode cX8_comes 1 = .ok (.getfield 7, 3) := by decide +kernel
theorem dX8_comes_4 : decode cX8_comes 4 = .ok (.iconst 0, 1) := by decide +kernel
theorem dX8_comes_5 : decode cX8_comes 5 = .ok (.iaload, 1) := by decide +kernel
theorem dX8_comes_6 : decode cX8_comes 6 = .ok (.istore 4, 2) := by decide +kernel
theorem dX8_comes_8 : decode cX8_comes 8 = .ok (.aload_n 0, 1) := by decide +kernel
theorem dX8_comes_9 : decode cX8_comes 9 = .ok (.getfield 7, 3) := by decide +kernel
theorem dX8_comes_12 : decode cX8_comes 12 = .ok (.iconst 0, 1) := by decide +kernel
theorem dX8_comes_13 : decode cX8_comes 13 = .ok (.dup2, 1) := by decide +kernel
theorem dX8_comes_14 : decode cX8_comes 14 = .ok (.iaload, 1) := by decide +kernel
theorem dX8_comes_15 : decode cX8_comes 15 = .ok (.iconst 1, 1) := by decide +kernel
theorem dX8_comes_16 : decode cX8_comes 16 = .ok (.iadd, 1) := by decide +kernel
theorem dX8_comes_17 : decode cX8_comes 17 = .ok (.iastore, 1) := by decide +kernel
theorem dX8_comes_18 : decode cX8_comes 18 = .ok (.aload_n 0, 1) := by decide +kernel
theorem dX8_comes_19 : decode cX8_comes 19 = .ok (.iload 4, 2) := by decide +kernel
theorem dX8_comes_21 : decode cX8_comes 21 = .ok (.iconst 0, 1) := by decide +kernel
theorem dX8_comes_22 : decode cX8_comes 22 = .ok (.iload_n 1, 1) := by decide +kernel
theorem dX8_comes_23 : decode cX8_comes 23 = .ok (.invokevirtual 76, 3) := by decide +kernel
theorem dX8_comes_26 : decode cX8_comes 26 = .ok (.aload_n 0, 1) := by decide +kernel
theorem dX8_comes_27 : decode cX8_comes 27 = .ok (.iload 4, 2) := by decide +kernel
theorem dX8_comes_29 : decode cX8_comes 29 = .ok (.iconst 1, 1) := by decide +kernel
theorem dX8_comes_30 : decode cX8_comes 30 = .ok (.iload_n 2, 1) := by decide +kernel
theorem dX8_comes_31 : decode cX8_comes 31 = .ok (.invokevirtual 76, 3) := by decide +kernel
theorem dX8_comes_34 : decode cX8_comes 34 = .ok (.aload_n 0, 1) := by decide +kernel
theorem dX8_comes_35 : decode cX8_comes 35 = .ok (.iload 4, 2) := by decide +kernel
theorem dX8_comes_37 : decode cX8_comes 37 = .ok (.iconst 2, 1) := by decide +kernel
theorem dX8_comes_38 : decode cX8_comes 38 = .ok (.iload_n 3, 1) := by decide +kernel
theorem dX8_comes_39 : decode cX8_comes 39 = .ok (.invokevirtual 76, 3) := by decide +kernel
theorem dX8_comes_42 : decode cX8_comes 42 = .ok (.aload_n 0, 1) := by decide +kernel
theorem dX8_comes_43 : decode cX8_comes 43 = .ok (.iload 4, 2) := by decide +kernel
theorem dX8_comes_45 : decode cX8_comes 45 = .ok (.iconst 3, 1) := by decide +kernel
theorem dX8_comes_46 : decode cX8_comes 46 = .ok (.iconst 0, 1) := by decide +kernel
theorem dX8_comes_47 : decode cX8_comes 47 = .ok (.invokevirtual 76, 3) := by decide +kernel
theorem dX8_comes_50 : decode cX8_comes 50 = .ok (.aload_n 0, 1) := by decide +kernel
theorem dX8_comes_51 : decode cX8_comes 51 = .ok (.iload 4, 2) := by decide +kernel
theorem dX8_comes_53 : decode cX8_comes 53 = .ok (.iconst 4, 1) := by decide +kernel
theorem dX8_comes_54 : decode cX8_comes 54 = .ok (.iconst (-1), 1) := by decide +kernel
theorem dX8_comes_55 : decode cX8_comes 55 = .ok (.invokevirtual 76, 3) := by decide +kernel
theorem dX8_comes_58 : decode cX8_comes 58 = .ok (.return_, 1) := by decide +kernel
theorem dX8_person_0 : decode cX8_person 0 = .ok (.iload_n 1, 1) := by decide +kernel
theorem dX8_person_1 : decode cX8_person 1 = .ok (.i2l, 1) := by decide +kernel
theorem dX8_person_2 : decode cX8_person 2 = .ok (.lconst 0, 1) := by decide +kernel
theorem dX8_person_3 : decode cX8_person 3 = .ok (.ldc2_w 80, 3) := by decide +kernel
theorem dX8_person_6 : decode cX8_person 6 = .ok (.invokestatic 71, 3) := by decide +kernel
theorem dX8_person_9 : decode cX8_person 9 = .ok (.ifCond .eq 27, 3) := by decide +kernel
theorem dX8_person_12 : decode cX8_person 12 = .ok (.iload_n 2, 1) := by decide +kernel
theorem dX8_person_13 : decode cX8_person 13 = .ok (.i2l, 1) := by decide +kernel
theorem dX8_person_14 : decode cX8_person 14 = .ok (.lconst 0, 1) := by decide +kernel
theorem dX8_person_15 : decode cX8_person 15 = .ok (.ldc2_w 82, 3) := by decide +kernel
theorem dX8_person_18 : decode cX8_person 18 = .ok (.invokestatic 71, 3) := by decide +kernel
theorem dX8_person_21 : decode cX8_person 21 = .ok (.ifCond .eq 15, 3) := by decide +kernel
theorem dX8_person_24 : decode cX8_person 24 = .ok (.iload_n 3, 1) := by decide +kernel
theorem dX8_person_25 : decode cX8_person 25 = .ok (.i2l, 1) := by decide +kernel
theorem dX8_person_26 : decode cX8_person 26 = .ok (.lconst 0, 1) := by decide +kernel
theorem dX8_person_27 : decode cX8_person 27 = .ok (.ldc2_w 84, 3) := by decide +kernel
theorem dX8_person_30 : decode cX8_person 30 = .ok (.invokestatic 71, 3) := by decide +kernel
theorem dX8_person_33 : decode cX8_person 33 = .ok (.ifCond .ne 6, 3) := by decide +kernel
theorem dX8_person_36 : decode cX8_person 36 = .ok (.ldc 86, 2) := by decide +kernel
theorem dX8_person_38 : decode cX8_person 38 = .ok (.ireturn, 1) := by decide +kernel
theorem dX8_person_39 : decode cX8_person 39 = .ok (.aload_n 0, 1) := by decide +kernel
theorem dX8_person_40 : decode cX8_person 40 = .ok (.getfield 7, 3) := by decide +kernel
theorem dX8_person_43 : decode cX8_person 43 = .ok (.iconst 0, 1) := by decide +kernel
theorem dX8_person_44 : decode cX8_person 44 = .ok (.iaload, 1) := by decide +kernel
theorem dX8_person_45 : decode cX8_person 45 = .ok (.bipush 10, 2) := by decide +kernel
theorem dX8_person_47 : decode cX8_person 47 = .ok (.if_icmp .ne 6, 3) := by decide +kernel
theorem dX8_person_50 : decode cX8_person 50 = .ok (.ldc 87, 2) := by decide +kernel
theorem dX8_person_52 : decode cX8_person 52 = .ok (.ireturn, 1) := by decide +kernel
theorem dX8_person_53 : decode cX8_person 53 = .ok (.aload_n 0, 1) := by decide +kernel
theorem dX8_person_54 : decode cX8_person 54 = .ok (.iload_n 1, 1) := by decide +kernel
theorem dX8_person_55 : decode cX8_person 55 = .ok (.iload_n 2, 1) := by decide +kernel
theorem dX8_person_56 : decode cX8_person 56 = .ok (.iload_n 3, 1) := by decide +kernel
theorem dX8_person_57 : decode cX8_person 57 = .ok (.invokevirtual 88, 3) := by decide +kernel
theorem dX8_person_60 : decode cX8_person 60 = .ok (.aload_n 0, 1) := by decide +kernel
theorem dX8_person_61 : decode cX8_person 61 = .ok (.getfield 7, 3) := by decide +kernel
theorem dX8_person_64 : decode cX8_person 64 = .ok (.iconst 0, 1) := by decide +kernel
theorem dX8_person_65 : decode cX8_person 65 = .ok (.iaload, 1) := by decide +kernel
theorem dX8_person_66 : decode cX8_person 66 = .ok (.iconst 1, 1) := by decide +kernel
theorem dX8_person_67 : decode cX8_person 67 = .ok (.isub, 1) := by decide +kernel
theorem dX8_person_68 : decode cX8_person 68 = .ok (.ireturn, 1) := by decide +kernel
theorem dX8_manyBy_0 : decode cX8_manyBy 0 = .ok (.iconst 0, 1) := by decide +kernel
theorem dX8_manyBy_1 : decode cX8_manyBy 1 = .ok (.istore_n 3, 1) := by decide +kernel
theorem dX8_manyBy_2 : decode cX8_manyBy 2 = .ok (.iconst 0, 1) := by decide +kernel
theorem dX8_manyBy_3 : decode cX8_manyBy 3 = .ok (.istore 4, 2) := by decide +kernel
theorem dX8_manyBy_5 : decode cX8_manyBy 5 = .ok (.iload 4, 2) := by decide +kernel
theorem dX8_manyBy_7 : decode cX8_manyBy 7 = .ok (.aload_n 0, 1) := by decide +kernel
theorem dX8_manyBy_8 : decode cX8_manyBy 8 = .ok (.getfield 7, 3) := by decide +kernel
theorem dX8_manyBy_11 : decode cX8_manyBy 11 = .ok (.iconst 3, 1) := by decide +kernel
theorem dX8_manyBy_12 : decode cX8_manyBy 12 = .ok (.iaload, 1) := by decide +kernel
theorem dX8_manyBy_13 : decode cX8_manyBy 13 = .ok (.if_icmp .ge 28, 3) := by decide +kernel
theorem dX8_manyBy_16 : decode cX8_manyBy 16 = .ok (.iload_n 3, 1) := by decide +kernel
theorem dX8_manyBy_17 : decode cX8_manyBy 17 = .ok (.aload_n 0, 1) := by decide +kernel
theorem dX8_manyBy_18 : decode cX8_manyBy 18 = .ok (.iload 4, 2) := by decide +kernel
theorem dX8_manyBy_20 : decode cX8_manyBy 20 = .ok (.iload_n 2, 1) := by decide +kernel
theorem dX8_manyBy_21 : decode cX8_manyBy 21 = .ok (.invokevirtual 91, 3) := by decide +kernel
theorem dX8_manyBy_24 : decode cX8_manyBy 24 = .ok (.iload_n 1, 1) := by decide +kernel
theorem dX8_manyBy_25 : decode cX8_manyBy 25 = .ok (.if_icmp .ne 7, 3) := by decide +kernel
theorem dX8_manyBy_28 : decode cX8_manyBy 28 = .ok (.iconst 1, 1) := by decide +kernel
theorem dX8_manyBy_29 : decode cX8_manyBy 29 = .ok (.goto 4, 3) := by decide +kernel
theorem dX8_manyBy_32 : decode cX8_manyBy 32 = .ok (.iconst 0, 1) := by decide +kernel
theorem dX8_manyBy_33 : decode cX8_manyBy 33 = .ok (.iadd, 1) := by decide +kernel
theorem dX8_manyBy_34 : decode cX8_manyBy 34 = .ok (.istore_n 3, 1) := by decide +kernel
theorem dX8_manyBy_35 : decode cX8_manyBy 35 = .ok (.iinc 4 1, 3) := by decide +kernel
theorem dX8_manyBy_38 : decode cX8_manyBy 38 = .ok (.goto (-33), 3) := by decide +kernel
theorem dX8_manyBy_41 : decode cX8_manyBy 41 = .ok (.iload_n 3, 1) := by decide +kernel
theorem dX8_manyBy_42 : decode cX8_manyBy 42 = .ok (.ireturn, 1) := by decide +kernel
theorem dX8_keeps_0 : decode cX8_keeps 0 = .ok (.aload_n 0, 1) := by decide +kernel
theorem dX8_keeps_1 : decode cX8_keeps 1 = .ok (.iload_n 1, 1) := by decide +kernel
theorem dX8_keeps_2 : decode cX8_keeps 2 = .ok (.iconst 0, 1) := by decide +kernel
theorem dX8_keeps_3 : decode cX8_keeps 3 = .ok (.invokevirtual 91, 3) := by decide +kernel
theorem dX8_keeps_6 : decode cX8_keeps 6 = .ok (.istore_n 2, 1) := by decide +kernel
theorem dX8_keeps_7 : decode cX8_keeps 7 = .ok (.aload_n 0, 1) := by decide +kernel
theorem dX8_keeps_8 : decode cX8_keeps 8 = .ok (.iload_n 2, 1) := by decide +kernel
theorem dX8_keeps_9 : decode cX8_keeps 9 = .ok (.iconst 0, 1) := by decide +kernel
theorem dX8_keeps_10 : decode cX8_keeps 10 = .ok (.invokevirtual 95, 3) := by decide +kernel
theorem dX8_keeps_13 : decode cX8_keeps 13 = .ok (.istore_n 3, 1) := by decide +kernel
theorem dX8_keeps_14 : decode cX8_keeps 14 = .ok (.aload_n 0, 1) := by decide +kernel
theorem dX8_keeps_15 : decode cX8_keeps 15 = .ok (.iload_n 2, 1) := by decide +kernel
theorem dX8_keeps_16 : decode cX8_keeps 16 = .ok (.iconst 2, 1) := by decide +kernel
theorem dX8_keeps_17 : decode cX8_keeps 17 = .ok (.invokevirtual 98, 3) := by decide +kernel
theorem dX8_keeps_20 : decode cX8_keeps 20 = .ok (.iconst 5, 1) := by decide +kernel
theorem dX8_keeps_21 : decode cX8_keeps 21 = .ok (.iload_n 3, 1) := by decide +kernel
theorem dX8_keeps_22 : decode cX8_keeps 22 = .ok (.imul, 1) := by decide +kernel
theorem dX8_keeps_23 : decode cX8_keeps 23 = .ok (.if_icmp .ge 7, 3) := by decide +kernel
theorem dX8_keeps_26 : decode cX8_keeps 26 = .ok (.iconst 0, 1) := by decide +kernel
theorem dX8_keeps_27 : decode cX8_keeps 27 = .ok (.goto 13, 3) := by decide +kernel
theorem dX8_keeps_30 : decode cX8_keeps 30 = .ok (.aload_n 0, 1) := by decide +kernel
theorem dX8_keeps_31 : decode cX8_keeps 31 = .ok (.iload_n 2, 1) := by decide +kernel
theorem dX8_keeps_32 : decode cX8_keeps 32 = .ok (.iconst 2, 1) := by decide +kernel
theorem dX8_keeps_33 : decode cX8_keeps 33 = .ok (.invokevirtual 98, 3) := by decide +kernel
theorem dX8_keeps_36 : decode cX8_keeps 36 = .ok (.iconst 5, 1) := by decide +kernel
theorem dX8_keeps_37 : decode cX8_keeps 37 = .ok (.iload_n 3, 1) := by decide +kernel
theorem dX8_keeps_38 : decode cX8_keeps 38 = .ok (.imul, 1) := by decide +kernel
theorem dX8_keeps_39 : decode cX8_keeps 39 = .ok (.isub, 1) := by decide +kernel
theorem dX8_keeps_40 : decode cX8_keeps 40 = .ok (.istore 4, 2) := by decide +kernel
theorem dX8_keeps_42 : decode cX8_keeps 42 = .ok (.aload_n 0, 1) := by decide +kernel
theorem dX8_keeps_43 : decode cX8_keeps 43 = .ok (.iconst 0, 1) := by decide +kernel
theorem dX8_keeps_44 : decode cX8_keeps 44 = .ok (.invokevirtual 101, 3) := by decide +kernel
theorem dX8_keeps_47 : decode cX8_keeps 47 = .ok (.istore 5, 2) := by decide +kernel
theorem dX8_keeps_49 : decode cX8_keeps 49 = .ok (.iload 5, 2) := by decide +kernel
theorem dX8_keeps_51 : decode cX8_keeps 51 = .ok (.ifCond .lt 51, 3) := by decide +kernel
theorem dX8_keeps_54 : decode cX8_keeps 54 = .ok (.aload_n 0, 1) := by decide +kernel
theorem dX8_keeps_55 : decode cX8_keeps 55 = .ok (.getfield 55, 3) := by decide +kernel
theorem dX8_keeps_58 : decode cX8_keeps 58 = .ok (.bipush 102, 2) := by decide +kernel
theorem dX8_keeps_60 : decode cX8_keeps 60 = .ok (.aload_n 0, 1) := by decide +kernel
theorem dX8_keeps_61 : decode cX8_keeps 61 = .ok (.iload_n 2, 1) := by decide +kernel
theorem dX8_keeps_62 : decode cX8_keeps 62 = .ok (.iconst 2, 1) := by decide +kernel
theorem dX8_keeps_63 : decode cX8_keeps 63 = .ok (.invokevirtual 98, 3) := by decide +kernel
theorem dX8_keeps_66 : decode cX8_keeps 66 = .ok (.iastore, 1) := by decide +kernel
theorem dX8_keeps_67 : decode cX8_keeps 67 = .ok (.aload_n 0, 1) := by decide +kernel
theorem dX8_keeps_68 : decode cX8_keeps 68 = .ok (.getfield 55, 3) := by decide +kernel
theorem dX8_keeps_71 : decode cX8_keeps 71 = .ok (.bipush 110, 2) := by decide +kernel
theorem dX8_keeps_73 : decode cX8_keeps 73 = .ok (.iload_n 3, 1) := by decide +kernel
theorem dX8_keeps_74 : decode cX8_keeps 74 = .ok (.iastore, 1) := by decide +kernel
theorem dX8_keeps_75 : decode cX8_keeps 75 = .ok (.aload_n 0, 1) := by decide +kernel
theorem dX8_keeps_76 : decode cX8_keeps 76 = .ok (.getfield 55, 3) := by decide +kernel
theorem dX8_keeps_79 : decode cX8_keeps 79 = .ok (.bipush 119, 2) := by decide +kernel
theorem dX8_keeps_81 : decode cX8_keeps 81 = .ok (.aload_n 0, 1) := by decide +kernel
theorem dX8_keeps_82 : decode cX8_keeps 82 = .ok (.iload_n 1, 1) := by decide +kernel
theorem dX8_keeps_83 : decode cX8_keeps 83 = .ok (.iconst 2, 1) := by decide +kernel
theorem dX8_keeps_84 : decode cX8_keeps 84 = .ok (.invokevirtual 91, 3) := by decide +kernel
theorem dX8_keeps_87 : decode cX8_keeps 87 = .ok (.iastore, 1) := by decide +kernel
theorem dX8_keeps_88 : decode cX8_keeps 88 = .ok (.aload_n 0, 1) := by decide +kernel
theorem dX8_keeps_89 : decode cX8_keeps 89 = .ok (.iload 5, 2) := by decide +kernel
theorem dX8_keeps_91 : decode cX8_keeps 91 = .ok (.invokevirtual 105, 3) := by decide +kernel
theorem dX8_keeps_94 : decode cX8_keeps 94 = .ok (.iconst 0, 1) := by decide +kernel
theorem dX8_keeps_95 : decode cX8_keeps 95 = .ok (.bipush 100, 2) := by decide +kernel
theorem dX8_keeps_97 : decode cX8_keeps 97 = .ok (.invokestatic 108, 3) := by decide +kernel
theorem dX8_keeps_100 : decode cX8_keeps 100 = .ok (.istore 4, 2) := by decide +kernel
theorem dX8_keeps_102 : decode cX8_keeps 102 = .ok (.iload 4, 2) := by decide +kernel
theorem dX8_keeps_104 : decode cX8_keeps 104 = .ok (.bipush 10, 2) := by decide +kernel
theorem dX8_keeps_106 : decode cX8_keeps 106 = .ok (.iadd, 1) := by decide +kernel
theorem dX8_keeps_107 : decode cX8_keeps 107 = .ok (.iconst 0, 1) := by decide +kernel
theorem dX8_keeps_108 : decode cX8_keeps 108 = .ok (.bipush 100, 2) := by decide +kernel
theorem dX8_keeps_110 : decode cX8_keeps 110 = .ok (.invokestatic 108, 3) := by decide +kernel
theorem dX8_keeps_113 : decode cX8_keeps 113 = .ok (.istore 6, 2) := by decide +kernel
theorem dX8_keeps_115 : decode cX8_keeps 115 = .ok (.iload 4, 2) := by decide +kernel
theorem dX8_keeps_117 : decode cX8_keeps 117 = .ok (.bipush 20, 2) := by decide +kernel
theorem dX8_keeps_119 : decode cX8_keeps 119 = .ok (.isub, 1) := by decide +kernel
theorem dX8_keeps_120 : decode cX8_keeps 120 = .ok (.iconst 0, 1) := by decide +kernel
theorem dX8_keeps_121 : decode cX8_keeps 121 = .ok (.bipush 100, 2) := by decide +kernel
theorem dX8_keeps_123 : decode cX8_keeps 123 = .ok (.invokestatic 108, 3) := by decide +kernel
theorem dX8_keeps_126 : decode cX8_keeps 126 = .ok (.istore 7, 2) := by decide +kernel
theorem dX8_keeps_128 : decode cX8_keeps 128 = .ok (.aload_n 0, 1) := by decide +kernel
theorem dX8_keeps_129 : decode cX8_keeps 129 = .ok (.iload_n 2, 1) := by decide +kernel
theorem dX8_keeps_130 : decode cX8_keeps 130 = .ok (.iconst 0, 1) := by decide +kernel
theorem dX8_keeps_131 : decode cX8_keeps 131 = .ok (.invokevirtual 98, 3) := by decide +kernel
theorem dX8_keeps_134 : decode cX8_keeps 134 = .ok (.tableswitch 59 1 5 #[34, 37, 40, 45, 57], 34) := by decide +kernel
theorem dX8_keeps_168 : decode cX8_keeps 168 = .ok (.iload 6, 2) := by decide +kernel
theorem dX8_keeps_170 : decode cX8_keeps 170 = .ok (.ireturn, 1) := by decide +kernel
theorem dX8_keeps_171 : decode cX8_keeps 171 = .ok (.iload 7, 2) := by decide +kernel
theorem dX8_keeps_173 : decode cX8_keeps 173 = .ok (.ireturn, 1) := by decide +kernel
theorem dX8_keeps_174 : decode cX8_keeps 174 = .ok (.iload 6, 2) := by decide +kernel
theorem dX8_keeps_176 : decode cX8_keeps 176 = .ok (.iconst 2, 1) := by decide +kernel
theorem dX8_keeps_177 : decode cX8_keeps 177 = .ok (.idiv, 1) := by decide +kernel
theorem dX8_keeps_178 : decode cX8_keeps 178 = .ok (.ireturn, 1) := by decide +kernel
theorem dX8_keeps_179 : decode cX8_keeps 179 = .ok (.iload 7, 2) := by decide +kernel
theorem dX8_keeps_181 : decode cX8_keeps 181 = .ok (.bipush 30, 2) := by decide +kernel
theorem dX8_keeps_183 : decode cX8_keeps 183 = .ok (.iadd, 1) := by decide +kernel
theorem dX8_keeps_184 : decode cX8_keeps 184 = .ok (.iconst 0, 1) := by decide +kernel
theorem dX8_keeps_185 : decode cX8_keeps 185 = .ok (.bipush 100, 2) := by decide +kernel
theorem dX8_keeps_187 : decode cX8_keeps 187 = .ok (.invokestatic 108, 3) := by decide +kernel
theorem dX8_keeps_190 : decode cX8_keeps 190 = .ok (.ireturn, 1) := by decide +kernel
theorem dX8_keeps_191 : decode cX8_keeps 191 = .ok (.iconst 0, 1) := by decide +kernel
theorem dX8_keeps_192 : decode cX8_keeps 192 = .ok (.ireturn, 1) := by decide +kernel
theorem dX8_keeps_193 : decode cX8_keeps 193 = .ok (.iload 4, 2) := by decide +kernel
theorem dX8_keeps_195 : decode cX8_keeps 195 = .ok (.ireturn, 1) := by decide +kernel
theorem dX8_noon_0 : decode cX8_noon 0 = .ok (.aload_n 0, 1) := by decide +kernel
theorem dX8_noon_1 : decode cX8_noon 1 = .ok (.iload_n 1, 1) := by decide +kernel
theorem dX8_noon_2 : decode cX8_noon 2 = .ok (.iconst 0, 1) := by decide +kernel
theorem dX8_noon_3 : decode cX8_noon 3 = .ok (.invokevirtual 98, 3) := by decide +kernel
theorem dX8_noon_6 : decode cX8_noon 6 = .ok (.iconst 1, 1) := by decide +kernel
theorem dX8_noon_7 : decode cX8_noon 7 = .ok (.if_icmp .ne 7, 3) := by decide +kernel
theorem dX8_noon_10 : decode cX8_noon 10 = .ok (.iconst 1, 1) := by decide +kernel
theorem dX8_noon_11 : decode cX8_noon 11 = .ok (.goto 19, 3) := by decide +kernel
theorem dX8_noon_14 : decode cX8_noon 14 = .ok (.aload_n 0, 1) := by decide +kernel
theorem dX8_noon_15 : decode cX8_noon 15 = .ok (.iload_n 1, 1) := by decide +kernel
theorem dX8_noon_16 : decode cX8_noon 16 = .ok (.iconst 0, 1) := by decide +kernel
theorem dX8_noon_17 : decode cX8_noon 17 = .ok (.invokevirtual 98, 3) := by decide +kernel
theorem dX8_noon_20 : decode cX8_noon 20 = .ok (.iconst 3, 1) := by decide +kernel
theorem dX8_noon_21 : decode cX8_noon 21 = .ok (.if_icmp .ne 8, 3) := by decide +kernel
theorem dX8_noon_24 : decode cX8_noon 24 = .ok (.bipush 7, 2) := by decide +kernel
theorem dX8_noon_26 : decode cX8_noon 26 = .ok (.goto 4, 3) := by decide +kernel
theorem dX8_noon_29 : decode cX8_noon 29 = .ok (.iconst 0, 1) := by decide +kernel
theorem dX8_noon_30 : decode cX8_noon 30 = .ok (.istore_n 2, 1) := by decide +kernel
theorem dX8_noon_31 : decode cX8_noon 31 = .ok (.bipush 12, 2) := by decide +kernel
theorem dX8_noon_33 : decode cX8_noon 33 = .ok (.aload_n 0, 1) := by decide +kernel
theorem dX8_noon_34 : decode cX8_noon 34 = .ok (.iload_n 1, 1) := by decide +kernel
theorem dX8_noon_35 : decode cX8_noon 35 = .ok (.iconst 1, 1) := by decide +kernel
theorem dX8_noon_36 : decode cX8_noon 36 = .ok (.invokevirtual 98, 3) := by decide +kernel
theorem dX8_noon_39 : decode cX8_noon 39 = .ok (.iadd, 1) := by decide +kernel
theorem dX8_noon_40 : decode cX8_noon 40 = .ok (.iload_n 2, 1) := by decide +kernel
theorem dX8_noon_41 : decode cX8_noon 41 = .ok (.iadd, 1) := by decide +kernel
theorem dX8_noon_42 : decode cX8_noon 42 = .ok (.bipush 24, 2) := by decide +kernel
theorem dX8_noon_44 : decode cX8_noon 44 = .ok (.irem, 1) := by decide +kernel
theorem dX8_noon_45 : decode cX8_noon 45 = .ok (.ireturn, 1) := by decide +kernel
theorem dX8_pays_0 : decode cX8_pays 0 = .ok (.aload_n 0, 1) := by decide +kernel
theorem dX8_pays_1 : decode cX8_pays 1 = .ok (.iload_n 1, 1) := by decide +kernel
theorem dX8_pays_2 : decode cX8_pays 2 = .ok (.iconst 0, 1) := by decide +kernel
theorem dX8_pays_3 : decode cX8_pays 3 = .ok (.invokevirtual 98, 3) := by decide +kernel
theorem dX8_pays_6 : decode cX8_pays 6 = .ok (.tableswitch 43 1 5 #[34, 36, 38, 36, 40], 34) := by decide +kernel
theorem dX8_pays_40 : decode cX8_pays 40 = .ok (.iconst 1, 1) := by decide +kernel
theorem dX8_pays_41 : decode cX8_pays 41 = .ok (.ireturn, 1) := by decide +kernel
theorem dX8_pays_42 : decode cX8_pays 42 = .ok (.iconst 0, 1) := by decide +kernel
theorem dX8_pays_43 : decode cX8_pays 43 = .ok (.ireturn, 1) := by decide +kernel
theorem dX8_pays_44 : decode cX8_pays 44 = .ok (.iconst 5, 1) := by decide +kernel
theorem dX8_pays_45 : decode cX8_pays 45 = .ok (.ireturn, 1) := by decide +kernel
theorem dX8_pays_46 : decode cX8_pays 46 = .ok (.bipush 9, 2) := by decide +kernel
theorem dX8_pays_48 : decode cX8_pays 48 = .ok (.ireturn, 1) := by decide +kernel
theorem dX8_pays_49 : decode cX8_pays 49 = .ok (.iconst 2, 1) := by decide +kernel
theorem dX8_pays_50 : decode cX8_pays 50 = .ok (.ireturn, 1) := by decide +kernel
theorem dX8_worth_0 : decode cX8_worth 0 = .ok (.aload_n 0, 1) := by decide +kernel
theorem dX8_worth_1 : decode cX8_worth 1 = .ok (.iload_n 1, 1) := by decide +kernel
theorem dX8_worth_2 : decode cX8_worth 2 = .ok (.iconst 2, 1) := by decide +kernel
theorem dX8_worth_3 : decode cX8_worth 3 = .ok (.invokevirtual 98, 3) := by decide +kernel
theorem dX8_worth_6 : decode cX8_worth 6 = .ok (.istore_n 2, 1) := by decide +kernel
theorem dX8_worth_7 : decode cX8_worth 7 = .ok (.aload_n 0, 1) := by decide +kernel
theorem dX8_worth_8 : decode cX8_worth 8 = .ok (.iload_n 1, 1) := by decide +kernel
theorem dX8_worth_9 : decode cX8_worth 9 = .ok (.iconst 0, 1) := by decide +kernel
theorem dX8_worth_10 : decode cX8_worth 10 = .ok (.invokevirtual 98, 3) := by decide +kernel
theorem dX8_worth_13 : decode cX8_worth 13 = .ok (.tableswitch 59 1 5 #[35, 40, 45, 52, 57], 35) := by decide +kernel
theorem dX8_worth_48 : decode cX8_worth 48 = .ok (.iload_n 2, 1) := by decide +kernel
theorem dX8_worth_49 : decode cX8_worth 49 = .ok (.bipush 6, 2) := by decide +kernel
theorem dX8_worth_51 : decode cX8_worth 51 = .ok (.iadd, 1) := by decide +kernel
theorem dX8_worth_52 : decode cX8_worth 52 = .ok (.ireturn, 1) := by decide +kernel
theorem dX8_worth_53 : decode cX8_worth 53 = .ok (.bipush 99, 2) := by decide +kernel
theorem dX8_worth_55 : decode cX8_worth 55 = .ok (.iload_n 2, 1) := by decide +kernel
theorem dX8_worth_56 : decode cX8_worth 56 = .ok (.isub, 1) := by decide +kernel
theorem dX8_worth_57 : decode cX8_worth 57 = .ok (.ireturn, 1) := by decide +kernel
theorem dX8_worth_58 : decode cX8_worth 58 = .ok (.iconst 2, 1) := by decide +kernel
theorem dX8_worth_59 : decode cX8_worth 59 = .ok (.iload_n 2, 1) := by decide +kernel
theorem dX8_worth_60 : decode cX8_worth 60 = .ok (.bipush 6, 2) := by decide +kernel
theorem dX8_worth_62 : decode cX8_worth 62 = .ok (.iadd, 1) := by decide +kernel
theorem dX8_worth_63 : decode cX8_worth 63 = .ok (.imul, 1) := by decide +kernel
theorem dX8_worth_64 : decode cX8_worth 64 = .ok (.ireturn, 1) := by decide +kernel
theorem dX8_worth_65 : decode cX8_worth 65 = .ok (.bipush 94, 2) := by decide +kernel
theorem dX8_worth_67 : decode cX8_worth 67 = .ok (.iload_n 2, 1) := by decide +kernel
theorem dX8_worth_68 : decode cX8_worth 68 = .ok (.isub, 1) := by decide +kernel
theorem dX8_worth_69 : decode cX8_worth 69 = .ok (.ireturn, 1) := by decide +kernel
theorem dX8_worth_70 : decode cX8_worth 70 = .ok (.iconst 1, 1) := by decide +kernel
theorem dX8_worth_71 : decode cX8_worth 71 = .ok (.ireturn, 1) := by decide +kernel
theorem dX8_worth_72 : decode cX8_worth 72 = .ok (.iload_n 2, 1) := by decide +kernel
theorem dX8_worth_73 : decode cX8_worth 73 = .ok (.ireturn, 1) := by decide +kernel
theorem dX8_told_0 : decode cX8_told 0 = .ok (.aload_n 0, 1) := by decide +kernel
theorem dX8_told_1 : decode cX8_told 1 = .ok (.iload_n 1, 1) := by decide +kernel
theorem dX8_told_2 : decode cX8_told 2 = .ok (.invokevirtual 112, 3) := by decide +kernel
theorem dX8_told_5 : decode cX8_told 5 = .ok (.ifCond .ne 6, 3) := by decide +kernel
theorem dX8_told_8 : decode cX8_told 8 = .ok (.ldc 86, 2) := by decide +kernel
theorem dX8_told_10 : decode cX8_told 10 = .ok (.ireturn, 1) := by decide +kernel
theorem dX8_told_11 : decode cX8_told 11 = .ok (.iload_n 2, 1) := by decide +kernel
theorem dX8_told_12 : decode cX8_told 12 = .ok (.tableswitch 91 0 8 #[52, 52, 52, 52, 59, 66, 73, 79, 85], 52) := by decide +kernel
theorem dX8_told_64 : decode cX8_told 64 = .ok (.aload_n 0, 1) := by decide +kernel
theorem dX8_told_65 : decode cX8_told 65 = .ok (.iload_n 1, 1) := by decide +kernel
theorem dX8_told_66 : decode cX8_told 66 = .ok (.iload_n 2, 1) := by decide +kernel
theorem dX8_told_67 : decode cX8_told 67 = .ok (.invokevirtual 98, 3) := by decide +kernel
theorem dX8_told_70 : decode cX8_told 70 = .ok (.ireturn, 1) := by decide +kernel
theorem dX8_told_71 : decode cX8_told 71 = .ok (.aload_n 0, 1) := by decide +kernel
theorem dX8_told_72 : decode cX8_told 72 = .ok (.iload_n 1, 1) := by decide +kernel
theorem dX8_told_73 : decode cX8_told 73 = .ok (.iconst 0, 1) := by decide +kernel
theorem dX8_told_74 : decode cX8_told 74 = .ok (.invokevirtual 95, 3) := by decide +kernel
theorem dX8_told_77 : decode cX8_told 77 = .ok (.ireturn, 1) := by decide +kernel
theorem dX8_told_78 : decode cX8_told 78 = .ok (.aload_n 0, 1) := by decide +kernel
theorem dX8_told_79 : decode cX8_told 79 = .ok (.iload_n 1, 1) := by decide +kernel
theorem dX8_told_80 : decode cX8_told 80 = .ok (.iconst 1, 1) := by decide +kernel
theorem dX8_told_81 : decode cX8_told 81 = .ok (.invokevirtual 95, 3) := by decide +kernel
theorem dX8_told_84 : decode cX8_told 84 = .ok (.ireturn, 1) := by decide +kernel
theorem dX8_told_85 : decode cX8_told 85 = .ok (.aload_n 0, 1) := by decide +kernel
theorem dX8_told_86 : decode cX8_told 86 = .ok (.iload_n 1, 1) := by decide +kernel
theorem dX8_told_87 : decode cX8_told 87 = .ok (.invokevirtual 116, 3) := by decide +kernel
theorem dX8_told_90 : decode cX8_told 90 = .ok (.ireturn, 1) := by decide +kernel
theorem dX8_told_91 : decode cX8_told 91 = .ok (.aload_n 0, 1) := by decide +kernel
theorem dX8_told_92 : decode cX8_told 92 = .ok (.iload_n 1, 1) := by decide +kernel
theorem dX8_told_93 : decode cX8_told 93 = .ok (.invokevirtual 119, 3) := by decide +kernel
theorem dX8_told_96 : decode cX8_told 96 = .ok (.ireturn, 1) := by decide +kernel
theorem dX8_told_97 : decode cX8_told 97 = .ok (.aload_n 0, 1) := by decide +kernel
theorem dX8_told_98 : decode cX8_told 98 = .ok (.iload_n 1, 1) := by decide +kernel
theorem dX8_told_99 : decode cX8_told 99 = .ok (.invokevirtual 122, 3) := by decide +kernel
theorem dX8_told_102 : decode cX8_told 102 = .ok (.ireturn, 1) := by decide +kernel
theorem dX8_told_103 : decode cX8_told 103 = .ok (.ldc 86, 2) := by decide +kernel
theorem dX8_told_105 : decode cX8_told 105 = .ok (.ireturn, 1) := by decide +kernel
theorem dX8_isOf_0 : decode cX8_isOf 0 = .ok (.iload_n 0, 1) := by decide +kernel
theorem dX8_isOf_1 : decode cX8_isOf 1 = .ok (.iload_n 1, 1) := by decide +kernel
theorem dX8_isOf_2 : decode cX8_isOf 2 = .ok (.if_icmp .eq 27, 3) := by decide +kernel
theorem dX8_isOf_5 : decode cX8_isOf 5 = .ok (.iload_n 1, 1) := by decide +kernel
theorem dX8_isOf_6 : decode cX8_isOf 6 = .ok (.ifCond .eq 23, 3) := by decide +kernel
theorem dX8_isOf_9 : decode cX8_isOf 9 = .ok (.iload_n 1, 1) := by decide +kernel
theorem dX8_isOf_10 : decode cX8_isOf 10 = .ok (.iconst 1, 1) := by decide +kernel
theorem dX8_isOf_11 : decode cX8_isOf 11 = .ok (.if_icmp .ne 8, 3) := by decide +kernel
theorem dX8_isOf_14 : decode cX8_isOf 14 = .ok (.iload_n 0, 1) := by decide +kernel
theorem dX8_isOf_15 : decode cX8_isOf 15 = .ok (.iconst 3, 1) := by decide +kernel
theorem dX8_isOf_16 : decode cX8_isOf 16 = .ok (.if_icmp .eq 13, 3) := by decide +kernel
theorem dX8_isOf_19 : decode cX8_isOf 19 = .ok (.iload_n 1, 1) := by decide +kernel
theorem dX8_isOf_20 : decode cX8_isOf 20 = .ok (.iconst 2, 1) := by decide +kernel
theorem dX8_isOf_21 : decode cX8_isOf 21 = .ok (.if_icmp .ne 12, 3) := by decide +kernel
theorem dX8_isOf_24 : decode cX8_isOf 24 = .ok (.iload_n 0, 1) := by decide +kernel
theorem dX8_isOf_25 : decode cX8_isOf 25 = .ok (.iconst 4, 1) := by decide +kernel
theorem dX8_isOf_26 : decode cX8_isOf 26 = .ok (.if_icmp .ne 7, 3) := by decide +kernel
theorem dX8_isOf_29 : decode cX8_isOf 29 = .ok (.iconst 1, 1) := by decide +kernel
theorem dX8_isOf_30 : decode cX8_isOf 30 = .ok (.goto 4, 3) := by decide +kernel
theorem dX8_isOf_33 : decode cX8_isOf 33 = .ok (.iconst 0, 1) := by decide +kernel
theorem dX8_isOf_34 : decode cX8_isOf 34 = .ok (.ireturn, 1) := by decide +kernel
theorem dX8_as_0 : decode cX8_as 0 = .ok (.aload_n 0, 1) := by decide +kernel
theorem dX8_as_1 : decode cX8_as 1 = .ok (.iload_n 1, 1) := by decide +kernel
theorem dX8_as_2 : decode cX8_as 2 = .ok (.invokevirtual 112, 3) := by decide +kernel
theorem dX8_as_5 : decode cX8_as 5 = .ok (.ifCond .eq 15, 3) := by decide +kernel
theorem dX8_as_8 : decode cX8_as 8 = .ok (.iload_n 2, 1) := by decide +kernel
theorem dX8_as_9 : decode cX8_as 9 = .ok (.i2l, 1) := by decide +kernel
theorem dX8_as_10 : decode cX8_as 10 = .ok (.lconst 0, 1) := by decide +kernel
theorem dX8_as_11 : decode cX8_as 11 = .ok (.ldc2_w 80, 3) := by decide +kernel
theorem dX8_as_14 : decode cX8_as 14 = .ok (.invokestatic 71, 3) := by decide +kernel
theorem dX8_as_17 : decode cX8_as 17 = .ok (.ifCond .ne 6, 3) := by decide +kernel
theorem dX8_as_20 : decode cX8_as 20 = .ok (.ldc 86, 2) := by decide +kernel
theorem dX8_as_22 : decode cX8_as 22 = .ok (.ireturn, 1) := by decide +kernel
theorem dX8_as_23 : decode cX8_as 23 = .ok (.aload_n 0, 1) := by decide +kernel
theorem dX8_as_24 : decode cX8_as 24 = .ok (.iload_n 1, 1) := by decide +kernel
theorem dX8_as_25 : decode cX8_as 25 = .ok (.iconst 0, 1) := by decide +kernel
theorem dX8_as_26 : decode cX8_as 26 = .ok (.invokevirtual 98, 3) := by decide +kernel
theorem dX8_as_29 : decode cX8_as 29 = .ok (.iload_n 2, 1) := by decide +kernel
theorem dX8_as_30 : decode cX8_as 30 = .ok (.invokestatic 125, 3) := by decide +kernel
theorem dX8_as_33 : decode cX8_as 33 = .ok (.ifCond .eq 12, 3) := by decide +kernel
theorem dX8_as_36 : decode cX8_as 36 = .ok (.aload_n 0, 1) := by decide +kernel
theorem dX8_as_37 : decode cX8_as 37 = .ok (.iload_n 1, 1) := by decide +kernel
theorem dX8_as_38 : decode cX8_as 38 = .ok (.iconst 2, 1) := by decide +kernel
theorem dX8_as_39 : decode cX8_as 39 = .ok (.invokevirtual 98, 3) := by decide +kernel
theorem dX8_as_42 : decode cX8_as 42 = .ok (.goto 5, 3) := by decide +kernel
theorem dX8_as_45 : decode cX8_as 45 = .ok (.ldc 129, 2) := by decide +kernel
theorem dX8_as_47 : decode cX8_as 47 = .ok (.ireturn, 1) := by decide +kernel
theorem dX8_turns_0 : decode cX8_turns 0 = .ok (.aload_n 0, 1) := by decide +kernel
theorem dX8_turns_1 : decode cX8_turns 1 = .ok (.iload_n 1, 1) := by decide +kernel
theorem dX8_turns_2 : decode cX8_turns 2 = .ok (.invokevirtual 112, 3) := by decide +kernel
theorem dX8_turns_5 : decode cX8_turns 5 = .ok (.ifCond .eq 29, 3) := by decide +kernel
theorem dX8_turns_8 : decode cX8_turns 8 = .ok (.iload_n 2, 1) := by decide +kernel
theorem dX8_turns_9 : decode cX8_turns 9 = .ok (.i2l, 1) := by decide +kernel
theorem dX8_turns_10 : decode cX8_turns 10 = .ok (.lconst 0, 1) := by decide +kernel
theorem dX8_turns_11 : decode cX8_turns 11 = .ok (.ldc2_w 80, 3) := by decide +kernel
theorem dX8_turns_14 : decode cX8_turns 14 = .ok (.invokestatic 71, 3) := by decide +kernel
theorem dX8_turns_17 : decode cX8_turns 17 = .ok (.ifCond .eq 17, 3) := by decide +kernel
theorem dX8_turns_20 : decode cX8_turns 20 = .ok (.aload_n 0, 1) := by decide +kernel
theorem dX8_turns_21 : decode cX8_turns 21 = .ok (.bipush 7, 2) := by decide +kernel
theorem dX8_turns_23 : decode cX8_turns 23 = .ok (.iconst 5, 1) := by decide +kernel
theorem dX8_turns_24 : decode cX8_turns 24 = .ok (.iload_n 1, 1) := by decide +kernel
theorem dX8_turns_25 : decode cX8_turns 25 = .ok (.imul, 1) := by decide +kernel
theorem dX8_turns_26 : decode cX8_turns 26 = .ok (.iadd, 1) := by decide +kernel
theorem dX8_turns_27 : decode cX8_turns 27 = .ok (.iload_n 2, 1) := by decide +kernel
theorem dX8_turns_28 : decode cX8_turns 28 = .ok (.invokevirtual 130, 3) := by decide +kernel
theorem dX8_turns_31 : decode cX8_turns 31 = .ok (.goto 5, 3) := by decide +kernel
theorem dX8_turns_34 : decode cX8_turns 34 = .ok (.ldc 86, 2) := by decide +kernel
theorem dX8_turns_36 : decode cX8_turns 36 = .ok (.ireturn, 1) := by decide +kernel
theorem dX8_set_0 : decode cX8_set 0 = .ok (.aload_n 0, 1) := by decide +kernel
theorem dX8_set_1 : decode cX8_set 1 = .ok (.iload_n 1, 1) := by decide +kernel
theorem dX8_set_2 : decode cX8_set 2 = .ok (.invokevirtual 112, 3) := by decide +kernel
theorem dX8_set_5 : decode cX8_set 5 = .ok (.ifCond .eq 60, 3) := by decide +kernel
theorem dX8_set_8 : decode cX8_set 8 = .ok (.iload_n 2, 1) := by decide +kernel
theorem dX8_set_9 : decode cX8_set 9 = .ok (.i2l, 1) := by decide +kernel
theorem dX8_set_10 : decode cX8_set 10 = .ok (.lconst 1, 1) := by decide +kernel
theorem dX8_set_11 : decode cX8_set 11 = .ok (.ldc2_w 133, 3) := by decide +kernel
theorem dX8_set_14 : decode cX8_set 14 = .ok (.invokestatic 71, 3) := by decide +kernel
theorem dX8_set_17 : decode cX8_set 17 = .ok (.ifCond .eq 48, 3) := by decide +kernel
theorem dX8_set_20 : decode cX8_set 20 = .ok (.iload_n 3, 1) := by decide +kernel
theorem dX8_set_21 : decode cX8_set 21 = .ok (.i2l, 1) := by decide +kernel
theorem dX8_set_22 : decode cX8_set 22 = .ok (.iload_n 2, 1) := by decide +kernel
theorem dX8_set_23 : decode cX8_set 23 = .ok (.iconst 3, 1) := by decide +kernel
theorem dX8_set_24 : decode cX8_set 24 = .ok (.if_icmp .ne 9, 3) := by decide +kernel
theorem dX8_set_27 : decode cX8_set 27 = .ok (.ldc2_w 135, 3) := by decide +kernel
theorem dX8_set_30 : decode cX8_set 30 = .ok (.goto 4, 3) := by decide +kernel
theorem dX8_set_33 : decode cX8_set 33 = .ok (.lconst 0, 1) := by decide +kernel
theorem dX8_set_34 : decode cX8_set 34 = .ok (.iload_n 2, 1) := by decide +kernel
theorem dX8_set_35 : decode cX8_set 35 = .ok (.iconst 1, 1) := by decide +kernel
theorem dX8_set_36 : decode cX8_set 36 = .ok (.if_icmp .ne 9, 3) := by decide +kernel
theorem dX8_set_39 : decode cX8_set 39 = .ok (.ldc2_w 82, 3) := by decide +kernel
theorem dX8_set_42 : decode cX8_set 42 = .ok (.goto 17, 3) := by decide +kernel
theorem dX8_set_45 : decode cX8_set 45 = .ok (.iload_n 2, 1) := by decide +kernel
theorem dX8_set_46 : decode cX8_set 46 = .ok (.iconst 2, 1) := by decide +kernel
theorem dX8_set_47 : decode cX8_set 47 = .ok (.if_icmp .ne 9, 3) := by decide +kernel
theorem dX8_set_50 : decode cX8_set 50 = .ok (.ldc2_w 84, 3) := by decide +kernel
theorem dX8_set_53 : decode cX8_set 53 = .ok (.goto 6, 3) := by decide +kernel
theorem dX8_set_56 : decode cX8_set 56 = .ok (.ldc2_w 137, 3) := by decide +kernel
theorem dX8_set_59 : decode cX8_set 59 = .ok (.invokestatic 71, 3) := by decide +kernel
theorem dX8_set_62 : decode cX8_set 62 = .ok (.ifCond .ne 6, 3) := by decide +kernel
theorem dX8_set_65 : decode cX8_set 65 = .ok (.ldc 86, 2) := by decide +kernel
theorem dX8_set_67 : decode cX8_set 67 = .ok (.ireturn, 1) := by decide +kernel
theorem dX8_set_68 : decode cX8_set 68 = .ok (.aload_n 0, 1) := by decide +kernel
theorem dX8_set_69 : decode cX8_set 69 = .ok (.bipush 7, 2) := by decide +kernel
theorem dX8_set_71 : decode cX8_set 71 = .ok (.iconst 5, 1) := by decide +kernel
theorem dX8_set_72 : decode cX8_set 72 = .ok (.iload_n 1, 1) := by decide +kernel
theorem dX8_set_73 : decode cX8_set 73 = .ok (.imul, 1) := by decide +kernel
theorem dX8_set_74 : decode cX8_set 74 = .ok (.iadd, 1) := by decide +kernel
theorem dX8_set_75 : decode cX8_set 75 = .ok (.iload_n 2, 1) := by decide +kernel
theorem dX8_set_76 : decode cX8_set 76 = .ok (.iadd, 1) := by decide +kernel
theorem dX8_set_77 : decode cX8_set 77 = .ok (.iload_n 3, 1) := by decide +kernel
theorem dX8_set_78 : decode cX8_set 78 = .ok (.invokevirtual 130, 3) := by decide +kernel
theorem dX8_set_81 : decode cX8_set 81 = .ok (.ireturn, 1) := by decide +kernel
theorem dX8_gives_0 : decode cX8_gives 0 = .ok (.bipush 57, 2) := by decide +kernel
theorem dX8_gives_2 : decode cX8_gives 2 = .ok (.iconst 3, 1) := by decide +kernel
theorem dX8_gives_3 : decode cX8_gives 3 = .ok (.aload_n 0, 1) := by decide +kernel
theorem dX8_gives_4 : decode cX8_gives 4 = .ok (.getfield 7, 3) := by decide +kernel
theorem dX8_gives_7 : decode cX8_gives 7 = .ok (.iconst 3, 1) := by decide +kernel
theorem dX8_gives_8 : decode cX8_gives 8 = .ok (.iaload, 1) := by decide +kernel
theorem dX8_gives_9 : decode cX8_gives 9 = .ok (.imul, 1) := by decide +kernel
theorem dX8_gives_10 : decode cX8_gives 10 = .ok (.iadd, 1) := by decide +kernel
theorem dX8_gives_11 : decode cX8_gives 11 = .ok (.istore 4, 2) := by decide +kernel
theorem dX8_gives_13 : decode cX8_gives 13 = .ok (.aload_n 0, 1) := by decide +kernel
theorem dX8_gives_14 : decode cX8_gives 14 = .ok (.getfield 7, 3) := by decide +kernel
theorem dX8_gives_17 : decode cX8_gives 17 = .ok (.iload 4, 2) := by decide +kernel
theorem dX8_gives_19 : decode cX8_gives 19 = .ok (.iconst 0, 1) := by decide +kernel
theorem dX8_gives_20 : decode cX8_gives 20 = .ok (.iadd, 1) := by decide +kernel
theorem dX8_gives_21 : decode cX8_gives 21 = .ok (.iload_n 1, 1) := by decide +kernel
theorem dX8_gives_22 : decode cX8_gives 22 = .ok (.iastore, 1) := by decide +kernel
theorem dX8_gives_23 : decode cX8_gives 23 = .ok (.aload_n 0, 1) := by decide +kernel
theorem dX8_gives_24 : decode cX8_gives 24 = .ok (.getfield 7, 3) := by decide +kernel
theorem dX8_gives_27 : decode cX8_gives 27 = .ok (.iload 4, 2) := by decide +kernel
theorem dX8_gives_29 : decode cX8_gives 29 = .ok (.iconst 1, 1) := by decide +kernel
theorem dX8_gives_30 : decode cX8_gives 30 = .ok (.iadd, 1) := by decide +kernel
theorem dX8_gives_31 : decode cX8_gives 31 = .ok (.iload_n 2, 1) := by decide +kernel
theorem dX8_gives_32 : decode cX8_gives 32 = .ok (.iastore, 1) := by decide +kernel
theorem dX8_gives_33 : decode cX8_gives 33 = .ok (.aload_n 0, 1) := by decide +kernel
theorem dX8_gives_34 : decode cX8_gives 34 = .ok (.getfield 7, 3) := by decide +kernel
theorem dX8_gives_37 : decode cX8_gives 37 = .ok (.iload 4, 2) := by decide +kernel
theorem dX8_gives_39 : decode cX8_gives 39 = .ok (.iconst 2, 1) := by decide +kernel
theorem dX8_gives_40 : decode cX8_gives 40 = .ok (.iadd, 1) := by decide +kernel
theorem dX8_gives_41 : decode cX8_gives 41 = .ok (.iload_n 3, 1) := by decide +kernel
theorem dX8_gives_42 : decode cX8_gives 42 = .ok (.iastore, 1) := by decide +kernel
theorem dX8_gives_43 : decode cX8_gives 43 = .ok (.aload_n 0, 1) := by decide +kernel
theorem dX8_gives_44 : decode cX8_gives 44 = .ok (.getfield 7, 3) := by decide +kernel
theorem dX8_gives_47 : decode cX8_gives 47 = .ok (.iconst 3, 1) := by decide +kernel
theorem dX8_gives_48 : decode cX8_gives 48 = .ok (.dup2, 1) := by decide +kernel
theorem dX8_gives_49 : decode cX8_gives 49 = .ok (.iaload, 1) := by decide +kernel
theorem dX8_gives_50 : decode cX8_gives 50 = .ok (.iconst 1, 1) := by decide +kernel
theorem dX8_gives_51 : decode cX8_gives 51 = .ok (.iadd, 1) := by decide +kernel
theorem dX8_gives_52 : decode cX8_gives 52 = .ok (.iastore, 1) := by decide +kernel
theorem dX8_gives_53 : decode cX8_gives 53 = .ok (.return_, 1) := by decide +kernel
theorem dX8_goes_0 : decode cX8_goes 0 = .ok (.bipush 57, 2) := by decide +kernel
theorem dX8_goes_2 : decode cX8_goes 2 = .ok (.iconst 3, 1) := by decide +kernel
theorem dX8_goes_3 : decode cX8_goes 3 = .ok (.aload_n 0, 1) := by decide +kernel
theorem dX8_goes_4 : decode cX8_goes 4 = .ok (.getfield 7, 3) := by decide +kernel
theorem dX8_goes_7 : decode cX8_goes 7 = .ok (.iconst 3, 1) := by decide +kernel
theorem dX8_goes_8 : decode cX8_goes 8 = .ok (.iaload, 1) := by decide +kernel
theorem dX8_goes_9 : decode cX8_goes 9 = .ok (.iconst 1, 1) := by decide +kernel
theorem dX8_goes_10 : decode cX8_goes 10 = .ok (.isub, 1) := by decide +kernel
theorem dX8_goes_11 : decode cX8_goes 11 = .ok (.imul, 1) := by decide +kernel
theorem dX8_goes_12 : decode cX8_goes 12 = .ok (.iadd, 1) := by decide +kernel
theorem dX8_goes_13 : decode cX8_goes 13 = .ok (.istore_n 2, 1) := by decide +kernel
theorem dX8_goes_14 : decode cX8_goes 14 = .ok (.bipush 57, 2) := by decide +kernel
theorem dX8_goes_16 : decode cX8_goes 16 = .ok (.iconst 3, 1) := by decide +kernel
theorem dX8_goes_17 : decode cX8_goes 17 = .ok (.iload_n 1, 1) := by decide +kernel
theorem dX8_goes_18 : decode cX8_goes 18 = .ok (.imul, 1) := by decide +kernel
theorem dX8_goes_19 : decode cX8_goes 19 = .ok (.iadd, 1) := by decide +kernel
theorem dX8_goes_20 : decode cX8_goes 20 = .ok (.istore_n 3, 1) := by decide +kernel
theorem dX8_goes_21 : decode cX8_goes 21 = .ok (.iload_n 3, 1) := by decide +kernel
theorem dX8_goes_22 : decode cX8_goes 22 = .ok (.iload_n 2, 1) := by decide +kernel
theorem dX8_goes_23 : decode cX8_goes 23 = .ok (.if_icmp .ge 23, 3) := by decide +kernel
theorem dX8_goes_26 : decode cX8_goes 26 = .ok (.aload_n 0, 1) := by decide +kernel
theorem dX8_goes_27 : decode cX8_goes 27 = .ok (.getfield 7, 3) := by decide +kernel
theorem dX8_goes_30 : decode cX8_goes 30 = .ok (.iload_n 3, 1) := by decide +kernel
theorem dX8_goes_31 : decode cX8_goes 31 = .ok (.aload_n 0, 1) := by decide +kernel
theorem dX8_goes_32 : decode cX8_goes 32 = .ok (.getfield 7, 3) := by decide +kernel
theorem dX8_goes_35 : decode cX8_goes 35 = .ok (.iload_n 3, 1) := by decide +kernel
theorem dX8_goes_36 : decode cX8_goes 36 = .ok (.iconst 3, 1) := by decide +kernel
theorem dX8_goes_37 : decode cX8_goes 37 = .ok (.iadd, 1) := by decide +kernel
theorem dX8_goes_38 : decode cX8_goes 38 = .ok (.iaload, 1) := by decide +kernel
theorem dX8_goes_39 : decode cX8_goes 39 = .ok (.iastore, 1) := by decide +kernel
theorem dX8_goes_40 : decode cX8_goes 40 = .ok (.iinc 3 1, 3) := by decide +kernel
theorem dX8_goes_43 : decode cX8_goes 43 = .ok (.goto (-22), 3) := by decide +kernel
theorem dX8_goes_46 : decode cX8_goes 46 = .ok (.aload_n 0, 1) := by decide +kernel
theorem dX8_goes_47 : decode cX8_goes 47 = .ok (.getfield 7, 3) := by decide +kernel
theorem dX8_goes_50 : decode cX8_goes 50 = .ok (.iconst 3, 1) := by decide +kernel
theorem dX8_goes_51 : decode cX8_goes 51 = .ok (.dup2, 1) := by decide +kernel
theorem dX8_goes_52 : decode cX8_goes 52 = .ok (.iaload, 1) := by decide +kernel
theorem dX8_goes_53 : decode cX8_goes 53 = .ok (.iconst 1, 1) := by decide +kernel
theorem dX8_goes_54 : decode cX8_goes 54 = .ok (.isub, 1) := by decide +kernel
theorem dX8_goes_55 : decode cX8_goes 55 = .ok (.iastore, 1) := by decide +kernel
theorem dX8_goes_56 : decode cX8_goes 56 = .ok (.aload_n 0, 1) := by decide +kernel
theorem dX8_goes_57 : decode cX8_goes 57 = .ok (.getfield 7, 3) := by decide +kernel
theorem dX8_goes_60 : decode cX8_goes 60 = .ok (.iconst 5, 1) := by decide +kernel
theorem dX8_goes_61 : decode cX8_goes 61 = .ok (.dup2, 1) := by decide +kernel
theorem dX8_goes_62 : decode cX8_goes 62 = .ok (.iaload, 1) := by decide +kernel
theorem dX8_goes_63 : decode cX8_goes 63 = .ok (.iconst 1, 1) := by decide +kernel
theorem dX8_goes_64 : decode cX8_goes 64 = .ok (.iadd, 1) := by decide +kernel
theorem dX8_goes_65 : decode cX8_goes 65 = .ok (.iastore, 1) := by decide +kernel
theorem dX8_goes_66 : decode cX8_goes 66 = .ok (.return_, 1) := by decide +kernel
theorem dX8_strikes_0 : decode cX8_strikes 0 = .ok (.aload_n 0, 1) := by decide +kernel
theorem dX8_strikes_1 : decode cX8_strikes 1 = .ok (.iload_n 1, 1) := by decide +kernel
theorem dX8_strikes_2 : decode cX8_strikes 2 = .ok (.iconst 0, 1) := by decide +kernel
theorem dX8_strikes_3 : decode cX8_strikes 3 = .ok (.iconst 5, 1) := by decide +kernel
theorem dX8_strikes_4 : decode cX8_strikes 4 = .ok (.invokevirtual 76, 3) := by decide +kernel
theorem dX8_strikes_7 : decode cX8_strikes 7 = .ok (.aload_n 0, 1) := by decide +kernel
theorem dX8_strikes_8 : decode cX8_strikes 8 = .ok (.getfield 7, 3) := by decide +kernel
theorem dX8_strikes_11 : decode cX8_strikes 11 = .ok (.iconst 3, 1) := by decide +kernel
theorem dX8_strikes_12 : decode cX8_strikes 12 = .ok (.iaload, 1) := by decide +kernel
theorem dX8_strikes_13 : decode cX8_strikes 13 = .ok (.iconst 1, 1) := by decide +kernel
theorem dX8_strikes_14 : decode cX8_strikes 14 = .ok (.isub, 1) := by decide +kernel
theorem dX8_strikes_15 : decode cX8_strikes 15 = .ok (.istore_n 2, 1) := by decide +kernel
theorem dX8_strikes_16 : decode cX8_strikes 16 = .ok (.iload_n 2, 1) := by decide +kernel
theorem dX8_strikes_17 : decode cX8_strikes 17 = .ok (.ifCond .lt 24, 3) := by decide +kernel
theorem dX8_strikes_20 : decode cX8_strikes 20 = .ok (.aload_n 0, 1) := by decide +kernel
theorem dX8_strikes_21 : decode cX8_strikes 21 = .ok (.iload_n 2, 1) := by decide +kernel
theorem dX8_strikes_22 : decode cX8_strikes 22 = .ok (.iconst 0, 1) := by decide +kernel
theorem dX8_strikes_23 : decode cX8_strikes 23 = .ok (.invokevirtual 91, 3) := by decide +kernel
theorem dX8_strikes_26 : decode cX8_strikes 26 = .ok (.iload_n 1, 1) := by decide +kernel
theorem dX8_strikes_27 : decode cX8_strikes 27 = .ok (.if_icmp .ne 8, 3) := by decide +kernel
theorem dX8_strikes_30 : decode cX8_strikes 30 = .ok (.aload_n 0, 1) := by decide +kernel
theorem dX8_strikes_31 : decode cX8_strikes 31 = .ok (.iload_n 2, 1) := by decide +kernel
theorem dX8_strikes_32 : decode cX8_strikes 32 = .ok (.invokevirtual 139, 3) := by decide +kernel
theorem dX8_strikes_35 : decode cX8_strikes 35 = .ok (.iinc 2 (-1), 3) := by decide +kernel
theorem dX8_strikes_38 : decode cX8_strikes 38 = .ok (.goto (-22), 3) := by decide +kernel
theorem dX8_strikes_41 : decode cX8_strikes 41 = .ok (.return_, 1) := by decide +kernel
theorem dX8_vow_0 : decode cX8_vow 0 = .ok (.aload_n 0, 1) := by decide +kernel
theorem dX8_vow_1 : decode cX8_vow 1 = .ok (.iload_n 1, 1) := by decide +kernel
theorem dX8_vow_2 : decode cX8_vow 2 = .ok (.invokevirtual 112, 3) := by decide +kernel
theorem dX8_vow_5 : decode cX8_vow 5 = .ok (.ifCond .eq 28, 3) := by decide +kernel
theorem dX8_vow_8 : decode cX8_vow 8 = .ok (.aload_n 0, 1) := by decide +kernel
theorem dX8_vow_9 : decode cX8_vow 9 = .ok (.iload_n 2, 1) := by decide +kernel
theorem dX8_vow_10 : decode cX8_vow 10 = .ok (.invokevirtual 112, 3) := by decide +kernel
theorem dX8_vow_13 : decode cX8_vow 13 = .ok (.ifCond .eq 20, 3) := by decide +kernel
theorem dX8_vow_16 : decode cX8_vow 16 = .ok (.iload_n 1, 1) := by decide +kernel
theorem dX8_vow_17 : decode cX8_vow 17 = .ok (.iload_n 2, 1) := by decide +kernel
theorem dX8_vow_18 : decode cX8_vow 18 = .ok (.if_icmp .eq 15, 3) := by decide +kernel
theorem dX8_vow_21 : decode cX8_vow 21 = .ok (.iload_n 3, 1) := by decide +kernel
theorem dX8_vow_22 : decode cX8_vow 22 = .ok (.i2l, 1) := by decide +kernel
theorem dX8_vow_23 : decode cX8_vow 23 = .ok (.lconst 0, 1) := by decide +kernel
theorem dX8_vow_24 : decode cX8_vow 24 = .ok (.ldc2_w 143, 3) := by decide +kernel
theorem dX8_vow_27 : decode cX8_vow 27 = .ok (.invokestatic 71, 3) := by decide +kernel
theorem dX8_vow_30 : decode cX8_vow 30 = .ok (.ifCond .ne 6, 3) := by decide +kernel
theorem dX8_vow_33 : decode cX8_vow 33 = .ok (.ldc 86, 2) := by decide +kernel
theorem dX8_vow_35 : decode cX8_vow 35 = .ok (.ireturn, 1) := by decide +kernel
theorem dX8_vow_36 : decode cX8_vow 36 = .ok (.aload_n 0, 1) := by decide +kernel
theorem dX8_vow_37 : decode cX8_vow 37 = .ok (.iload_n 1, 1) := by decide +kernel
theorem dX8_vow_38 : decode cX8_vow 38 = .ok (.iconst 0, 1) := by decide +kernel
theorem dX8_vow_39 : decode cX8_vow 39 = .ok (.invokevirtual 98, 3) := by decide +kernel
theorem dX8_vow_42 : decode cX8_vow 42 = .ok (.iconst 5, 1) := by decide +kernel
theorem dX8_vow_43 : decode cX8_vow 43 = .ok (.if_icmp .ne 6, 3) := by decide +kernel
theorem dX8_vow_46 : decode cX8_vow 46 = .ok (.ldc 145, 2) := by decide +kernel
theorem dX8_vow_48 : decode cX8_vow 48 = .ok (.ireturn, 1) := by decide +kernel
theorem dX8_vow_49 : decode cX8_vow 49 = .ok (.aload_n 0, 1) := by decide +kernel
theorem dX8_vow_50 : decode cX8_vow 50 = .ok (.iload_n 1, 1) := by decide +kernel
theorem dX8_vow_51 : decode cX8_vow 51 = .ok (.iconst 4, 1) := by decide +kernel
theorem dX8_vow_52 : decode cX8_vow 52 = .ok (.invokevirtual 98, 3) := by decide +kernel
theorem dX8_vow_55 : decode cX8_vow 55 = .ok (.aload_n 0, 1) := by decide +kernel
theorem dX8_vow_56 : decode cX8_vow 56 = .ok (.getfield 7, 3) := by decide +kernel
theorem dX8_vow_59 : decode cX8_vow 59 = .ok (.iconst 2, 1) := by decide +kernel
theorem dX8_vow_60 : decode cX8_vow 60 = .ok (.iaload, 1) := by decide +kernel
theorem dX8_vow_61 : decode cX8_vow 61 = .ok (.if_icmp .ne 11, 3) := by decide +kernel
theorem dX8_vow_64 : decode cX8_vow 64 = .ok (.aload_n 0, 1) := by decide +kernel
theorem dX8_vow_65 : decode cX8_vow 65 = .ok (.iload_n 1, 1) := by decide +kernel
theorem dX8_vow_66 : decode cX8_vow 66 = .ok (.invokevirtual 146, 3) := by decide +kernel
theorem dX8_vow_69 : decode cX8_vow 69 = .ok (.ldc 70, 2) := by decide +kernel
theorem dX8_vow_71 : decode cX8_vow 71 = .ok (.ireturn, 1) := by decide +kernel
theorem dX8_vow_72 : decode cX8_vow 72 = .ok (.aload_n 0, 1) := by decide +kernel
theorem dX8_vow_73 : decode cX8_vow 73 = .ok (.getfield 7, 3) := by decide +kernel
theorem dX8_vow_76 : decode cX8_vow 76 = .ok (.iconst 3, 1) := by decide +kernel
theorem dX8_vow_77 : decode cX8_vow 77 = .ok (.iaload, 1) := by decide +kernel
theorem dX8_vow_78 : decode cX8_vow 78 = .ok (.bipush 16, 2) := by decide +kernel
theorem dX8_vow_80 : decode cX8_vow 80 = .ok (.if_icmp .ne 6, 3) := by decide +kernel
theorem dX8_vow_83 : decode cX8_vow 83 = .ok (.ldc 87, 2) := by decide +kernel
theorem dX8_vow_85 : decode cX8_vow 85 = .ok (.ireturn, 1) := by decide +kernel
theorem dX8_vow_86 : decode cX8_vow 86 = .ok (.aload_n 0, 1) := by decide +kernel
theorem dX8_vow_87 : decode cX8_vow 87 = .ok (.iload_n 1, 1) := by decide +kernel
theorem dX8_vow_88 : decode cX8_vow 88 = .ok (.iload_n 2, 1) := by decide +kernel
theorem dX8_vow_89 : decode cX8_vow 89 = .ok (.iload_n 3, 1) := by decide +kernel
theorem dX8_vow_90 : decode cX8_vow 90 = .ok (.invokevirtual 149, 3) := by decide +kernel
theorem dX8_vow_93 : decode cX8_vow 93 = .ok (.aload_n 0, 1) := by decide +kernel
theorem dX8_vow_94 : decode cX8_vow 94 = .ok (.iload_n 1, 1) := by decide +kernel
theorem dX8_vow_95 : decode cX8_vow 95 = .ok (.iconst 4, 1) := by decide +kernel
theorem dX8_vow_96 : decode cX8_vow 96 = .ok (.aload_n 0, 1) := by decide +kernel
theorem dX8_vow_97 : decode cX8_vow 97 = .ok (.getfield 7, 3) := by decide +kernel
theorem dX8_vow_100 : decode cX8_vow 100 = .ok (.iconst 2, 1) := by decide +kernel
theorem dX8_vow_101 : decode cX8_vow 101 = .ok (.iaload, 1) := by decide +kernel
theorem dX8_vow_102 : decode cX8_vow 102 = .ok (.invokevirtual 76, 3) := by decide +kernel
theorem dX8_vow_105 : decode cX8_vow 105 = .ok (.aload_n 0, 1) := by decide +kernel
theorem dX8_vow_106 : decode cX8_vow 106 = .ok (.getfield 7, 3) := by decide +kernel
theorem dX8_vow_109 : decode cX8_vow 109 = .ok (.iconst 3, 1) := by decide +kernel
theorem dX8_vow_110 : decode cX8_vow 110 = .ok (.iaload, 1) := by decide +kernel
theorem dX8_vow_111 : decode cX8_vow 111 = .ok (.iconst 1, 1) := by decide +kernel
theorem dX8_vow_112 : decode cX8_vow 112 = .ok (.isub, 1) := by decide +kernel
theorem dX8_vow_113 : decode cX8_vow 113 = .ok (.ireturn, 1) := by decide +kernel
theorem dX8_vowOf_0 : decode cX8_vowOf 0 = .ok (.aload_n 0, 1) := by decide +kernel
theorem dX8_vowOf_1 : decode cX8_vowOf 1 = .ok (.iload_n 1, 1) := by decide +kernel
theorem dX8_vowOf_2 : decode cX8_vowOf 2 = .ok (.invokevirtual 152, 3) := by decide +kernel
theorem dX8_vowOf_5 : decode cX8_vowOf 5 = .ok (.ifCond .eq 15, 3) := by decide +kernel
theorem dX8_vowOf_8 : decode cX8_vowOf 8 = .ok (.iload_n 2, 1) := by decide +kernel
theorem dX8_vowOf_9 : decode cX8_vowOf 9 = .ok (.i2l, 1) := by decide +kernel
theorem dX8_vowOf_10 : decode cX8_vowOf 10 = .ok (.lconst 0, 1) := by decide +kernel
theorem dX8_vowOf_11 : decode cX8_vowOf 11 = .ok (.ldc2_w 133, 3) := by decide +kernel
theorem dX8_vowOf_14 : decode cX8_vowOf 14 = .ok (.invokestatic 71, 3) := by decide +kernel
theorem dX8_vowOf_17 : decode cX8_vowOf 17 = .ok (.ifCond .ne 6, 3) := by decide +kernel
theorem dX8_vowOf_20 : decode cX8_vowOf 20 = .ok (.ldc 86, 2) := by decide +kernel
theorem dX8_vowOf_22 : decode cX8_vowOf 22 = .ok (.ireturn, 1) := by decide +kernel
theorem dX8_vowOf_23 : decode cX8_vowOf 23 = .ok (.iload_n 2, 1) := by decide +kernel
theorem dX8_vowOf_24 : decode cX8_vowOf 24 = .ok (.iconst 3, 1) := by decide +kernel
theorem dX8_vowOf_25 : decode cX8_vowOf 25 = .ok (.if_icmp .ne 11, 3) := by decide +kernel
theorem dX8_vowOf_28 : decode cX8_vowOf 28 = .ok (.aload_n 0, 1) := by decide +kernel
theorem dX8_vowOf_29 : decode cX8_vowOf 29 = .ok (.iload_n 1, 1) := by decide +kernel
theorem dX8_vowOf_30 : decode cX8_vowOf 30 = .ok (.invokevirtual 155, 3) := by decide +kernel
theorem dX8_vowOf_33 : decode cX8_vowOf 33 = .ok (.goto 9, 3) := by decide +kernel
theorem dX8_vowOf_36 : decode cX8_vowOf 36 = .ok (.aload_n 0, 1) := by decide +kernel
theorem dX8_vowOf_37 : decode cX8_vowOf 37 = .ok (.iload_n 1, 1) := by decide +kernel
theorem dX8_vowOf_38 : decode cX8_vowOf 38 = .ok (.iload_n 2, 1) := by decide +kernel
theorem dX8_vowOf_39 : decode cX8_vowOf 39 = .ok (.invokevirtual 91, 3) := by decide +kernel
theorem dX8_vowOf_42 : decode cX8_vowOf 42 = .ok (.ireturn, 1) := by decide +kernel
theorem dX8_breaks_0 : decode cX8_breaks 0 = .ok (.aload_n 0, 1) := by decide +kernel
theorem dX8_breaks_1 : decode cX8_breaks 1 = .ok (.iload_n 1, 1) := by decide +kernel
theorem dX8_breaks_2 : decode cX8_breaks 2 = .ok (.invokevirtual 152, 3) := by decide +kernel
theorem dX8_breaks_5 : decode cX8_breaks 5 = .ok (.ifCond .ne 6, 3) := by decide +kernel
theorem dX8_breaks_8 : decode cX8_breaks 8 = .ok (.ldc 86, 2) := by decide +kernel
theorem dX8_breaks_10 : decode cX8_breaks 10 = .ok (.ireturn, 1) := by decide +kernel
theorem dX8_breaks_11 : decode cX8_breaks 11 = .ok (.aload_n 0, 1) := by decide +kernel
theorem dX8_breaks_12 : decode cX8_breaks 12 = .ok (.iload_n 1, 1) := by decide +kernel
theorem dX8_breaks_13 : decode cX8_breaks 13 = .ok (.invokevirtual 139, 3) := by decide +kernel
theorem dX8_breaks_16 : decode cX8_breaks 16 = .ok (.aload_n 0, 1) := by decide +kernel
theorem dX8_breaks_17 : decode cX8_breaks 17 = .ok (.getfield 7, 3) := by decide +kernel
theorem dX8_breaks_20 : decode cX8_breaks 20 = .ok (.iconst 3, 1) := by decide +kernel
theorem dX8_breaks_21 : decode cX8_breaks 21 = .ok (.iaload, 1) := by decide +kernel
theorem dX8_breaks_22 : decode cX8_breaks 22 = .ok (.ireturn, 1) := by decide +kernel
theorem dX8_eclipse_0 : decode cX8_eclipse 0 = .ok (.aload_n 0, 1) := by decide +kernel
theorem dX8_eclipse_1 : decode cX8_eclipse 1 = .ok (.getfield 7, 3) := by decide +kernel
theorem dX8_eclipse_4 : decode cX8_eclipse 4 = .ok (.iconst 3, 1) := by decide +kernel
theorem dX8_eclipse_5 : decode cX8_eclipse 5 = .ok (.iaload, 1) := by decide +kernel
theorem dX8_eclipse_6 : decode cX8_eclipse 6 = .ok (.istore_n 1, 1) := by decide +kernel
theorem dX8_eclipse_7 : decode cX8_eclipse 7 = .ok (.aload_n 0, 1) := by decide +kernel
theorem dX8_eclipse_8 : decode cX8_eclipse 8 = .ok (.getfield 7, 3) := by decide +kernel
theorem dX8_eclipse_11 : decode cX8_eclipse 11 = .ok (.iconst 3, 1) := by decide +kernel
theorem dX8_eclipse_12 : decode cX8_eclipse 12 = .ok (.iconst 0, 1) := by decide +kernel
theorem dX8_eclipse_13 : decode cX8_eclipse 13 = .ok (.iastore, 1) := by decide +kernel
theorem dX8_eclipse_14 : decode cX8_eclipse 14 = .ok (.aload_n 0, 1) := by decide +kernel
theorem dX8_eclipse_15 : decode cX8_eclipse 15 = .ok (.getfield 7, 3) := by decide +kernel
theorem dX8_eclipse_18 : decode cX8_eclipse 18 = .ok (.iconst 5, 1) := by decide +kernel
theorem dX8_eclipse_19 : decode cX8_eclipse 19 = .ok (.dup2, 1) := by decide +kernel
theorem dX8_eclipse_20 : decode cX8_eclipse 20 = .ok (.iaload, 1) := by decide +kernel
theorem dX8_eclipse_21 : decode cX8_eclipse 21 = .ok (.iload_n 1, 1) := by decide +kernel
theorem dX8_eclipse_22 : decode cX8_eclipse 22 = .ok (.iadd, 1) := by decide +kernel
theorem dX8_eclipse_23 : decode cX8_eclipse 23 = .ok (.iastore, 1) := by decide +kernel
theorem dX8_eclipse_24 : decode cX8_eclipse 24 = .ok (.iload_n 1, 1) := by decide +kernel
theorem dX8_eclipse_25 : decode cX8_eclipse 25 = .ok (.ireturn, 1) := by decide +kernel
theorem dX8_deal_0 : decode cX8_deal 0 = .ok (.iload_n 1, 1) := by decide +kernel
theorem dX8_deal_1 : decode cX8_deal 1 = .ok (.i2l, 1) := by decide +kernel
theorem dX8_deal_2 : decode cX8_deal 2 = .ok (.lconst 1, 1) := by decide +kernel
theorem dX8_deal_3 : decode cX8_deal 3 = .ok (.ldc2_w 158, 3) := by decide +kernel
theorem dX8_deal_6 : decode cX8_deal 6 = .ok (.invokestatic 71, 3) := by decide +kernel
theorem dX8_deal_9 : decode cX8_deal 9 = .ok (.ifCond .ne 6, 3) := by decide +kernel
theorem dX8_deal_12 : decode cX8_deal 12 = .ok (.ldc 86, 2) := by decide +kernel
theorem dX8_deal_14 : decode cX8_deal 14 = .ok (.ireturn, 1) := by decide +kernel
theorem dX8_deal_15 : decode cX8_deal 15 = .ok (.iconst 0, 1) := by decide +kernel
theorem dX8_deal_16 : decode cX8_deal 16 = .ok (.istore_n 2, 1) := by decide +kernel
theorem dX8_deal_17 : decode cX8_deal 17 = .ok (.iload_n 2, 1) := by decide +kernel
theorem dX8_deal_18 : decode cX8_deal 18 = .ok (.iload_n 1, 1) := by decide +kernel
theorem dX8_deal_19 : decode cX8_deal 19 = .ok (.if_icmp .ge 51, 3) := by decide +kernel
theorem dX8_deal_22 : decode cX8_deal 22 = .ok (.aload_n 0, 1) := by decide +kernel
theorem dX8_deal_23 : decode cX8_deal 23 = .ok (.getfield 7, 3) := by decide +kernel
theorem dX8_deal_26 : decode cX8_deal 26 = .ok (.iconst 0, 1) := by decide +kernel
theorem dX8_deal_27 : decode cX8_deal 27 = .ok (.iaload, 1) := by decide +kernel
theorem dX8_deal_28 : decode cX8_deal 28 = .ok (.bipush 10, 2) := by decide +kernel
theorem dX8_deal_30 : decode cX8_deal 30 = .ok (.if_icmp .ge 40, 3) := by decide +kernel
theorem dX8_deal_33 : decode cX8_deal 33 = .ok (.aload_n 0, 1) := by decide +kernel
theorem dX8_deal_34 : decode cX8_deal 34 = .ok (.invokevirtual 160, 3) := by decide +kernel
theorem dX8_deal_37 : decode cX8_deal 37 = .ok (.bipush 6, 2) := by decide +kernel
theorem dX8_deal_39 : decode cX8_deal 39 = .ok (.irem, 1) := by decide +kernel
theorem dX8_deal_40 : decode cX8_deal 40 = .ok (.istore_n 3, 1) := by decide +kernel
theorem dX8_deal_41 : decode cX8_deal 41 = .ok (.aload_n 0, 1) := by decide +kernel
theorem dX8_deal_42 : decode cX8_deal 42 = .ok (.invokevirtual 160, 3) := by decide +kernel
theorem dX8_deal_45 : decode cX8_deal 45 = .ok (.bipush 24, 2) := by decide +kernel
theorem dX8_deal_47 : decode cX8_deal 47 = .ok (.irem, 1) := by decide +kernel
theorem dX8_deal_48 : decode cX8_deal 48 = .ok (.istore 4, 2) := by decide +kernel
theorem dX8_deal_50 : decode cX8_deal 50 = .ok (.aload_n 0, 1) := by decide +kernel
theorem dX8_deal_51 : decode cX8_deal 51 = .ok (.iload_n 3, 1) := by decide +kernel
theorem dX8_deal_52 : decode cX8_deal 52 = .ok (.iload 4, 2) := by decide +kernel
theorem dX8_deal_54 : decode cX8_deal 54 = .ok (.aload_n 0, 1) := by decide +kernel
theorem dX8_deal_55 : decode cX8_deal 55 = .ok (.invokevirtual 160, 3) := by decide +kernel
theorem dX8_deal_58 : decode cX8_deal 58 = .ok (.bipush 100, 2) := by decide +kernel
theorem dX8_deal_60 : decode cX8_deal 60 = .ok (.irem, 1) := by decide +kernel
theorem dX8_deal_61 : decode cX8_deal 61 = .ok (.invokevirtual 88, 3) := by decide +kernel
theorem dX8_deal_64 : decode cX8_deal 64 = .ok (.iinc 2 1, 3) := by decide +kernel
theorem dX8_deal_67 : decode cX8_deal 67 = .ok (.goto (-50), 3) := by decide +kernel
theorem dX8_deal_70 : decode cX8_deal 70 = .ok (.iload_n 2, 1) := by decide +kernel
theorem dX8_deal_71 : decode cX8_deal 71 = .ok (.ireturn, 1) := by decide +kernel
theorem dX8_seed_0 : decode cX8_seed 0 = .ok (.aload_n 0, 1) := by decide +kernel
theorem dX8_seed_1 : decode cX8_seed 1 = .ok (.bipush 6, 2) := by decide +kernel
theorem dX8_seed_3 : decode cX8_seed 3 = .ok (.iload_n 1, 1) := by decide +kernel
theorem dX8_seed_4 : decode cX8_seed 4 = .ok (.invokevirtual 130, 3) := by decide +kernel
theorem dX8_seed_7 : decode cX8_seed 7 = .ok (.ireturn, 1) := by decide +kernel
theorem dX8_earns_0 : decode cX8_earns 0 = .ok (.aload_n 0, 1) := by decide +kernel
theorem dX8_earns_1 : decode cX8_earns 1 = .ok (.iload_n 1, 1) := by decide +kernel
theorem dX8_earns_2 : decode cX8_earns 2 = .ok (.iconst 3, 1) := by decide +kernel
theorem dX8_earns_3 : decode cX8_earns 3 = .ok (.aload_n 0, 1) := by decide +kernel
theorem dX8_earns_4 : decode cX8_earns 4 = .ok (.iload_n 1, 1) := by decide +kernel
theorem dX8_earns_5 : decode cX8_earns 5 = .ok (.iconst 3, 1) := by decide +kernel
theorem dX8_earns_6 : decode cX8_earns 6 = .ok (.invokevirtual 98, 3) := by decide +kernel
theorem dX8_earns_9 : decode cX8_earns 9 = .ok (.iload_n 2, 1) := by decide +kernel
theorem dX8_earns_10 : decode cX8_earns 10 = .ok (.iadd, 1) := by decide +kernel
theorem dX8_earns_11 : decode cX8_earns 11 = .ok (.sipush (-9999), 3) := by decide +kernel
theorem dX8_earns_14 : decode cX8_earns 14 = .ok (.sipush 9999, 3) := by decide +kernel
theorem dX8_earns_17 : decode cX8_earns 17 = .ok (.invokestatic 108, 3) := by decide +kernel
theorem dX8_earns_20 : decode cX8_earns 20 = .ok (.invokevirtual 76, 3) := by decide +kernel
theorem dX8_earns_23 : decode cX8_earns 23 = .ok (.return_, 1) := by decide +kernel
theorem dX8_goesOn_0 : decode cX8_goesOn 0 = .ok (.aload_n 0, 1) := by decide +kernel
theorem dX8_goesOn_1 : decode cX8_goesOn 1 = .ok (.getfield 7, 3) := by decide +kernel
theorem dX8_goesOn_4 : decode cX8_goesOn 4 = .ok (.iconst 2, 1) := by decide +kernel
theorem dX8_goesOn_5 : decode cX8_goesOn 5 = .ok (.dup2, 1) := by decide +kernel
theorem dX8_goesOn_6 : decode cX8_goesOn 6 = .ok (.iaload, 1) := by decide +kernel
theorem dX8_goesOn_7 : decode cX8_goesOn 7 = .ok (.iconst 1, 1) := by decide +kernel
theorem dX8_goesOn_8 : decode cX8_goesOn 8 = .ok (.iadd, 1) := by decide +kernel
theorem dX8_goesOn_9 : decode cX8_goesOn 9 = .ok (.iastore, 1) := by decide +kernel
theorem dX8_goesOn_10 : decode cX8_goesOn 10 = .ok (.iconst 0, 1) := by decide +kernel
theorem dX8_goesOn_11 : decode cX8_goesOn 11 = .ok (.istore_n 1, 1) := by decide +kernel
theorem dX8_goesOn_12 : decode cX8_goesOn 12 = .ok (.iload_n 1, 1) := by decide +kernel
theorem dX8_goesOn_13 : decode cX8_goesOn 13 = .ok (.aload_n 0, 1) := by decide +kernel
theorem dX8_goesOn_14 : decode cX8_goesOn 14 = .ok (.getfield 7, 3) := by decide +kernel
theorem dX8_goesOn_17 : decode cX8_goesOn 17 = .ok (.iconst 3, 1) := by decide +kernel
theorem dX8_goesOn_18 : decode cX8_goesOn 18 = .ok (.iaload, 1) := by decide +kernel
theorem dX8_goesOn_19 : decode cX8_goesOn 19 = .ok (.if_icmp .ge 82, 3) := by decide +kernel
theorem dX8_goesOn_22 : decode cX8_goesOn 22 = .ok (.aload_n 0, 1) := by decide +kernel
theorem dX8_goesOn_23 : decode cX8_goesOn 23 = .ok (.aload_n 0, 1) := by decide +kernel
theorem dX8_goesOn_24 : decode cX8_goesOn 24 = .ok (.iload_n 1, 1) := by decide +kernel
theorem dX8_goesOn_25 : decode cX8_goesOn 25 = .ok (.iconst 0, 1) := by decide +kernel
theorem dX8_goesOn_26 : decode cX8_goesOn 26 = .ok (.invokevirtual 91, 3) := by decide +kernel
theorem dX8_goesOn_29 : decode cX8_goesOn 29 = .ok (.invokevirtual 116, 3) := by decide +kernel
theorem dX8_goesOn_32 : decode cX8_goesOn 32 = .ok (.aload_n 0, 1) := by decide +kernel
theorem dX8_goesOn_33 : decode cX8_goesOn 33 = .ok (.getfield 7, 3) := by decide +kernel
theorem dX8_goesOn_36 : decode cX8_goesOn 36 = .ok (.iconst 2, 1) := by decide +kernel
theorem dX8_goesOn_37 : decode cX8_goesOn 37 = .ok (.iaload, 1) := by decide +kernel
theorem dX8_goesOn_38 : decode cX8_goesOn 38 = .ok (.bipush 24, 2) := by decide +kernel
theorem dX8_goesOn_40 : decode cX8_goesOn 40 = .ok (.irem, 1) := by decide +kernel
theorem dX8_goesOn_41 : decode cX8_goesOn 41 = .ok (.if_icmp .ne 7, 3) := by decide +kernel
theorem dX8_goesOn_44 : decode cX8_goesOn 44 = .ok (.iconst 1, 1) := by decide +kernel
theorem dX8_goesOn_45 : decode cX8_goesOn 45 = .ok (.goto 4, 3) := by decide +kernel
theorem dX8_goesOn_48 : decode cX8_goesOn 48 = .ok (.iconst 0, 1) := by decide +kernel
theorem dX8_goesOn_49 : decode cX8_goesOn 49 = .ok (.istore_n 2, 1) := by decide +kernel
theorem dX8_goesOn_50 : decode cX8_goesOn 50 = .ok (.iload_n 2, 1) := by decide +kernel
theorem dX8_goesOn_51 : decode cX8_goesOn 51 = .ok (.ifCond .eq 26, 3) := by decide +kernel
theorem dX8_goesOn_54 : decode cX8_goesOn 54 = .ok (.aload_n 0, 1) := by decide +kernel
theorem dX8_goesOn_55 : decode cX8_goesOn 55 = .ok (.invokevirtual 160, 3) := by decide +kernel
theorem dX8_goesOn_58 : decode cX8_goesOn 58 = .ok (.bipush 100, 2) := by decide +kernel
theorem dX8_goesOn_60 : decode cX8_goesOn 60 = .ok (.irem, 1) := by decide +kernel
theorem dX8_goesOn_61 : decode cX8_goesOn 61 = .ok (.aload_n 0, 1) := by decide +kernel
theorem dX8_goesOn_62 : decode cX8_goesOn 62 = .ok (.iload_n 1, 1) := by decide +kernel
theorem dX8_goesOn_63 : decode cX8_goesOn 63 = .ok (.invokevirtual 155, 3) := by decide +kernel
theorem dX8_goesOn_66 : decode cX8_goesOn 66 = .ok (.if_icmp .lt 11, 3) := by decide +kernel
theorem dX8_goesOn_69 : decode cX8_goesOn 69 = .ok (.aload_n 0, 1) := by decide +kernel
theorem dX8_goesOn_70 : decode cX8_goesOn 70 = .ok (.iload_n 1, 1) := by decide +kernel
theorem dX8_goesOn_71 : decode cX8_goesOn 71 = .ok (.invokevirtual 139, 3) := by decide +kernel
theorem dX8_goesOn_74 : decode cX8_goesOn 74 = .ok (.goto 24, 3) := by decide +kernel
theorem dX8_goesOn_77 : decode cX8_goesOn 77 = .ok (.aload_n 0, 1) := by decide +kernel
theorem dX8_goesOn_78 : decode cX8_goesOn 78 = .ok (.getfield 7, 3) := by decide +kernel
theorem dX8_goesOn_81 : decode cX8_goesOn 81 = .ok (.iconst 4, 1) := by decide +kernel
theorem dX8_goesOn_82 : decode cX8_goesOn 82 = .ok (.dup2, 1) := by decide +kernel
theorem dX8_goesOn_83 : decode cX8_goesOn 83 = .ok (.iaload, 1) := by decide +kernel
theorem dX8_goesOn_84 : decode cX8_goesOn 84 = .ok (.iload_n 2, 1) := by decide +kernel
theorem dX8_goesOn_85 : decode cX8_goesOn 85 = .ok (.ifCond .eq 7, 3) := by decide +kernel
theorem dX8_goesOn_88 : decode cX8_goesOn 88 = .ok (.iconst 1, 1) := by decide +kernel
theorem dX8_goesOn_89 : decode cX8_goesOn 89 = .ok (.goto 4, 3) := by decide +kernel
theorem dX8_goesOn_92 : decode cX8_goesOn 92 = .ok (.iconst 0, 1) := by decide +kernel
theorem dX8_goesOn_93 : decode cX8_goesOn 93 = .ok (.iadd, 1) := by decide +kernel
theorem dX8_goesOn_94 : decode cX8_goesOn 94 = .ok (.iastore, 1) := by decide +kernel
theorem dX8_goesOn_95 : decode cX8_goesOn 95 = .ok (.iinc 1 1, 3) := by decide +kernel
theorem dX8_goesOn_98 : decode cX8_goesOn 98 = .ok (.goto (-86), 3) := by decide +kernel
theorem dX8_goesOn_101 : decode cX8_goesOn 101 = .ok (.iconst 0, 1) := by decide +kernel
theorem dX8_goesOn_102 : decode cX8_goesOn 102 = .ok (.istore_n 1, 1) := by decide +kernel
theorem dX8_goesOn_103 : decode cX8_goesOn 103 = .ok (.iload_n 1, 1) := by decide +kernel
theorem dX8_goesOn_104 : decode cX8_goesOn 104 = .ok (.aload_n 0, 1) := by decide +kernel
theorem dX8_goesOn_105 : decode cX8_goesOn 105 = .ok (.getfield 7, 3) := by decide +kernel
theorem dX8_goesOn_108 : decode cX8_goesOn 108 = .ok (.iconst 3, 1) := by decide +kernel
theorem dX8_goesOn_109 : decode cX8_goesOn 109 = .ok (.iaload, 1) := by decide +kernel
theorem dX8_goesOn_110 : decode cX8_goesOn 110 = .ok (.if_icmp .ge 53, 3) := by decide +kernel
theorem dX8_goesOn_113 : decode cX8_goesOn 113 = .ok (.aload_n 0, 1) := by decide +kernel
theorem dX8_goesOn_114 : decode cX8_goesOn 114 = .ok (.iload_n 1, 1) := by decide +kernel
theorem dX8_goesOn_115 : decode cX8_goesOn 115 = .ok (.iconst 2, 1) := by decide +kernel
theorem dX8_goesOn_116 : decode cX8_goesOn 116 = .ok (.invokevirtual 91, 3) := by decide +kernel
theorem dX8_goesOn_119 : decode cX8_goesOn 119 = .ok (.iconst 2, 1) := by decide +kernel
theorem dX8_goesOn_120 : decode cX8_goesOn 120 = .ok (.if_icmp .ne 37, 3) := by decide +kernel
theorem dX8_goesOn_123 : decode cX8_goesOn 123 = .ok (.aload_n 0, 1) := by decide +kernel
theorem dX8_goesOn_124 : decode cX8_goesOn 124 = .ok (.aload_n 0, 1) := by decide +kernel
theorem dX8_goesOn_125 : decode cX8_goesOn 125 = .ok (.iload_n 1, 1) := by decide +kernel
theorem dX8_goesOn_126 : decode cX8_goesOn 126 = .ok (.iconst 0, 1) := by decide +kernel
theorem dX8_goesOn_127 : decode cX8_goesOn 127 = .ok (.invokevirtual 91, 3) := by decide +kernel
theorem dX8_goesOn_130 : decode cX8_goesOn 130 = .ok (.invokevirtual 119, 3) := by decide +kernel
theorem dX8_goesOn_133 : decode cX8_goesOn 133 = .ok (.istore_n 2, 1) := by decide +kernel
theorem dX8_goesOn_134 : decode cX8_goesOn 134 = .ok (.aload_n 0, 1) := by decide +kernel
theorem dX8_goesOn_135 : decode cX8_goesOn 135 = .ok (.aload_n 0, 1) := by decide +kernel
theorem dX8_goesOn_136 : decode cX8_goesOn 136 = .ok (.iload_n 1, 1) := by decide +kernel
theorem dX8_goesOn_137 : decode cX8_goesOn 137 = .ok (.iconst 0, 1) := by decide +kernel
theorem dX8_goesOn_138 : decode cX8_goesOn 138 = .ok (.invokevirtual 91, 3) := by decide +kernel
theorem dX8_goesOn_141 : decode cX8_goesOn 141 = .ok (.iload_n 2, 1) := by decide +kernel
theorem dX8_goesOn_142 : decode cX8_goesOn 142 = .ok (.ineg, 1) := by decide +kernel
theorem dX8_goesOn_143 : decode cX8_goesOn 143 = .ok (.invokevirtual 164, 3) := by decide +kernel
theorem dX8_goesOn_146 : decode cX8_goesOn 146 = .ok (.aload_n 0, 1) := by decide +kernel
theorem dX8_goesOn_147 : decode cX8_goesOn 147 = .ok (.aload_n 0, 1) := by decide +kernel
theorem dX8_goesOn_148 : decode cX8_goesOn 148 = .ok (.iload_n 1, 1) := by decide +kernel
theorem dX8_goesOn_149 : decode cX8_goesOn 149 = .ok (.iconst 1, 1) := by decide +kernel
theorem dX8_goesOn_150 : decode cX8_goesOn 150 = .ok (.invokevirtual 91, 3) := by decide +kernel
theorem dX8_goesOn_153 : decode cX8_goesOn 153 = .ok (.iload_n 2, 1) := by decide +kernel
theorem dX8_goesOn_154 : decode cX8_goesOn 154 = .ok (.invokevirtual 164, 3) := by decide +kernel
theorem dX8_goesOn_157 : decode cX8_goesOn 157 = .ok (.iinc 1 1, 3) := by decide +kernel
theorem dX8_goesOn_160 : decode cX8_goesOn 160 = .ok (.goto (-57), 3) := by decide +kernel
theorem dX8_goesOn_163 : decode cX8_goesOn 163 = .ok (.return_, 1) := by decide +kernel
theorem dX8_goesOnMany_0 : decode cX8_goesOnMany 0 = .ok (.iconst 0, 1) := by decide +kernel
theorem dX8_goesOnMany_1 : decode cX8_goesOnMany 1 = .ok (.istore_n 2, 1) := by decide +kernel
theorem dX8_goesOnMany_2 : decode cX8_goesOnMany 2 = .ok (.iload_n 2, 1) := by decide +kernel
theorem dX8_goesOnMany_3 : decode cX8_goesOnMany 3 = .ok (.iload_n 1, 1) := by decide +kernel
theorem dX8_goesOnMany_4 : decode cX8_goesOnMany 4 = .ok (.if_icmp .ge 13, 3) := by decide +kernel
theorem dX8_goesOnMany_7 : decode cX8_goesOnMany 7 = .ok (.aload_n 0, 1) := by decide +kernel
theorem dX8_goesOnMany_8 : decode cX8_goesOnMany 8 = .ok (.invokevirtual 168, 3) := by decide +kernel
theorem dX8_goesOnMany_11 : decode cX8_goesOnMany 11 = .ok (.iinc 2 1, 3) := by decide +kernel
theorem dX8_goesOnMany_14 : decode cX8_goesOnMany 14 = .ok (.goto (-12), 3) := by decide +kernel
theorem dX8_goesOnMany_17 : decode cX8_goesOnMany 17 = .ok (.return_, 1) := by decide +kernel
theorem dX8_hours_0 : decode cX8_hours 0 = .ok (.iload_n 1, 1) := by decide +kernel
theorem dX8_hours_1 : decode cX8_hours 1 = .ok (.i2l, 1) := by decide +kernel
theorem dX8_hours_2 : decode cX8_hours 2 = .ok (.lconst 1, 1) := by decide +kernel
theorem dX8_hours_3 : decode cX8_hours 3 = .ok (.ldc2_w 171, 3) := by decide +kernel
theorem dX8_hours_6 : decode cX8_hours 6 = .ok (.invokestatic 71, 3) := by decide +kernel
theorem dX8_hours_9 : decode cX8_hours 9 = .ok (.ifCond .ne 6, 3) := by decide +kernel
theorem dX8_hours_12 : decode cX8_hours 12 = .ok (.ldc 86, 2) := by decide +kernel
theorem dX8_hours_14 : decode cX8_hours 14 = .ok (.ireturn, 1) := by decide +kernel
theorem dX8_hours_15 : decode cX8_hours 15 = .ok (.aload_n 0, 1) := by decide +kernel
theorem dX8_hours_16 : decode cX8_hours 16 = .ok (.getfield 7, 3) := by decide +kernel
theorem dX8_hours_19 : decode cX8_hours 19 = .ok (.iconst 5, 1) := by decide +kernel
theorem dX8_hours_20 : decode cX8_hours 20 = .ok (.iaload, 1) := by decide +kernel
theorem dX8_hours_21 : decode cX8_hours 21 = .ok (.istore_n 2, 1) := by decide +kernel
theorem dX8_hours_22 : decode cX8_hours 22 = .ok (.iconst 0, 1) := by decide +kernel
theorem dX8_hours_23 : decode cX8_hours 23 = .ok (.istore_n 3, 1) := by decide +kernel
theorem dX8_hours_24 : decode cX8_hours 24 = .ok (.iload_n 3, 1) := by decide +kernel
theorem dX8_hours_25 : decode cX8_hours 25 = .ok (.iload_n 1, 1) := by decide +kernel
theorem dX8_hours_26 : decode cX8_hours 26 = .ok (.if_icmp .ge 25, 3) := by decide +kernel
theorem dX8_hours_29 : decode cX8_hours 29 = .ok (.aload_n 0, 1) := by decide +kernel
theorem dX8_hours_30 : decode cX8_hours 30 = .ok (.getfield 7, 3) := by decide +kernel
theorem dX8_hours_33 : decode cX8_hours 33 = .ok (.iconst 2, 1) := by decide +kernel
theorem dX8_hours_34 : decode cX8_hours 34 = .ok (.iaload, 1) := by decide +kernel
theorem dX8_hours_35 : decode cX8_hours 35 = .ok (.sipush 9999, 3) := by decide +kernel
theorem dX8_hours_38 : decode cX8_hours 38 = .ok (.if_icmp .ge 13, 3) := by decide +kernel
theorem dX8_hours_41 : decode cX8_hours 41 = .ok (.aload_n 0, 1) := by decide +kernel
theorem dX8_hours_42 : decode cX8_hours 42 = .ok (.invokevirtual 168, 3) := by decide +kernel
theorem dX8_hours_45 : decode cX8_hours 45 = .ok (.iinc 3 1, 3) := by decide +kernel
theorem dX8_hours_48 : decode cX8_hours 48 = .ok (.goto (-24), 3) := by decide +kernel
theorem dX8_hours_51 : decode cX8_hours 51 = .ok (.aload_n 0, 1) := by decide +kernel
theorem dX8_hours_52 : decode cX8_hours 52 = .ok (.getfield 7, 3) := by decide +kernel
theorem dX8_hours_55 : decode cX8_hours 55 = .ok (.iconst 5, 1) := by decide +kernel
theorem dX8_hours_56 : decode cX8_hours 56 = .ok (.iaload, 1) := by decide +kernel
theorem dX8_hours_57 : decode cX8_hours 57 = .ok (.iload_n 2, 1) := by decide +kernel
theorem dX8_hours_58 : decode cX8_hours 58 = .ok (.isub, 1) := by decide +kernel
theorem dX8_hours_59 : decode cX8_hours 59 = .ok (.ireturn, 1) := by decide +kernel
theorem dX8_setBy_0 : decode cX8_setBy 0 = .ok (.iconst 0, 1) := by decide +kernel
theorem dX8_setBy_1 : decode cX8_setBy 1 = .ok (.istore_n 2, 1) := by decide +kernel
theorem dX8_setBy_2 : decode cX8_setBy 2 = .ok (.iconst 0, 1) := by decide +kernel
theorem dX8_setBy_3 : decode cX8_setBy 3 = .ok (.istore_n 3, 1) := by decide +kernel
theorem dX8_setBy_4 : decode cX8_setBy 4 = .ok (.iload_n 3, 1) := by decide +kernel
theorem dX8_setBy_5 : decode cX8_setBy 5 = .ok (.aload_n 0, 1) := by decide +kernel
theorem dX8_setBy_6 : decode cX8_setBy 6 = .ok (.getfield 7, 3) := by decide +kernel
theorem dX8_setBy_9 : decode cX8_setBy 9 = .ok (.iconst 3, 1) := by decide +kernel
theorem dX8_setBy_10 : decode cX8_setBy 10 = .ok (.iaload, 1) := by decide +kernel
theorem dX8_setBy_11 : decode cX8_setBy 11 = .ok (.if_icmp .ge 20, 3) := by decide +kernel
theorem dX8_setBy_14 : decode cX8_setBy 14 = .ok (.iload_n 2, 1) := by decide +kernel
theorem dX8_setBy_15 : decode cX8_setBy 15 = .ok (.iconst 1, 1) := by decide +kernel
theorem dX8_setBy_16 : decode cX8_setBy 16 = .ok (.aload_n 0, 1) := by decide +kernel
theorem dX8_setBy_17 : decode cX8_setBy 17 = .ok (.iload_n 3, 1) := by decide +kernel
theorem dX8_setBy_18 : decode cX8_setBy 18 = .ok (.iload_n 1, 1) := by decide +kernel
theorem dX8_setBy_19 : decode cX8_setBy 19 = .ok (.invokevirtual 91, 3) := by decide +kernel
theorem dX8_setBy_22 : decode cX8_setBy 22 = .ok (.ishl, 1) := by decide +kernel
theorem dX8_setBy_23 : decode cX8_setBy 23 = .ok (.ior, 1) := by decide +kernel
theorem dX8_setBy_24 : decode cX8_setBy 24 = .ok (.istore_n 2, 1) := by decide +kernel
theorem dX8_setBy_25 : decode cX8_setBy 25 = .ok (.iinc 3 1, 3) := by decide +kernel
theorem dX8_setBy_28 : decode cX8_setBy 28 = .ok (.goto (-24), 3) := by decide +kernel
theorem dX8_setBy_31 : decode cX8_setBy 31 = .ok (.iload_n 2, 1) := by decide +kernel
theorem dX8_setBy_32 : decode cX8_setBy 32 = .ok (.ireturn, 1) := by decide +kernel
theorem dX8_findSworn_0 : decode cX8_findSworn 0 = .ok (.iconst 0, 1) := by decide +kernel
theorem dX8_findSworn_1 : decode cX8_findSworn 1 = .ok (.istore_n 1, 1) := by decide +kernel
theorem dX8_findSworn_2 : decode cX8_findSworn 2 = .ok (.iload_n 1, 1) := by decide +kernel
theorem dX8_findSworn_3 : decode cX8_findSworn 3 = .ok (.aload_n 0, 1) := by decide +kernel
theorem dX8_findSworn_4 : decode cX8_findSworn 4 = .ok (.getfield 7, 3) := by decide +kernel
theorem dX8_findSworn_7 : decode cX8_findSworn 7 = .ok (.iconst 0, 1) := by decide +kernel
theorem dX8_findSworn_8 : decode cX8_findSworn 8 = .ok (.iaload, 1) := by decide +kernel
theorem dX8_findSworn_9 : decode cX8_findSworn 9 = .ok (.if_icmp .ge 16, 3) := by decide +kernel
theorem dX8_findSworn_12 : decode cX8_findSworn 12 = .ok (.aload_n 0, 1) := by decide +kernel
theorem dX8_findSworn_13 : decode cX8_findSworn 13 = .ok (.getfield 43, 3) := by decide +kernel
theorem dX8_findSworn_16 : decode cX8_findSworn 16 = .ok (.iload_n 1, 1) := by decide +kernel
theorem dX8_findSworn_17 : decode cX8_findSworn 17 = .ok (.iconst 0, 1) := by decide +kernel
theorem dX8_findSworn_18 : decode cX8_findSworn 18 = .ok (.iastore, 1) := by decide +kernel
theorem dX8_findSworn_19 : decode cX8_findSworn 19 = .ok (.iinc 1 1, 3) := by decide +kernel
theorem dX8_findSworn_22 : decode cX8_findSworn 22 = .ok (.goto (-20), 3) := by decide +kernel
theorem dX8_findSworn_25 : decode cX8_findSworn 25 = .ok (.iconst 0, 1) := by decide +kernel
theorem dX8_findSworn_26 : decode cX8_findSworn 26 = .ok (.istore_n 1, 1) := by decide +kernel
theorem dX8_findSworn_27 : decode cX8_findSworn 27 = .ok (.iload_n 1, 1) := by decide +kernel
theorem dX8_findSworn_28 : decode cX8_findSworn 28 = .ok (.aload_n 0, 1) := by decide +kernel
theorem dX8_findSworn_29 : decode cX8_findSworn 29 = .ok (.getfield 7, 3) := by decide +kernel
theorem dX8_findSworn_32 : decode cX8_findSworn 32 = .ok (.iconst 3, 1) := by decide +kernel
theorem dX8_findSworn_33 : decode cX8_findSworn 33 = .ok (.iaload, 1) := by decide +kernel
theorem dX8_findSworn_34 : decode cX8_findSworn 34 = .ok (.if_icmp .ge 31, 3) := by decide +kernel
theorem dX8_findSworn_37 : decode cX8_findSworn 37 = .ok (.aload_n 0, 1) := by decide +kernel
theorem dX8_findSworn_38 : decode cX8_findSworn 38 = .ok (.getfield 43, 3) := by decide +kernel
theorem dX8_findSworn_41 : decode cX8_findSworn 41 = .ok (.aload_n 0, 1) := by decide +kernel
theorem dX8_findSworn_42 : decode cX8_findSworn 42 = .ok (.iload_n 1, 1) := by decide +kernel
theorem dX8_findSworn_43 : decode cX8_findSworn 43 = .ok (.iconst 0, 1) := by decide +kernel
theorem dX8_findSworn_44 : decode cX8_findSworn 44 = .ok (.invokevirtual 91, 3) := by decide +kernel
theorem dX8_findSworn_47 : decode cX8_findSworn 47 = .ok (.dup2, 1) := by decide +kernel
theorem dX8_findSworn_48 : decode cX8_findSworn 48 = .ok (.iaload, 1) := by decide +kernel
theorem dX8_findSworn_49 : decode cX8_findSworn 49 = .ok (.iconst 1, 1) := by decide +kernel
theorem dX8_findSworn_50 : decode cX8_findSworn 50 = .ok (.aload_n 0, 1) := by decide +kernel
theorem dX8_findSworn_51 : decode cX8_findSworn 51 = .ok (.iload_n 1, 1) := by decide +kernel
theorem dX8_findSworn_52 : decode cX8_findSworn 52 = .ok (.iconst 1, 1) := by decide +kernel
theorem dX8_findSworn_53 : decode cX8_findSworn 53 = .ok (.invokevirtual 91, 3) := by decide +kernel
theorem dX8_findSworn_56 : decode cX8_findSworn 56 = .ok (.ishl, 1) := by decide +kernel
theorem dX8_findSworn_57 : decode cX8_findSworn 57 = .ok (.ior, 1) := by decide +kernel
theorem dX8_findSworn_58 : decode cX8_findSworn 58 = .ok (.iastore, 1) := by decide +kernel
theorem dX8_findSworn_59 : decode cX8_findSworn 59 = .ok (.iinc 1 1, 3) := by decide +kernel
theorem dX8_findSworn_62 : decode cX8_findSworn 62 = .ok (.goto (-35), 3) := by decide +kernel
theorem dX8_findSworn_65 : decode cX8_findSworn 65 = .ok (.return_, 1) := by decide +kernel
theorem dX8_manyIn_0 : decode cX8_manyIn 0 = .ok (.iconst 0, 1) := by decide +kernel
theorem dX8_manyIn_1 : decode cX8_manyIn 1 = .ok (.istore_n 1, 1) := by decide +kernel
theorem dX8_manyIn_2 : decode cX8_manyIn 2 = .ok (.iload_n 0, 1) := by decide +kernel
theorem dX8_manyIn_3 : decode cX8_manyIn 3 = .ok (.istore_n 2, 1) := by decide +kernel
theorem dX8_manyIn_4 : decode cX8_manyIn 4 = .ok (.iload_n 2, 1) := by decide +kernel
theorem dX8_manyIn_5 : decode cX8_manyIn 5 = .ok (.ifCond .eq 15, 3) := by decide +kernel
theorem dX8_manyIn_8 : decode cX8_manyIn 8 = .ok (.iinc 1 1, 3) := by decide +kernel
theorem dX8_manyIn_11 : decode cX8_manyIn 11 = .ok (.iload_n 2, 1) := by decide +kernel
theorem dX8_manyIn_12 : decode cX8_manyIn 12 = .ok (.iload_n 2, 1) := by decide +kernel
theorem dX8_manyIn_13 : decode cX8_manyIn 13 = .ok (.iconst 1, 1) := by decide +kernel
theorem dX8_manyIn_14 : decode cX8_manyIn 14 = .ok (.isub, 1) := by decide +kernel
theorem dX8_manyIn_15 : decode cX8_manyIn 15 = .ok (.iand, 1) := by decide +kernel
theorem dX8_manyIn_16 : decode cX8_manyIn 16 = .ok (.istore_n 2, 1) := by decide +kernel
theorem dX8_manyIn_17 : decode cX8_manyIn 17 = .ok (.goto (-13), 3) := by decide +kernel
theorem dX8_manyIn_20 : decode cX8_manyIn 20 = .ok (.iload_n 1, 1) := by decide +kernel
theorem dX8_manyIn_21 : decode cX8_manyIn 21 = .ok (.ireturn, 1) := by decide +kernel
theorem dX8_chain_0 : decode cX8_chain 0 = .ok (.aload_n 0, 1) := by decide +kernel
theorem dX8_chain_1 : decode cX8_chain 1 = .ok (.invokevirtual 173, 3) := by decide +kernel
theorem dX8_chain_4 : decode cX8_chain 4 = .ok (.iconst 1, 1) := by decide +kernel
theorem dX8_chain_5 : decode cX8_chain 5 = .ok (.aload_n 0, 1) := by decide +kernel
theorem dX8_chain_6 : decode cX8_chain 6 = .ok (.getfield 7, 3) := by decide +kernel
theorem dX8_chain_9 : decode cX8_chain 9 = .ok (.iconst 0, 1) := by decide +kernel
theorem dX8_chain_10 : decode cX8_chain 10 = .ok (.iaload, 1) := by decide +kernel
theorem dX8_chain_11 : decode cX8_chain 11 = .ok (.ishl, 1) := by decide +kernel
theorem dX8_chain_12 : decode cX8_chain 12 = .ok (.istore_n 1, 1) := by decide +kernel
theorem dX8_chain_13 : decode cX8_chain 13 = .ok (.iconst 0, 1) := by decide +kernel
theorem dX8_chain_14 : decode cX8_chain 14 = .ok (.istore_n 2, 1) := by decide +kernel
theorem dX8_chain_15 : decode cX8_chain 15 = .ok (.iload_n 2, 1) := by decide +kernel
theorem dX8_chain_16 : decode cX8_chain 16 = .ok (.iload_n 1, 1) := by decide +kernel
theorem dX8_chain_17 : decode cX8_chain 17 = .ok (.if_icmp .ge 16, 3) := by decide +kernel
theorem dX8_chain_20 : decode cX8_chain 20 = .ok (.aload_n 0, 1) := by decide +kernel
theorem dX8_chain_21 : decode cX8_chain 21 = .ok (.getfield 46, 3) := by decide +kernel
theorem dX8_chain_24 : decode cX8_chain 24 = .ok (.iload_n 2, 1) := by decide +kernel
theorem dX8_chain_25 : decode cX8_chain 25 = .ok (.iconst 0, 1) := by decide +kernel
theorem dX8_chain_26 : decode cX8_chain 26 = .ok (.iastore, 1) := by decide +kernel
theorem dX8_chain_27 : decode cX8_chain 27 = .ok (.iinc 2 1, 3) := by decide +kernel
theorem dX8_chain_30 : decode cX8_chain 30 = .ok (.goto (-15), 3) := by decide +kernel
theorem dX8_chain_33 : decode cX8_chain 33 = .ok (.iconst 0, 1) := by decide +kernel
theorem dX8_chain_34 : decode cX8_chain 34 = .ok (.istore_n 2, 1) := by decide +kernel
theorem dX8_chain_35 : decode cX8_chain 35 = .ok (.iload_n 2, 1) := by decide +kernel
theorem dX8_chain_36 : decode cX8_chain 36 = .ok (.aload_n 0, 1) := by decide +kernel
theorem dX8_chain_37 : decode cX8_chain 37 = .ok (.getfield 7, 3) := by decide +kernel
theorem dX8_chain_40 : decode cX8_chain 40 = .ok (.iconst 0, 1) := by decide +kernel
theorem dX8_chain_41 : decode cX8_chain 41 = .ok (.iaload, 1) := by decide +kernel
theorem dX8_chain_42 : decode cX8_chain 42 = .ok (.if_icmp .ge 20, 3) := by decide +kernel
theorem dX8_chain_45 : decode cX8_chain 45 = .ok (.aload_n 0, 1) := by decide +kernel
theorem dX8_chain_46 : decode cX8_chain 46 = .ok (.getfield 46, 3) := by decide +kernel
theorem dX8_chain_49 : decode cX8_chain 49 = .ok (.iconst 1, 1) := by decide +kernel
theorem dX8_chain_50 : decode cX8_chain 50 = .ok (.iload_n 2, 1) := by decide +kernel
theorem dX8_chain_51 : decode cX8_chain 51 = .ok (.ishl, 1) := by decide +kernel
theorem dX8_chain_52 : decode cX8_chain 52 = .ok (.iconst 1, 1) := by decide +kernel
theorem dX8_chain_53 : decode cX8_chain 53 = .ok (.iload_n 2, 1) := by decide +kernel
theorem dX8_chain_54 : decode cX8_chain 54 = .ok (.ishl, 1) := by decide +kernel
theorem dX8_chain_55 : decode cX8_chain 55 = .ok (.iastore, 1) := by decide +kernel
theorem dX8_chain_56 : decode cX8_chain 56 = .ok (.iinc 2 1, 3) := by decide +kernel
theorem dX8_chain_59 : decode cX8_chain 59 = .ok (.goto (-24), 3) := by decide +kernel
theorem dX8_chain_62 : decode cX8_chain 62 = .ok (.iconst 0, 1) := by decide +kernel
theorem dX8_chain_63 : decode cX8_chain 63 = .ok (.istore_n 2, 1) := by decide +kernel
theorem dX8_chain_64 : decode cX8_chain 64 = .ok (.iconst 1, 1) := by decide +kernel
theorem dX8_chain_65 : decode cX8_chain 65 = .ok (.istore_n 3, 1) := by decide +kernel
theorem dX8_chain_66 : decode cX8_chain 66 = .ok (.iload_n 3, 1) := by decide +kernel
theorem dX8_chain_67 : decode cX8_chain 67 = .ok (.iload_n 1, 1) := by decide +kernel
theorem dX8_chain_68 : decode cX8_chain 68 = .ok (.if_icmp .ge 150, 3) := by decide +kernel
theorem dX8_chain_71 : decode cX8_chain 71 = .ok (.iconst 0, 1) := by decide +kernel
theorem dX8_chain_72 : decode cX8_chain 72 = .ok (.istore 4, 2) := by decide +kernel
theorem dX8_chain_74 : decode cX8_chain 74 = .ok (.iconst 0, 1) := by decide +kernel
theorem dX8_chain_75 : decode cX8_chain 75 = .ok (.istore 5, 2) := by decide +kernel
theorem dX8_chain_77 : decode cX8_chain 77 = .ok (.iload 5, 2) := by decide +kernel
theorem dX8_chain_79 : decode cX8_chain 79 = .ok (.aload_n 0, 1) := by decide +kernel
theorem dX8_chain_80 : decode cX8_chain 80 = .ok (.getfield 7, 3) := by decide +kernel
theorem dX8_chain_83 : decode cX8_chain 83 = .ok (.iconst 0, 1) := by decide +kernel
theorem dX8_chain_84 : decode cX8_chain 84 = .ok (.iaload, 1) := by decide +kernel
theorem dX8_chain_85 : decode cX8_chain 85 = .ok (.if_icmp .ge 40, 3) := by decide +kernel
theorem dX8_chain_88 : decode cX8_chain 88 = .ok (.iload 4, 2) := by decide +kernel
theorem dX8_chain_90 : decode cX8_chain 90 = .ok (.aload_n 0, 1) := by decide +kernel
theorem dX8_chain_91 : decode cX8_chain 91 = .ok (.getfield 46, 3) := by decide +kernel
theorem dX8_chain_94 : decode cX8_chain 94 = .ok (.iload_n 3, 1) := by decide +kernel
theorem dX8_chain_95 : decode cX8_chain 95 = .ok (.iaload, 1) := by decide +kernel
theorem dX8_chain_96 : decode cX8_chain 96 = .ok (.iload 5, 2) := by decide +kernel
theorem dX8_chain_98 : decode cX8_chain 98 = .ok (.ishr, 1) := by decide +kernel
theorem dX8_chain_99 : decode cX8_chain 99 = .ok (.iconst 1, 1) := by decide +kernel
theorem dX8_chain_100 : decode cX8_chain 100 = .ok (.iand, 1) := by decide +kernel
theorem dX8_chain_101 : decode cX8_chain 101 = .ok (.iconst 1, 1) := by decide +kernel
theorem dX8_chain_102 : decode cX8_chain 102 = .ok (.if_icmp .ne 13, 3) := by decide +kernel
theorem dX8_chain_105 : decode cX8_chain 105 = .ok (.aload_n 0, 1) := by decide +kernel
theorem dX8_chain_106 : decode cX8_chain 106 = .ok (.getfield 43, 3) := by decide +kernel
theorem dX8_chain_109 : decode cX8_chain 109 = .ok (.iload 5, 2) := by decide +kernel
theorem dX8_chain_111 : decode cX8_chain 111 = .ok (.iaload, 1) := by decide +kernel
theorem dX8_chain_112 : decode cX8_chain 112 = .ok (.goto 4, 3) := by decide +kernel
theorem dX8_chain_115 : decode cX8_chain 115 = .ok (.iconst 0, 1) := by decide +kernel
theorem dX8_chain_116 : decode cX8_chain 116 = .ok (.ior, 1) := by decide +kernel
theorem dX8_chain_117 : decode cX8_chain 117 = .ok (.istore 4, 2) := by decide +kernel
theorem dX8_chain_119 : decode cX8_chain 119 = .ok (.iinc 5 1, 3) := by decide +kernel
theorem dX8_chain_122 : decode cX8_chain 122 = .ok (.goto (-45), 3) := by decide +kernel
theorem dX8_chain_125 : decode cX8_chain 125 = .ok (.iload 4, 2) := by decide +kernel
theorem dX8_chain_127 : decode cX8_chain 127 = .ok (.iload_n 3, 1) := by decide +kernel
theorem dX8_chain_128 : decode cX8_chain 128 = .ok (.iconst (-1), 1) := by decide +kernel
theorem dX8_chain_129 : decode cX8_chain 129 = .ok (.ixor, 1) := by decide +kernel
theorem dX8_chain_130 : decode cX8_chain 130 = .ok (.iand, 1) := by decide +kernel
theorem dX8_chain_131 : decode cX8_chain 131 = .ok (.istore 4, 2) := by decide +kernel
theorem dX8_chain_133 : decode cX8_chain 133 = .ok (.iconst 0, 1) := by decide +kernel
theorem dX8_chain_134 : decode cX8_chain 134 = .ok (.istore 5, 2) := by decide +kernel
theorem dX8_chain_136 : decode cX8_chain 136 = .ok (.iload 5, 2) := by decide +kernel
theorem dX8_chain_138 : decode cX8_chain 138 = .ok (.aload_n 0, 1) := by decide +kernel
theorem dX8_chain_139 : decode cX8_chain 139 = .ok (.getfield 7, 3) := by decide +kernel
theorem dX8_chain_142 : decode cX8_chain 142 = .ok (.iconst 0, 1) := by decide +kernel
theorem dX8_chain_143 : decode cX8_chain 143 = .ok (.iaload, 1) := by decide +kernel
theorem dX8_chain_144 : decode cX8_chain 144 = .ok (.if_icmp .ge 38, 3) := by decide +kernel
theorem dX8_chain_147 : decode cX8_chain 147 = .ok (.iload 4, 2) := by decide +kernel
theorem dX8_chain_149 : decode cX8_chain 149 = .ok (.iload 5, 2) := by decide +kernel
theorem dX8_chain_151 : decode cX8_chain 151 = .ok (.ishr, 1) := by decide +kernel
theorem dX8_chain_152 : decode cX8_chain 152 = .ok (.iconst 1, 1) := by decide +kernel
theorem dX8_chain_153 : decode cX8_chain 153 = .ok (.iand, 1) := by decide +kernel
theorem dX8_chain_154 : decode cX8_chain 154 = .ok (.iconst 1, 1) := by decide +kernel
theorem dX8_chain_155 : decode cX8_chain 155 = .ok (.if_icmp .ne 21, 3) := by decide +kernel
theorem dX8_chain_158 : decode cX8_chain 158 = .ok (.aload_n 0, 1) := by decide +kernel
theorem dX8_chain_159 : decode cX8_chain 159 = .ok (.getfield 46, 3) := by decide +kernel
theorem dX8_chain_162 : decode cX8_chain 162 = .ok (.iload_n 3, 1) := by decide +kernel
theorem dX8_chain_163 : decode cX8_chain 163 = .ok (.iconst 1, 1) := by decide +kernel
theorem dX8_chain_164 : decode cX8_chain 164 = .ok (.iload 5, 2) := by decide +kernel
theorem dX8_chain_166 : decode cX8_chain 166 = .ok (.ishl, 1) := by decide +kernel
theorem dX8_chain_167 : decode cX8_chain 167 = .ok (.ior, 1) := by decide +kernel
theorem dX8_chain_168 : decode cX8_chain 168 = .ok (.dup2, 1) := by decide +kernel
theorem dX8_chain_169 : decode cX8_chain 169 = .ok (.iaload, 1) := by decide +kernel
theorem dX8_chain_170 : decode cX8_chain 170 = .ok (.iconst 1, 1) := by decide +kernel
theorem dX8_chain_171 : decode cX8_chain 171 = .ok (.iload 5, 2) := by decide +kernel
theorem dX8_chain_173 : decode cX8_chain 173 = .ok (.ishl, 1) := by decide +kernel
theorem dX8_chain_174 : decode cX8_chain 174 = .ok (.ior, 1) := by decide +kernel
theorem dX8_chain_175 : decode cX8_chain 175 = .ok (.iastore, 1) := by decide +kernel
theorem dX8_chain_176 : decode cX8_chain 176 = .ok (.iinc 5 1, 3) := by decide +kernel
theorem dX8_chain_179 : decode cX8_chain 179 = .ok (.goto (-43), 3) := by decide +kernel
theorem dX8_chain_182 : decode cX8_chain 182 = .ok (.aload_n 0, 1) := by decide +kernel
theorem dX8_chain_183 : decode cX8_chain 183 = .ok (.getfield 46, 3) := by decide +kernel
theorem dX8_chain_186 : decode cX8_chain 186 = .ok (.iload_n 3, 1) := by decide +kernel
theorem dX8_chain_187 : decode cX8_chain 187 = .ok (.iaload, 1) := by decide +kernel
theorem dX8_chain_188 : decode cX8_chain 188 = .ok (.ifCond .eq 22, 3) := by decide +kernel
theorem dX8_chain_191 : decode cX8_chain 191 = .ok (.iload_n 3, 1) := by decide +kernel
theorem dX8_chain_192 : decode cX8_chain 192 = .ok (.invokestatic 176, 3) := by decide +kernel
theorem dX8_chain_195 : decode cX8_chain 195 = .ok (.iconst 1, 1) := by decide +kernel
theorem dX8_chain_196 : decode cX8_chain 196 = .ok (.isub, 1) := by decide +kernel
theorem dX8_chain_197 : decode cX8_chain 197 = .ok (.iload_n 2, 1) := by decide +kernel
theorem dX8_chain_198 : decode cX8_chain 198 = .ok (.if_icmp .le 12, 3) := by decide +kernel
theorem dX8_chain_201 : decode cX8_chain 201 = .ok (.iload_n 3, 1) := by decide +kernel
theorem dX8_chain_202 : decode cX8_chain 202 = .ok (.invokestatic 176, 3) := by decide +kernel
theorem dX8_chain_205 : decode cX8_chain 205 = .ok (.iconst 1, 1) := by decide +kernel
theorem dX8_chain_206 : decode cX8_chain 206 = .ok (.isub, 1) := by decide +kernel
theorem dX8_chain_207 : decode cX8_chain 207 = .ok (.goto 4, 3) := by decide +kernel
theorem dX8_chain_210 : decode cX8_chain 210 = .ok (.iload_n 2, 1) := by decide +kernel
theorem dX8_chain_211 : decode cX8_chain 211 = .ok (.istore_n 2, 1) := by decide +kernel
theorem dX8_chain_212 : decode cX8_chain 212 = .ok (.iinc 3 1, 3) := by decide +kernel
theorem dX8_chain_215 : decode cX8_chain 215 = .ok (.goto (-149), 3) := by decide +kernel
theorem dX8_chain_218 : decode cX8_chain 218 = .ok (.iload_n 2, 1) := by decide +kernel
theorem dX8_chain_219 : decode cX8_chain 219 = .ok (.ireturn, 1) := by decide +kernel
theorem dX8_land_0 : decode cX8_land 0 = .ok (.iload_n 1, 1) := by decide +kernel
theorem dX8_land_1 : decode cX8_land 1 = .ok (.tableswitch 77 0 5 #[39, 46, 53, 60, 66, 72], 39) := by decide +kernel
theorem dX8_land_40 : decode cX8_land 40 = .ok (.aload_n 0, 1) := by decide +kernel
theorem dX8_land_41 : decode cX8_land 41 = .ok (.getfield 7, 3) := by decide +kernel
theorem dX8_land_44 : decode cX8_land 44 = .ok (.iconst 3, 1) := by decide +kernel
theorem dX8_land_45 : decode cX8_land 45 = .ok (.iaload, 1) := by decide +kernel
theorem dX8_land_46 : decode cX8_land 46 = .ok (.ireturn, 1) := by decide +kernel
theorem dX8_land_47 : decode cX8_land 47 = .ok (.aload_n 0, 1) := by decide +kernel
theorem dX8_land_48 : decode cX8_land 48 = .ok (.getfield 7, 3) := by decide +kernel
theorem dX8_land_51 : decode cX8_land 51 = .ok (.iconst 4, 1) := by decide +kernel
theorem dX8_land_52 : decode cX8_land 52 = .ok (.iaload, 1) := by decide +kernel
theorem dX8_land_53 : decode cX8_land 53 = .ok (.ireturn, 1) := by decide +kernel
theorem dX8_land_54 : decode cX8_land 54 = .ok (.aload_n 0, 1) := by decide +kernel
theorem dX8_land_55 : decode cX8_land 55 = .ok (.getfield 7, 3) := by decide +kernel
theorem dX8_land_58 : decode cX8_land 58 = .ok (.iconst 5, 1) := by decide +kernel
theorem dX8_land_59 : decode cX8_land 59 = .ok (.iaload, 1) := by decide +kernel
theorem dX8_land_60 : decode cX8_land 60 = .ok (.ireturn, 1) := by decide +kernel
theorem dX8_land_61 : decode cX8_land 61 = .ok (.aload_n 0, 1) := by decide +kernel
theorem dX8_land_62 : decode cX8_land 62 = .ok (.iconst 0, 1) := by decide +kernel
theorem dX8_land_63 : decode cX8_land 63 = .ok (.invokevirtual 179, 3) := by decide +kernel
theorem dX8_land_66 : decode cX8_land 66 = .ok (.ireturn, 1) := by decide +kernel
theorem dX8_land_67 : decode cX8_land 67 = .ok (.aload_n 0, 1) := by decide +kernel
theorem dX8_land_68 : decode cX8_land 68 = .ok (.iconst 1, 1) := by decide +kernel
theorem dX8_land_69 : decode cX8_land 69 = .ok (.invokevirtual 179, 3) := by decide +kernel
theorem dX8_land_72 : decode cX8_land 72 = .ok (.ireturn, 1) := by decide +kernel
theorem dX8_land_73 : decode cX8_land 73 = .ok (.aload_n 0, 1) := by decide +kernel
theorem dX8_land_74 : decode cX8_land 74 = .ok (.invokevirtual 182, 3) := by decide +kernel
theorem dX8_land_77 : decode cX8_land 77 = .ok (.ireturn, 1) := by decide +kernel
theorem dX8_land_78 : decode cX8_land 78 = .ok (.ldc 86, 2) := by decide +kernel
theorem dX8_land_80 : decode cX8_land 80 = .ok (.ireturn, 1) := by decide +kernel
theorem dX8_reaches_0 : decode cX8_reaches 0 = .ok (.aload_n 0, 1) := by decide +kernel
theorem dX8_reaches_1 : decode cX8_reaches 1 = .ok (.iload_n 1, 1) := by decide +kernel
theorem dX8_reaches_2 : decode cX8_reaches 2 = .ok (.invokevirtual 112, 3) := by decide +kernel
theorem dX8_reaches_5 : decode cX8_reaches 5 = .ok (.ifCond .eq 11, 3) := by decide +kernel
theorem dX8_reaches_8 : decode cX8_reaches 8 = .ok (.aload_n 0, 1) := by decide +kernel
theorem dX8_reaches_9 : decode cX8_reaches 9 = .ok (.iload_n 2, 1) := by decide +kernel
theorem dX8_reaches_10 : decode cX8_reaches 10 = .ok (.invokevirtual 112, 3) := by decide +kernel
theorem dX8_reaches_13 : decode cX8_reaches 13 = .ok (.ifCond .ne 6, 3) := by decide +kernel
theorem dX8_reaches_16 : decode cX8_reaches 16 = .ok (.ldc 86, 2) := by decide +kernel
theorem dX8_reaches_18 : decode cX8_reaches 18 = .ok (.ireturn, 1) := by decide +kernel
theorem dX8_reaches_19 : decode cX8_reaches 19 = .ok (.aload_n 0, 1) := by decide +kernel
theorem dX8_reaches_20 : decode cX8_reaches 20 = .ok (.invokevirtual 173, 3) := by decide +kernel
theorem dX8_reaches_23 : decode cX8_reaches 23 = .ok (.iconst 1, 1) := by decide +kernel
theorem dX8_reaches_24 : decode cX8_reaches 24 = .ok (.iload_n 1, 1) := by decide +kernel
theorem dX8_reaches_25 : decode cX8_reaches 25 = .ok (.ishl, 1) := by decide +kernel
theorem dX8_reaches_26 : decode cX8_reaches 26 = .ok (.istore_n 3, 1) := by decide +kernel
theorem dX8_reaches_27 : decode cX8_reaches 27 = .ok (.iconst 0, 1) := by decide +kernel
theorem dX8_reaches_28 : decode cX8_reaches 28 = .ok (.istore 4, 2) := by decide +kernel
theorem dX8_reaches_30 : decode cX8_reaches 30 = .ok (.iload 4, 2) := by decide +kernel
theorem dX8_reaches_32 : decode cX8_reaches 32 = .ok (.bipush 10, 2) := by decide +kernel
theorem dX8_reaches_34 : decode cX8_reaches 34 = .ok (.if_icmp .gt 73, 3) := by decide +kernel
theorem dX8_reaches_37 : decode cX8_reaches 37 = .ok (.iload_n 3, 1) := by decide +kernel
theorem dX8_reaches_38 : decode cX8_reaches 38 = .ok (.iload_n 2, 1) := by decide +kernel
theorem dX8_reaches_39 : decode cX8_reaches 39 = .ok (.ishr, 1) := by decide +kernel
theorem dX8_reaches_40 : decode cX8_reaches 40 = .ok (.iconst 1, 1) := by decide +kernel
theorem dX8_reaches_41 : decode cX8_reaches 41 = .ok (.iand, 1) := by decide +kernel
theorem dX8_reaches_42 : decode cX8_reaches 42 = .ok (.iconst 1, 1) := by decide +kernel
theorem dX8_reaches_43 : decode cX8_reaches 43 = .ok (.if_icmp .ne 6, 3) := by decide +kernel
theorem dX8_reaches_46 : decode cX8_reaches 46 = .ok (.iload 4, 2) := by decide +kernel
theorem dX8_reaches_48 : decode cX8_reaches 48 = .ok (.ireturn, 1) := by decide +kernel
theorem dX8_reaches_49 : decode cX8_reaches 49 = .ok (.iload_n 3, 1) := by decide +kernel
theorem dX8_reaches_50 : decode cX8_reaches 50 = .ok (.istore 5, 2) := by decide +kernel
theorem dX8_reaches_52 : decode cX8_reaches 52 = .ok (.iconst 0, 1) := by decide +kernel
theorem dX8_reaches_53 : decode cX8_reaches 53 = .ok (.istore 6, 2) := by decide +kernel
theorem dX8_reaches_55 : decode cX8_reaches 55 = .ok (.iload 6, 2) := by decide +kernel
theorem dX8_reaches_57 : decode cX8_reaches 57 = .ok (.aload_n 0, 1) := by decide +kernel
theorem dX8_reaches_58 : decode cX8_reaches 58 = .ok (.getfield 7, 3) := by decide +kernel
theorem dX8_reaches_61 : decode cX8_reaches 61 = .ok (.iconst 0, 1) := by decide +kernel
theorem dX8_reaches_62 : decode cX8_reaches 62 = .ok (.iaload, 1) := by decide +kernel
theorem dX8_reaches_63 : decode cX8_reaches 63 = .ok (.if_icmp .ge 35, 3) := by decide +kernel
theorem dX8_reaches_66 : decode cX8_reaches 66 = .ok (.iload 5, 2) := by decide +kernel
theorem dX8_reaches_68 : decode cX8_reaches 68 = .ok (.iload_n 3, 1) := by decide +kernel
theorem dX8_reaches_69 : decode cX8_reaches 69 = .ok (.iload 6, 2) := by decide +kernel
theorem dX8_reaches_71 : decode cX8_reaches 71 = .ok (.ishr, 1) := by decide +kernel
theorem dX8_reaches_72 : decode cX8_reaches 72 = .ok (.iconst 1, 1) := by decide +kernel
theorem dX8_reaches_73 : decode cX8_reaches 73 = .ok (.iand, 1) := by decide +kernel
theorem dX8_reaches_74 : decode cX8_reaches 74 = .ok (.iconst 1, 1) := by decide +kernel
theorem dX8_reaches_75 : decode cX8_reaches 75 = .ok (.if_icmp .ne 13, 3) := by decide +kernel
theorem dX8_reaches_78 : decode cX8_reaches 78 = .ok (.aload_n 0, 1) := by decide +kernel
theorem dX8_reaches_79 : decode cX8_reaches 79 = .ok (.getfield 43, 3) := by decide +kernel
theorem dX8_reaches_82 : decode cX8_reaches 82 = .ok (.iload 6, 2) := by decide +kernel
theorem dX8_reaches_84 : decode cX8_reaches 84 = .ok (.iaload, 1) := by decide +kernel
theorem dX8_reaches_85 : decode cX8_reaches 85 = .ok (.goto 4, 3) := by decide +kernel
theorem dX8_reaches_88 : decode cX8_reaches 88 = .ok (.iconst 0, 1) := by decide +kernel
theorem dX8_reaches_89 : decode cX8_reaches 89 = .ok (.ior, 1) := by decide +kernel
theorem dX8_reaches_90 : decode cX8_reaches 90 = .ok (.istore 5, 2) := by decide +kernel
theorem dX8_reaches_92 : decode cX8_reaches 92 = .ok (.iinc 6 1, 3) := by decide +kernel
theorem dX8_reaches_95 : decode cX8_reaches 95 = .ok (.goto (-40), 3) := by decide +kernel
theorem dX8_reaches_98 : decode cX8_reaches 98 = .ok (.iload 5, 2) := by decide +kernel
theorem dX8_reaches_100 : decode cX8_reaches 100 = .ok (.istore_n 3, 1) := by decide +kernel
theorem dX8_reaches_101 : decode cX8_reaches 101 = .ok (.iinc 4 1, 3) := by decide +kernel
theorem dX8_reaches_104 : decode cX8_reaches 104 = .ok (.goto (-74), 3) := by decide +kernel
theorem dX8_reaches_107 : decode cX8_reaches 107 = .ok (.ldc 70, 2) := by decide +kernel
theorem dX8_reaches_109 : decode cX8_reaches 109 = .ok (.ireturn, 1) := by decide +kernel
theorem dX8_laysBy_0 : decode cX8_laysBy 0 = .ok (.iconst 0, 1) := by decide +kernel
theorem dX8_laysBy_1 : decode cX8_laysBy 1 = .ok (.istore_n 1, 1) := by decide +kernel
theorem dX8_laysBy_2 : decode cX8_laysBy 2 = .ok (.iload_n 1, 1) := by decide +kernel
theorem dX8_laysBy_3 : decode cX8_laysBy 3 = .ok (.bipush 108, 2) := by decide +kernel
theorem dX8_laysBy_5 : decode cX8_laysBy 5 = .ok (.if_icmp .ge 21, 3) := by decide +kernel
theorem dX8_laysBy_8 : decode cX8_laysBy 8 = .ok (.aload_n 0, 1) := by decide +kernel
theorem dX8_laysBy_9 : decode cX8_laysBy 9 = .ok (.getfield 49, 3) := by decide +kernel
theorem dX8_laysBy_12 : decode cX8_laysBy 12 = .ok (.iload_n 1, 1) := by decide +kernel
theorem dX8_laysBy_13 : decode cX8_laysBy 13 = .ok (.aload_n 0, 1) := by decide +kernel
theorem dX8_laysBy_14 : decode cX8_laysBy 14 = .ok (.getfield 7, 3) := by decide +kernel
theorem dX8_laysBy_17 : decode cX8_laysBy 17 = .ok (.iload_n 1, 1) := by decide +kernel
theorem dX8_laysBy_18 : decode cX8_laysBy 18 = .ok (.iaload, 1) := by decide +kernel
theorem dX8_laysBy_19 : decode cX8_laysBy 19 = .ok (.iastore, 1) := by decide +kernel
theorem dX8_laysBy_20 : decode cX8_laysBy 20 = .ok (.iinc 1 1, 3) := by decide +kernel
theorem dX8_laysBy_23 : decode cX8_laysBy 23 = .ok (.goto (-21), 3) := by decide +kernel
theorem dX8_laysBy_26 : decode cX8_laysBy 26 = .ok (.return_, 1) := by decide +kernel
theorem dX8_laysBack_0 : decode cX8_laysBack 0 = .ok (.iconst 0, 1) := by decide +kernel
theorem dX8_laysBack_1 : decode cX8_laysBack 1 = .ok (.istore_n 1, 1) := by decide +kernel
theorem dX8_laysBack_2 : decode cX8_laysBack 2 = .ok (.iload_n 1, 1) := by decide +kernel
theorem dX8_laysBack_3 : decode cX8_laysBack 3 = .ok (.bipush 108, 2) := by decide +kernel
theorem dX8_laysBack_5 : decode cX8_laysBack 5 = .ok (.if_icmp .ge 21, 3) := by decide +kernel
theorem dX8_laysBack_8 : decode cX8_laysBack 8 = .ok (.aload_n 0, 1) := by decide +kernel
theorem dX8_laysBack_9 : decode cX8_laysBack 9 = .ok (.getfield 7, 3) := by decide +kernel
theorem dX8_laysBack_12 : decode cX8_laysBack 12 = .ok (.iload_n 1, 1) := by decide +kernel
theorem dX8_laysBack_13 : decode cX8_laysBack 13 = .ok (.aload_n 0, 1) := by decide +kernel
theorem dX8_laysBack_14 : decode cX8_laysBack 14 = .ok (.getfield 49, 3) := by decide +kernel
theorem dX8_laysBack_17 : decode cX8_laysBack 17 = .ok (.iload_n 1, 1) := by decide +kernel
theorem dX8_laysBack_18 : decode cX8_laysBack 18 = .ok (.iaload, 1) := by decide +kernel
theorem dX8_laysBack_19 : decode cX8_laysBack 19 = .ok (.iastore, 1) := by decide +kernel
theorem dX8_laysBack_20 : decode cX8_laysBack 20 = .ok (.iinc 1 1, 3) := by decide +kernel
theorem dX8_laysBack_23 : decode cX8_laysBack 23 = .ok (.goto (-21), 3) := by decide +kernel
theorem dX8_laysBack_26 : decode cX8_laysBack 26 = .ok (.return_, 1) := by decide +kernel
theorem dX8_behind_0 : decode cX8_behind 0 = .ok (.iload_n 1, 1) := by decide +kernel
theorem dX8_behind_1 : decode cX8_behind 1 = .ok (.i2l, 1) := by decide +kernel
theorem dX8_behind_2 : decode cX8_behind 2 = .ok (.lconst 0, 1) := by decide +kernel
theorem dX8_behind_3 : decode cX8_behind 3 = .ok (.ldc2_w 171, 3) := by decide +kernel
theorem dX8_behind_6 : decode cX8_behind 6 = .ok (.invokestatic 71, 3) := by decide +kernel
theorem dX8_behind_9 : decode cX8_behind 9 = .ok (.ifCond .eq 21, 3) := by decide +kernel
theorem dX8_behind_12 : decode cX8_behind 12 = .ok (.iload_n 2, 1) := by decide +kernel
theorem dX8_behind_13 : decode cX8_behind 13 = .ok (.i2l, 1) := by decide +kernel
theorem dX8_behind_14 : decode cX8_behind 14 = .ok (.lconst 0, 1) := by decide +kernel
theorem dX8_behind_15 : decode cX8_behind 15 = .ok (.iconst 2, 1) := by decide +kernel
theorem dX8_behind_16 : decode cX8_behind 16 = .ok (.aload_n 0, 1) := by decide +kernel
theorem dX8_behind_17 : decode cX8_behind 17 = .ok (.getfield 7, 3) := by decide +kernel
theorem dX8_behind_20 : decode cX8_behind 20 = .ok (.iconst 0, 1) := by decide +kernel
theorem dX8_behind_21 : decode cX8_behind 21 = .ok (.iaload, 1) := by decide +kernel
theorem dX8_behind_22 : decode cX8_behind 22 = .ok (.iadd, 1) := by decide +kernel
theorem dX8_behind_23 : decode cX8_behind 23 = .ok (.i2l, 1) := by decide +kernel
theorem dX8_behind_24 : decode cX8_behind 24 = .ok (.invokestatic 71, 3) := by decide +kernel
theorem dX8_behind_27 : decode cX8_behind 27 = .ok (.ifCond .ne 6, 3) := by decide +kernel
theorem dX8_behind_30 : decode cX8_behind 30 = .ok (.ldc 86, 2) := by decide +kernel
theorem dX8_behind_32 : decode cX8_behind 32 = .ok (.ireturn, 1) := by decide +kernel
theorem dX8_behind_33 : decode cX8_behind 33 = .ok (.aload_n 0, 1) := by decide +kernel
theorem dX8_behind_34 : decode cX8_behind 34 = .ok (.invokevirtual 185, 3) := by decide +kernel
theorem dX8_behind_37 : decode cX8_behind 37 = .ok (.aload_n 0, 1) := by decide +kernel
theorem dX8_behind_38 : decode cX8_behind 38 = .ok (.iload_n 1, 1) := by decide +kernel
theorem dX8_behind_39 : decode cX8_behind 39 = .ok (.invokevirtual 188, 3) := by decide +kernel
theorem dX8_behind_42 : decode cX8_behind 42 = .ok (.iload_n 2, 1) := by decide +kernel
theorem dX8_behind_43 : decode cX8_behind 43 = .ok (.ifCond .ne 12, 3) := by decide +kernel
theorem dX8_behind_46 : decode cX8_behind 46 = .ok (.aload_n 0, 1) := by decide +kernel
theorem dX8_behind_47 : decode cX8_behind 47 = .ok (.getfield 7, 3) := by decide +kernel
theorem dX8_behind_50 : decode cX8_behind 50 = .ok (.iconst 3, 1) := by decide +kernel
theorem dX8_behind_51 : decode cX8_behind 51 = .ok (.iaload, 1) := by decide +kernel
theorem dX8_behind_52 : decode cX8_behind 52 = .ok (.goto 39, 3) := by decide +kernel
theorem dX8_behind_55 : decode cX8_behind 55 = .ok (.iload_n 2, 1) := by decide +kernel
theorem dX8_behind_56 : decode cX8_behind 56 = .ok (.iconst 1, 1) := by decide +kernel
theorem dX8_behind_57 : decode cX8_behind 57 = .ok (.if_icmp .ne 12, 3) := by decide +kernel
theorem dX8_behind_60 : decode cX8_behind 60 = .ok (.aload_n 0, 1) := by decide +kernel
theorem dX8_behind_61 : decode cX8_behind 61 = .ok (.getfield 7, 3) := by decide +kernel
theorem dX8_behind_64 : decode cX8_behind 64 = .ok (.iconst 4, 1) := by decide +kernel
theorem dX8_behind_65 : decode cX8_behind 65 = .ok (.iaload, 1) := by decide +kernel
theorem dX8_behind_66 : decode cX8_behind 66 = .ok (.goto 25, 3) := by decide +kernel
theorem dX8_behind_69 : decode cX8_behind 69 = .ok (.iload_n 2, 1) := by decide +kernel
theorem dX8_behind_70 : decode cX8_behind 70 = .ok (.iconst 2, 1) := by decide +kernel
theorem dX8_behind_71 : decode cX8_behind 71 = .ok (.if_icmp .ne 12, 3) := by decide +kernel
theorem dX8_behind_74 : decode cX8_behind 74 = .ok (.aload_n 0, 1) := by decide +kernel
theorem dX8_behind_75 : decode cX8_behind 75 = .ok (.getfield 7, 3) := by decide +kernel
theorem dX8_behind_78 : decode cX8_behind 78 = .ok (.iconst 5, 1) := by decide +kernel
theorem dX8_behind_79 : decode cX8_behind 79 = .ok (.iaload, 1) := by decide +kernel
theorem dX8_behind_80 : decode cX8_behind 80 = .ok (.goto 11, 3) := by decide +kernel
theorem dX8_behind_83 : decode cX8_behind 83 = .ok (.aload_n 0, 1) := by decide +kernel
theorem dX8_behind_84 : decode cX8_behind 84 = .ok (.iload_n 2, 1) := by decide +kernel
theorem dX8_behind_85 : decode cX8_behind 85 = .ok (.iconst 3, 1) := by decide +kernel
theorem dX8_behind_86 : decode cX8_behind 86 = .ok (.isub, 1) := by decide +kernel
theorem dX8_behind_87 : decode cX8_behind 87 = .ok (.iconst 3, 1) := by decide +kernel
theorem dX8_behind_88 : decode cX8_behind 88 = .ok (.invokevirtual 98, 3) := by decide +kernel
theorem dX8_behind_91 : decode cX8_behind 91 = .ok (.istore_n 3, 1) := by decide +kernel
theorem dX8_behind_92 : decode cX8_behind 92 = .ok (.aload_n 0, 1) := by decide +kernel
theorem dX8_behind_93 : decode cX8_behind 93 = .ok (.invokevirtual 191, 3) := by decide +kernel
theorem dX8_behind_96 : decode cX8_behind 96 = .ok (.iload_n 3, 1) := by decide +kernel
theorem dX8_behind_97 : decode cX8_behind 97 = .ok (.ireturn, 1) := by decide +kernel
theorem dX8_free_0 : decode cX8_free 0 = .ok (.aload_n 0, 1) := by decide +kernel
theorem dX8_free_1 : decode cX8_free 1 = .ok (.invokevirtual 185, 3) := by decide +kernel
theorem dX8_free_4 : decode cX8_free 4 = .ok (.iconst (-1), 1) := by decide +kernel
theorem dX8_free_5 : decode cX8_free 5 = .ok (.istore_n 1, 1) := by decide +kernel
theorem dX8_free_6 : decode cX8_free 6 = .ok (.iconst 0, 1) := by decide +kernel
theorem dX8_free_7 : decode cX8_free 7 = .ok (.istore_n 2, 1) := by decide +kernel
theorem dX8_free_8 : decode cX8_free 8 = .ok (.iload_n 2, 1) := by decide +kernel
theorem dX8_free_9 : decode cX8_free 9 = .ok (.sipush 300, 3) := by decide +kernel
theorem dX8_free_12 : decode cX8_free 12 = .ok (.if_icmp .gt 32, 3) := by decide +kernel
theorem dX8_free_15 : decode cX8_free 15 = .ok (.iload_n 1, 1) := by decide +kernel
theorem dX8_free_16 : decode cX8_free 16 = .ok (.ifCond .ge 28, 3) := by decide +kernel
theorem dX8_free_19 : decode cX8_free 19 = .ok (.aload_n 0, 1) := by decide +kernel
theorem dX8_free_20 : decode cX8_free 20 = .ok (.getfield 7, 3) := by decide +kernel
theorem dX8_free_23 : decode cX8_free 23 = .ok (.iconst 3, 1) := by decide +kernel
theorem dX8_free_24 : decode cX8_free 24 = .ok (.iaload, 1) := by decide +kernel
theorem dX8_free_25 : decode cX8_free 25 = .ok (.ifCond .ne 7, 3) := by decide +kernel
theorem dX8_free_28 : decode cX8_free 28 = .ok (.iload_n 2, 1) := by decide +kernel
theorem dX8_free_29 : decode cX8_free 29 = .ok (.goto 4, 3) := by decide +kernel
theorem dX8_free_32 : decode cX8_free 32 = .ok (.iconst (-1), 1) := by decide +kernel
theorem dX8_free_33 : decode cX8_free 33 = .ok (.istore_n 1, 1) := by decide +kernel
theorem dX8_free_34 : decode cX8_free 34 = .ok (.aload_n 0, 1) := by decide +kernel
theorem dX8_free_35 : decode cX8_free 35 = .ok (.invokevirtual 168, 3) := by decide +kernel
theorem dX8_free_38 : decode cX8_free 38 = .ok (.iinc 2 1, 3) := by decide +kernel
theorem dX8_free_41 : decode cX8_free 41 = .ok (.goto (-33), 3) := by decide +kernel
theorem dX8_free_44 : decode cX8_free 44 = .ok (.aload_n 0, 1) := by decide +kernel
theorem dX8_free_45 : decode cX8_free 45 = .ok (.invokevirtual 191, 3) := by decide +kernel
theorem dX8_free_48 : decode cX8_free 48 = .ok (.iload_n 1, 1) := by decide +kernel
theorem dX8_free_49 : decode cX8_free 49 = .ok (.invokestatic 194, 3) := by decide +kernel
theorem dX8_free_52 : decode cX8_free 52 = .ok (.ireturn, 1) := by decide +kernel
theorem dX8_sworn_0 : decode cX8_sworn 0 = .ok (.iload_n 1, 1) := by decide +kernel
theorem dX8_sworn_1 : decode cX8_sworn 1 = .ok (.i2l, 1) := by decide +kernel
theorem dX8_sworn_2 : decode cX8_sworn 2 = .ok (.lconst 1, 1) := by decide +kernel
theorem dX8_sworn_3 : decode cX8_sworn 3 = .ok (.ldc2_w 197, 3) := by decide +kernel
theorem dX8_sworn_6 : decode cX8_sworn 6 = .ok (.invokestatic 71, 3) := by decide +kernel
theorem dX8_sworn_9 : decode cX8_sworn 9 = .ok (.ifCond .eq 13, 3) := by decide +kernel
theorem dX8_sworn_12 : decode cX8_sworn 12 = .ok (.iload_n 2, 1) := by decide +kernel
theorem dX8_sworn_13 : decode cX8_sworn 13 = .ok (.i2l, 1) := by decide +kernel
theorem dX8_sworn_14 : decode cX8_sworn 14 = .ok (.lconst 0, 1) := by decide +kernel
theorem dX8_sworn_15 : decode cX8_sworn 15 = .ok (.lconst 1, 1) := by decide +kernel
theorem dX8_sworn_16 : decode cX8_sworn 16 = .ok (.invokestatic 71, 3) := by decide +kernel
theorem dX8_sworn_19 : decode cX8_sworn 19 = .ok (.ifCond .ne 6, 3) := by decide +kernel
theorem dX8_sworn_22 : decode cX8_sworn 22 = .ok (.ldc 86, 2) := by decide +kernel
theorem dX8_sworn_24 : decode cX8_sworn 24 = .ok (.ireturn, 1) := by decide +kernel
theorem dX8_sworn_25 : decode cX8_sworn 25 = .ok (.aload_n 0, 1) := by decide +kernel
theorem dX8_sworn_26 : decode cX8_sworn 26 = .ok (.invokevirtual 185, 3) := by decide +kernel
theorem dX8_sworn_29 : decode cX8_sworn 29 = .ok (.iconst (-1), 1) := by decide +kernel
theorem dX8_sworn_30 : decode cX8_sworn 30 = .ok (.istore_n 3, 1) := by decide +kernel
theorem dX8_sworn_31 : decode cX8_sworn 31 = .ok (.iconst (-1), 1) := by decide +kernel
theorem dX8_sworn_32 : decode cX8_sworn 32 = .ok (.istore 4, 2) := by decide +kernel
theorem dX8_sworn_34 : decode cX8_sworn 34 = .ok (.iconst 0, 1) := by decide +kernel
theorem dX8_sworn_35 : decode cX8_sworn 35 = .ok (.istore 5, 2) := by decide +kernel
theorem dX8_sworn_37 : decode cX8_sworn 37 = .ok (.iload 5, 2) := by decide +kernel
theorem dX8_sworn_39 : decode cX8_sworn 39 = .ok (.aload_n 0, 1) := by decide +kernel
theorem dX8_sworn_40 : decode cX8_sworn 40 = .ok (.getfield 7, 3) := by decide +kernel
theorem dX8_sworn_43 : decode cX8_sworn 43 = .ok (.iconst 0, 1) := by decide +kernel
theorem dX8_sworn_44 : decode cX8_sworn 44 = .ok (.iaload, 1) := by decide +kernel
theorem dX8_sworn_45 : decode cX8_sworn 45 = .ok (.if_icmp .ge 98, 3) := by decide +kernel
theorem dX8_sworn_48 : decode cX8_sworn 48 = .ok (.iconst 0, 1) := by decide +kernel
theorem dX8_sworn_49 : decode cX8_sworn 49 = .ok (.istore 6, 2) := by decide +kernel
theorem dX8_sworn_51 : decode cX8_sworn 51 = .ok (.iload 6, 2) := by decide +kernel
theorem dX8_sworn_53 : decode cX8_sworn 53 = .ok (.aload_n 0, 1) := by decide +kernel
theorem dX8_sworn_54 : decode cX8_sworn 54 = .ok (.getfield 7, 3) := by decide +kernel
theorem dX8_sworn_57 : decode cX8_sworn 57 = .ok (.iconst 0, 1) := by decide +kernel
theorem dX8_sworn_58 : decode cX8_sworn 58 = .ok (.iaload, 1) := by decide +kernel
theorem dX8_sworn_59 : decode cX8_sworn 59 = .ok (.if_icmp .ge 78, 3) := by decide +kernel
theorem dX8_sworn_62 : decode cX8_sworn 62 = .ok (.iload 5, 2) := by decide +kernel
theorem dX8_sworn_64 : decode cX8_sworn 64 = .ok (.iload 6, 2) := by decide +kernel
theorem dX8_sworn_66 : decode cX8_sworn 66 = .ok (.if_icmp .eq 65, 3) := by decide +kernel
theorem dX8_sworn_69 : decode cX8_sworn 69 = .ok (.aload_n 0, 1) := by decide +kernel
theorem dX8_sworn_70 : decode cX8_sworn 70 = .ok (.iload 5, 2) := by decide +kernel
theorem dX8_sworn_72 : decode cX8_sworn 72 = .ok (.iload 6, 2) := by decide +kernel
theorem dX8_sworn_74 : decode cX8_sworn 74 = .ok (.iconst 0, 1) := by decide +kernel
theorem dX8_sworn_75 : decode cX8_sworn 75 = .ok (.invokevirtual 149, 3) := by decide +kernel
theorem dX8_sworn_78 : decode cX8_sworn 78 = .ok (.aload_n 0, 1) := by decide +kernel
theorem dX8_sworn_79 : decode cX8_sworn 79 = .ok (.iload_n 1, 1) := by decide +kernel
theorem dX8_sworn_80 : decode cX8_sworn 80 = .ok (.invokevirtual 188, 3) := by decide +kernel
theorem dX8_sworn_83 : decode cX8_sworn 83 = .ok (.aload_n 0, 1) := by decide +kernel
theorem dX8_sworn_84 : decode cX8_sworn 84 = .ok (.getfield 7, 3) := by decide +kernel
theorem dX8_sworn_87 : decode cX8_sworn 87 = .ok (.iconst 3, 1) := by decide +kernel
theorem dX8_sworn_88 : decode cX8_sworn 88 = .ok (.iaload, 1) := by decide +kernel
theorem dX8_sworn_89 : decode cX8_sworn 89 = .ok (.istore 7, 2) := by decide +kernel
theorem dX8_sworn_91 : decode cX8_sworn 91 = .ok (.aload_n 0, 1) := by decide +kernel
theorem dX8_sworn_92 : decode cX8_sworn 92 = .ok (.invokevirtual 191, 3) := by decide +kernel
theorem dX8_sworn_95 : decode cX8_sworn 95 = .ok (.iload 7, 2) := by decide +kernel
theorem dX8_sworn_97 : decode cX8_sworn 97 = .ok (.iload 4, 2) := by decide +kernel
theorem dX8_sworn_99 : decode cX8_sworn 99 = .ok (.if_icmp .le 14, 3) := by decide +kernel
theorem dX8_sworn_102 : decode cX8_sworn 102 = .ok (.bipush 10, 2) := by decide +kernel
theorem dX8_sworn_104 : decode cX8_sworn 104 = .ok (.iload 5, 2) := by decide +kernel
theorem dX8_sworn_106 : decode cX8_sworn 106 = .ok (.imul, 1) := by decide +kernel
theorem dX8_sworn_107 : decode cX8_sworn 107 = .ok (.iload 6, 2) := by decide +kernel
theorem dX8_sworn_109 : decode cX8_sworn 109 = .ok (.iadd, 1) := by decide +kernel
theorem dX8_sworn_110 : decode cX8_sworn 110 = .ok (.goto 4, 3) := by decide +kernel
theorem dX8_sworn_113 : decode cX8_sworn 113 = .ok (.iload_n 3, 1) := by decide +kernel
theorem dX8_sworn_114 : decode cX8_sworn 114 = .ok (.istore_n 3, 1) := by decide +kernel
theorem dX8_sworn_115 : decode cX8_sworn 115 = .ok (.iload 7, 2) := by decide +kernel
theorem dX8_sworn_117 : decode cX8_sworn 117 = .ok (.iload 4, 2) := by decide +kernel
theorem dX8_sworn_119 : decode cX8_sworn 119 = .ok (.if_icmp .le 8, 3) := by decide +kernel
theorem dX8_sworn_122 : decode cX8_sworn 122 = .ok (.iload 7, 2) := by decide +kernel
theorem dX8_sworn_124 : decode cX8_sworn 124 = .ok (.goto 5, 3) := by decide +kernel
theorem dX8_sworn_127 : decode cX8_sworn 127 = .ok (.iload 4, 2) := by decide +kernel
theorem dX8_sworn_129 : decode cX8_sworn 129 = .ok (.istore 4, 2) := by decide +kernel
theorem dX8_sworn_131 : decode cX8_sworn 131 = .ok (.iinc 6 1, 3) := by decide +kernel
theorem dX8_sworn_134 : decode cX8_sworn 134 = .ok (.goto (-83), 3) := by decide +kernel
theorem dX8_sworn_137 : decode cX8_sworn 137 = .ok (.iinc 5 1, 3) := by decide +kernel
theorem dX8_sworn_140 : decode cX8_sworn 140 = .ok (.goto (-103), 3) := by decide +kernel
theorem dX8_sworn_143 : decode cX8_sworn 143 = .ok (.iload_n 3, 1) := by decide +kernel
theorem dX8_sworn_144 : decode cX8_sworn 144 = .ok (.ifCond .ge 8, 3) := by decide +kernel
theorem dX8_sworn_147 : decode cX8_sworn 147 = .ok (.ldc 70, 2) := by decide +kernel
theorem dX8_sworn_149 : decode cX8_sworn 149 = .ok (.goto 13, 3) := by decide +kernel
theorem dX8_sworn_152 : decode cX8_sworn 152 = .ok (.iload_n 2, 1) := by decide +kernel
theorem dX8_sworn_153 : decode cX8_sworn 153 = .ok (.ifCond .ne 7, 3) := by decide +kernel
theorem dX8_sworn_156 : decode cX8_sworn 156 = .ok (.iload_n 3, 1) := by decide +kernel
theorem dX8_sworn_157 : decode cX8_sworn 157 = .ok (.goto 5, 3) := by decide +kernel
theorem dX8_sworn_160 : decode cX8_sworn 160 = .ok (.iload 4, 2) := by decide +kernel
theorem dX8_sworn_162 : decode cX8_sworn 162 = .ok (.ireturn, 1) := by decide +kernel
theorem dX8_trust_0 : decode cX8_trust 0 = .ok (.iload_n 1, 1) := by decide +kernel
theorem dX8_trust_1 : decode cX8_trust 1 = .ok (.i2l, 1) := by decide +kernel
theorem dX8_trust_2 : decode cX8_trust 2 = .ok (.lconst 1, 1) := by decide +kernel
theorem dX8_trust_3 : decode cX8_trust 3 = .ok (.ldc2_w 199, 3) := by decide +kernel
theorem dX8_trust_6 : decode cX8_trust 6 = .ok (.invokestatic 71, 3) := by decide +kernel
theorem dX8_trust_9 : decode cX8_trust 9 = .ok (.ifCond .eq 13, 3) := by decide +kernel
theorem dX8_trust_12 : decode cX8_trust 12 = .ok (.iload_n 2, 1) := by decide +kernel
theorem dX8_trust_13 : decode cX8_trust 13 = .ok (.i2l, 1) := by decide +kernel
theorem dX8_trust_14 : decode cX8_trust 14 = .ok (.lconst 0, 1) := by decide +kernel
theorem dX8_trust_15 : decode cX8_trust 15 = .ok (.lconst 1, 1) := by decide +kernel
theorem dX8_trust_16 : decode cX8_trust 16 = .ok (.invokestatic 71, 3) := by decide +kernel
theorem dX8_trust_19 : decode cX8_trust 19 = .ok (.ifCond .ne 6, 3) := by decide +kernel
theorem dX8_trust_22 : decode cX8_trust 22 = .ok (.ldc 86, 2) := by decide +kernel
theorem dX8_trust_24 : decode cX8_trust 24 = .ok (.ireturn, 1) := by decide +kernel
theorem dX8_trust_25 : decode cX8_trust 25 = .ok (.aload_n 0, 1) := by decide +kernel
theorem dX8_trust_26 : decode cX8_trust 26 = .ok (.invokevirtual 185, 3) := by decide +kernel
theorem dX8_trust_29 : decode cX8_trust 29 = .ok (.iconst (-1), 1) := by decide +kernel
theorem dX8_trust_30 : decode cX8_trust 30 = .ok (.istore_n 3, 1) := by decide +kernel
theorem dX8_trust_31 : decode cX8_trust 31 = .ok (.iconst (-1), 1) := by decide +kernel
theorem dX8_trust_32 : decode cX8_trust 32 = .ok (.istore 4, 2) := by decide +kernel
theorem dX8_trust_34 : decode cX8_trust 34 = .ok (.iconst 0, 1) := by decide +kernel
theorem dX8_trust_35 : decode cX8_trust 35 = .ok (.istore 5, 2) := by decide +kernel
theorem dX8_trust_37 : decode cX8_trust 37 = .ok (.iload 5, 2) := by decide +kernel
theorem dX8_trust_39 : decode cX8_trust 39 = .ok (.aload_n 0, 1) := by decide +kernel
theorem dX8_trust_40 : decode cX8_trust 40 = .ok (.getfield 7, 3) := by decide +kernel
theorem dX8_trust_43 : decode cX8_trust 43 = .ok (.iconst 0, 1) := by decide +kernel
theorem dX8_trust_44 : decode cX8_trust 44 = .ok (.iaload, 1) := by decide +kernel
theorem dX8_trust_45 : decode cX8_trust 45 = .ok (.if_icmp .ge 65, 3) := by decide +kernel
theorem dX8_trust_48 : decode cX8_trust 48 = .ok (.aload_n 0, 1) := by decide +kernel
theorem dX8_trust_49 : decode cX8_trust 49 = .ok (.iload 5, 2) := by decide +kernel
theorem dX8_trust_51 : decode cX8_trust 51 = .ok (.iconst 2, 1) := by decide +kernel
theorem dX8_trust_52 : decode cX8_trust 52 = .ok (.bipush 99, 2) := by decide +kernel
theorem dX8_trust_54 : decode cX8_trust 54 = .ok (.invokevirtual 76, 3) := by decide +kernel
theorem dX8_trust_57 : decode cX8_trust 57 = .ok (.aload_n 0, 1) := by decide +kernel
theorem dX8_trust_58 : decode cX8_trust 58 = .ok (.iload_n 1, 1) := by decide +kernel
theorem dX8_trust_59 : decode cX8_trust 59 = .ok (.invokevirtual 188, 3) := by decide +kernel
theorem dX8_trust_62 : decode cX8_trust 62 = .ok (.aload_n 0, 1) := by decide +kernel
theorem dX8_trust_63 : decode cX8_trust 63 = .ok (.getfield 7, 3) := by decide +kernel
theorem dX8_trust_66 : decode cX8_trust 66 = .ok (.iconst 3, 1) := by decide +kernel
theorem dX8_trust_67 : decode cX8_trust 67 = .ok (.iaload, 1) := by decide +kernel
theorem dX8_trust_68 : decode cX8_trust 68 = .ok (.istore 6, 2) := by decide +kernel
theorem dX8_trust_70 : decode cX8_trust 70 = .ok (.aload_n 0, 1) := by decide +kernel
theorem dX8_trust_71 : decode cX8_trust 71 = .ok (.invokevirtual 191, 3) := by decide +kernel
theorem dX8_trust_74 : decode cX8_trust 74 = .ok (.iload 6, 2) := by decide +kernel
theorem dX8_trust_76 : decode cX8_trust 76 = .ok (.iload 4, 2) := by decide +kernel
theorem dX8_trust_78 : decode cX8_trust 78 = .ok (.if_icmp .le 8, 3) := by decide +kernel
theorem dX8_trust_81 : decode cX8_trust 81 = .ok (.iload 5, 2) := by decide +kernel
theorem dX8_trust_83 : decode cX8_trust 83 = .ok (.goto 4, 3) := by decide +kernel
theorem dX8_trust_86 : decode cX8_trust 86 = .ok (.iload_n 3, 1) := by decide +kernel
theorem dX8_trust_87 : decode cX8_trust 87 = .ok (.istore_n 3, 1) := by decide +kernel
theorem dX8_trust_88 : decode cX8_trust 88 = .ok (.iload 6, 2) := by decide +kernel
theorem dX8_trust_90 : decode cX8_trust 90 = .ok (.iload 4, 2) := by decide +kernel
theorem dX8_trust_92 : decode cX8_trust 92 = .ok (.if_icmp .le 8, 3) := by decide +kernel
theorem dX8_trust_95 : decode cX8_trust 95 = .ok (.iload 6, 2) := by decide +kernel
theorem dX8_trust_97 : decode cX8_trust 97 = .ok (.goto 5, 3) := by decide +kernel
theorem dX8_trust_100 : decode cX8_trust 100 = .ok (.iload 4, 2) := by decide +kernel
theorem dX8_trust_102 : decode cX8_trust 102 = .ok (.istore 4, 2) := by decide +kernel
theorem dX8_trust_104 : decode cX8_trust 104 = .ok (.iinc 5 1, 3) := by decide +kernel
theorem dX8_trust_107 : decode cX8_trust 107 = .ok (.goto (-70), 3) := by decide +kernel
theorem dX8_trust_110 : decode cX8_trust 110 = .ok (.iload_n 3, 1) := by decide +kernel
theorem dX8_trust_111 : decode cX8_trust 111 = .ok (.ifCond .ge 8, 3) := by decide +kernel
theorem dX8_trust_114 : decode cX8_trust 114 = .ok (.ldc 70, 2) := by decide +kernel
theorem dX8_trust_116 : decode cX8_trust 116 = .ok (.goto 13, 3) := by decide +kernel
theorem dX8_trust_119 : decode cX8_trust 119 = .ok (.iload_n 2, 1) := by decide +kernel
theorem dX8_trust_120 : decode cX8_trust 120 = .ok (.ifCond .ne 7, 3) := by decide +kernel
theorem dX8_trust_123 : decode cX8_trust 123 = .ok (.iload_n 3, 1) := by decide +kernel
theorem dX8_trust_124 : decode cX8_trust 124 = .ok (.goto 5, 3) := by decide +kernel
theorem dX8_trust_127 : decode cX8_trust 127 = .ok (.iload 4, 2) := by decide +kernel
theorem dX8_trust_129 : decode cX8_trust 129 = .ok (.ireturn, 1) := by decide +kernel
theorem dX8_debtor_0 : decode cX8_debtor 0 = .ok (.iload_n 1, 1) := by decide +kernel
theorem dX8_debtor_1 : decode cX8_debtor 1 = .ok (.i2l, 1) := by decide +kernel
theorem dX8_debtor_2 : decode cX8_debtor 2 = .ok (.lconst 1, 1) := by decide +kernel
theorem dX8_debtor_3 : decode cX8_debtor 3 = .ok (.ldc2_w 199, 3) := by decide +kernel
theorem dX8_debtor_6 : decode cX8_debtor 6 = .ok (.invokestatic 71, 3) := by decide +kernel
theorem dX8_debtor_9 : decode cX8_debtor 9 = .ok (.ifCond .eq 13, 3) := by decide +kernel
theorem dX8_debtor_12 : decode cX8_debtor 12 = .ok (.iload_n 2, 1) := by decide +kernel
theorem dX8_debtor_13 : decode cX8_debtor 13 = .ok (.i2l, 1) := by decide +kernel
theorem dX8_debtor_14 : decode cX8_debtor 14 = .ok (.lconst 0, 1) := by decide +kernel
theorem dX8_debtor_15 : decode cX8_debtor 15 = .ok (.lconst 1, 1) := by decide +kernel
theorem dX8_debtor_16 : decode cX8_debtor 16 = .ok (.invokestatic 71, 3) := by decide +kernel
theorem dX8_debtor_19 : decode cX8_debtor 19 = .ok (.ifCond .ne 6, 3) := by decide +kernel
theorem dX8_debtor_22 : decode cX8_debtor 22 = .ok (.ldc 86, 2) := by decide +kernel
theorem dX8_debtor_24 : decode cX8_debtor 24 = .ok (.ireturn, 1) := by decide +kernel
theorem dX8_debtor_25 : decode cX8_debtor 25 = .ok (.aload_n 0, 1) := by decide +kernel
theorem dX8_debtor_26 : decode cX8_debtor 26 = .ok (.invokevirtual 185, 3) := by decide +kernel
theorem dX8_debtor_29 : decode cX8_debtor 29 = .ok (.aload_n 0, 1) := by decide +kernel
theorem dX8_debtor_30 : decode cX8_debtor 30 = .ok (.iload_n 1, 1) := by decide +kernel
theorem dX8_debtor_31 : decode cX8_debtor 31 = .ok (.invokevirtual 188, 3) := by decide +kernel
theorem dX8_debtor_34 : decode cX8_debtor 34 = .ok (.iconst (-1), 1) := by decide +kernel
theorem dX8_debtor_35 : decode cX8_debtor 35 = .ok (.istore_n 3, 1) := by decide +kernel
theorem dX8_debtor_36 : decode cX8_debtor 36 = .ok (.iconst 0, 1) := by decide +kernel
theorem dX8_debtor_37 : decode cX8_debtor 37 = .ok (.istore 4, 2) := by decide +kernel
theorem dX8_debtor_39 : decode cX8_debtor 39 = .ok (.iconst 0, 1) := by decide +kernel
theorem dX8_debtor_40 : decode cX8_debtor 40 = .ok (.istore 5, 2) := by decide +kernel
theorem dX8_debtor_42 : decode cX8_debtor 42 = .ok (.iload 5, 2) := by decide +kernel
theorem dX8_debtor_44 : decode cX8_debtor 44 = .ok (.aload_n 0, 1) := by decide +kernel
theorem dX8_debtor_45 : decode cX8_debtor 45 = .ok (.getfield 7, 3) := by decide +kernel
theorem dX8_debtor_48 : decode cX8_debtor 48 = .ok (.iconst 0, 1) := by decide +kernel
theorem dX8_debtor_49 : decode cX8_debtor 49 = .ok (.iaload, 1) := by decide +kernel
theorem dX8_debtor_50 : decode cX8_debtor 50 = .ok (.if_icmp .ge 51, 3) := by decide +kernel
theorem dX8_debtor_53 : decode cX8_debtor 53 = .ok (.aload_n 0, 1) := by decide +kernel
theorem dX8_debtor_54 : decode cX8_debtor 54 = .ok (.getfield 49, 3) := by decide +kernel
theorem dX8_debtor_57 : decode cX8_debtor 57 = .ok (.bipush 7, 2) := by decide +kernel
theorem dX8_debtor_59 : decode cX8_debtor 59 = .ok (.iconst 5, 1) := by decide +kernel
theorem dX8_debtor_60 : decode cX8_debtor 60 = .ok (.iload 5, 2) := by decide +kernel
theorem dX8_debtor_62 : decode cX8_debtor 62 = .ok (.imul, 1) := by decide +kernel
theorem dX8_debtor_63 : decode cX8_debtor 63 = .ok (.iadd, 1) := by decide +kernel
theorem dX8_debtor_64 : decode cX8_debtor 64 = .ok (.iconst 3, 1) := by decide +kernel
theorem dX8_debtor_65 : decode cX8_debtor 65 = .ok (.iadd, 1) := by decide +kernel
theorem dX8_debtor_66 : decode cX8_debtor 66 = .ok (.iaload, 1) := by decide +kernel
theorem dX8_debtor_67 : decode cX8_debtor 67 = .ok (.aload_n 0, 1) := by decide +kernel
theorem dX8_debtor_68 : decode cX8_debtor 68 = .ok (.iload 5, 2) := by decide +kernel
theorem dX8_debtor_70 : decode cX8_debtor 70 = .ok (.iconst 3, 1) := by decide +kernel
theorem dX8_debtor_71 : decode cX8_debtor 71 = .ok (.invokevirtual 98, 3) := by decide +kernel
theorem dX8_debtor_74 : decode cX8_debtor 74 = .ok (.isub, 1) := by decide +kernel
theorem dX8_debtor_75 : decode cX8_debtor 75 = .ok (.istore 6, 2) := by decide +kernel
theorem dX8_debtor_77 : decode cX8_debtor 77 = .ok (.iload_n 3, 1) := by decide +kernel
theorem dX8_debtor_78 : decode cX8_debtor 78 = .ok (.ifCond .lt 10, 3) := by decide +kernel
theorem dX8_debtor_81 : decode cX8_debtor 81 = .ok (.iload 6, 2) := by decide +kernel
theorem dX8_debtor_83 : decode cX8_debtor 83 = .ok (.iload 4, 2) := by decide +kernel
theorem dX8_debtor_85 : decode cX8_debtor 85 = .ok (.if_icmp .le 10, 3) := by decide +kernel
theorem dX8_debtor_88 : decode cX8_debtor 88 = .ok (.iload 5, 2) := by decide +kernel
theorem dX8_debtor_90 : decode cX8_debtor 90 = .ok (.istore_n 3, 1) := by decide +kernel
theorem dX8_debtor_91 : decode cX8_debtor 91 = .ok (.iload 6, 2) := by decide +kernel
theorem dX8_debtor_93 : decode cX8_debtor 93 = .ok (.istore 4, 2) := by decide +kernel
theorem dX8_debtor_95 : decode cX8_debtor 95 = .ok (.iinc 5 1, 3) := by decide +kernel
theorem dX8_debtor_98 : decode cX8_debtor 98 = .ok (.goto (-56), 3) := by decide +kernel
theorem dX8_debtor_101 : decode cX8_debtor 101 = .ok (.aload_n 0, 1) := by decide +kernel
theorem dX8_debtor_102 : decode cX8_debtor 102 = .ok (.invokevirtual 191, 3) := by decide +kernel
theorem dX8_debtor_105 : decode cX8_debtor 105 = .ok (.iload_n 3, 1) := by decide +kernel
theorem dX8_debtor_106 : decode cX8_debtor 106 = .ok (.ifCond .ge 8, 3) := by decide +kernel
theorem dX8_debtor_109 : decode cX8_debtor 109 = .ok (.ldc 70, 2) := by decide +kernel
theorem dX8_debtor_111 : decode cX8_debtor 111 = .ok (.goto 13, 3) := by decide +kernel
theorem dX8_debtor_114 : decode cX8_debtor 114 = .ok (.iload_n 2, 1) := by decide +kernel
theorem dX8_debtor_115 : decode cX8_debtor 115 = .ok (.ifCond .ne 7, 3) := by decide +kernel
theorem dX8_debtor_118 : decode cX8_debtor 118 = .ok (.iload_n 3, 1) := by decide +kernel
theorem dX8_debtor_119 : decode cX8_debtor 119 = .ok (.goto 5, 3) := by decide +kernel
theorem dX8_debtor_122 : decode cX8_debtor 122 = .ok (.iload 4, 2) := by decide +kernel
theorem dX8_debtor_124 : decode cX8_debtor 124 = .ok (.ireturn, 1) := by decide +kernel
theorem dX8_fee_0 : decode cX8_fee 0 = .ok (.aload_n 0, 1) := by decide +kernel
theorem dX8_fee_1 : decode cX8_fee 1 = .ok (.iconst 1, 1) := by decide +kernel
theorem dX8_fee_2 : decode cX8_fee 2 = .ok (.invokevirtual 101, 3) := by decide +kernel
theorem dX8_fee_5 : decode cX8_fee 5 = .ok (.istore_n 1, 1) := by decide +kernel
theorem dX8_fee_6 : decode cX8_fee 6 = .ok (.iload_n 1, 1) := by decide +kernel
theorem dX8_fee_7 : decode cX8_fee 7 = .ok (.ifCond .ge 10, 3) := by decide +kernel
theorem dX8_fee_10 : decode cX8_fee 10 = .ok (.aload_n 0, 1) := by decide +kernel
theorem dX8_fee_11 : decode cX8_fee 11 = .ok (.getfield 7, 3) := by decide +kernel
theorem dX8_fee_14 : decode cX8_fee 14 = .ok (.iconst 5, 1) := by decide +kernel
theorem dX8_fee_15 : decode cX8_fee 15 = .ok (.iaload, 1) := by decide +kernel
theorem dX8_fee_16 : decode cX8_fee 16 = .ok (.ireturn, 1) := by decide +kernel
theorem dX8_fee_17 : decode cX8_fee 17 = .ok (.aload_n 0, 1) := by decide +kernel
theorem dX8_fee_18 : decode cX8_fee 18 = .ok (.getfield 55, 3) := by decide +kernel
theorem dX8_fee_21 : decode cX8_fee 21 = .ok (.bipush 107, 2) := by decide +kernel
theorem dX8_fee_23 : decode cX8_fee 23 = .ok (.aload_n 0, 1) := by decide +kernel
theorem dX8_fee_24 : decode cX8_fee 24 = .ok (.getfield 7, 3) := by decide +kernel
theorem dX8_fee_27 : decode cX8_fee 27 = .ok (.iconst 4, 1) := by decide +kernel
theorem dX8_fee_28 : decode cX8_fee 28 = .ok (.iaload, 1) := by decide +kernel
theorem dX8_fee_29 : decode cX8_fee 29 = .ok (.iastore, 1) := by decide +kernel
theorem dX8_fee_30 : decode cX8_fee 30 = .ok (.aload_n 0, 1) := by decide +kernel
theorem dX8_fee_31 : decode cX8_fee 31 = .ok (.getfield 55, 3) := by decide +kernel
theorem dX8_fee_34 : decode cX8_fee 34 = .ok (.bipush 108, 2) := by decide +kernel
theorem dX8_fee_36 : decode cX8_fee 36 = .ok (.aload_n 0, 1) := by decide +kernel
theorem dX8_fee_37 : decode cX8_fee 37 = .ok (.getfield 7, 3) := by decide +kernel
theorem dX8_fee_40 : decode cX8_fee 40 = .ok (.iconst 5, 1) := by decide +kernel
theorem dX8_fee_41 : decode cX8_fee 41 = .ok (.iaload, 1) := by decide +kernel
theorem dX8_fee_42 : decode cX8_fee 42 = .ok (.iastore, 1) := by decide +kernel
theorem dX8_fee_43 : decode cX8_fee 43 = .ok (.aload_n 0, 1) := by decide +kernel
theorem dX8_fee_44 : decode cX8_fee 44 = .ok (.iload_n 1, 1) := by decide +kernel
theorem dX8_fee_45 : decode cX8_fee 45 = .ok (.invokevirtual 105, 3) := by decide +kernel
theorem dX8_fee_48 : decode cX8_fee 48 = .ok (.ireturn, 1) := by decide +kernel
theorem dX8_fine_0 : decode cX8_fine 0 = .ok (.aload_n 0, 1) := by decide +kernel
theorem dX8_fine_1 : decode cX8_fine 1 = .ok (.iload_n 1, 1) := by decide +kernel
theorem dX8_fine_2 : decode cX8_fine 2 = .ok (.invokevirtual 112, 3) := by decide +kernel
theorem dX8_fine_5 : decode cX8_fine 5 = .ok (.ifCond .ne 6, 3) := by decide +kernel
theorem dX8_fine_8 : decode cX8_fine 8 = .ok (.ldc 86, 2) := by decide +kernel
theorem dX8_fine_10 : decode cX8_fine 10 = .ok (.ireturn, 1) := by decide +kernel
theorem dX8_fine_11 : decode cX8_fine 11 = .ok (.aload_n 0, 1) := by decide +kernel
theorem dX8_fine_12 : decode cX8_fine 12 = .ok (.iconst 2, 1) := by decide +kernel
theorem dX8_fine_13 : decode cX8_fine 13 = .ok (.invokevirtual 101, 3) := by decide +kernel
theorem dX8_fine_16 : decode cX8_fine 16 = .ok (.istore_n 2, 1) := by decide +kernel
theorem dX8_fine_17 : decode cX8_fine 17 = .ok (.iload_n 2, 1) := by decide +kernel
theorem dX8_fine_18 : decode cX8_fine 18 = .ok (.ifCond .ge 10, 3) := by decide +kernel
theorem dX8_fine_21 : decode cX8_fine 21 = .ok (.aload_n 0, 1) := by decide +kernel
theorem dX8_fine_22 : decode cX8_fine 22 = .ok (.iload_n 1, 1) := by decide +kernel
theorem dX8_fine_23 : decode cX8_fine 23 = .ok (.iconst 3, 1) := by decide +kernel
theorem dX8_fine_24 : decode cX8_fine 24 = .ok (.invokevirtual 98, 3) := by decide +kernel
theorem dX8_fine_27 : decode cX8_fine 27 = .ok (.ireturn, 1) := by decide +kernel
theorem dX8_fine_28 : decode cX8_fine 28 = .ok (.aload_n 0, 1) := by decide +kernel
theorem dX8_fine_29 : decode cX8_fine 29 = .ok (.getfield 55, 3) := by decide +kernel
theorem dX8_fine_32 : decode cX8_fine 32 = .ok (.bipush 112, 2) := by decide +kernel
theorem dX8_fine_34 : decode cX8_fine 34 = .ok (.aload_n 0, 1) := by decide +kernel
theorem dX8_fine_35 : decode cX8_fine 35 = .ok (.iload_n 1, 1) := by decide +kernel
theorem dX8_fine_36 : decode cX8_fine 36 = .ok (.iconst 3, 1) := by decide +kernel
theorem dX8_fine_37 : decode cX8_fine 37 = .ok (.invokevirtual 98, 3) := by decide +kernel
theorem dX8_fine_40 : decode cX8_fine 40 = .ok (.iastore, 1) := by decide +kernel
theorem dX8_fine_41 : decode cX8_fine 41 = .ok (.aload_n 0, 1) := by decide +kernel
theorem dX8_fine_42 : decode cX8_fine 42 = .ok (.getfield 55, 3) := by decide +kernel
theorem dX8_fine_45 : decode cX8_fine 45 = .ok (.bipush 101, 2) := by decide +kernel
theorem dX8_fine_47 : decode cX8_fine 47 = .ok (.aload_n 0, 1) := by decide +kernel
theorem dX8_fine_48 : decode cX8_fine 48 = .ok (.iload_n 1, 1) := by decide +kernel
theorem dX8_fine_49 : decode cX8_fine 49 = .ok (.iconst 1, 1) := by decide +kernel
theorem dX8_fine_50 : decode cX8_fine 50 = .ok (.invokevirtual 98, 3) := by decide +kernel
theorem dX8_fine_53 : decode cX8_fine 53 = .ok (.iastore, 1) := by decide +kernel
theorem dX8_fine_54 : decode cX8_fine 54 = .ok (.aload_n 0, 1) := by decide +kernel
theorem dX8_fine_55 : decode cX8_fine 55 = .ok (.iload_n 2, 1) := by decide +kernel
theorem dX8_fine_56 : decode cX8_fine 56 = .ok (.invokevirtual 105, 3) := by decide +kernel
theorem dX8_fine_59 : decode cX8_fine 59 = .ok (.ireturn, 1) := by decide +kernel
theorem dX8_manyStruck_0 : decode cX8_manyStruck 0 = .ok (.iconst 0, 1) := by decide +kernel
theorem dX8_manyStruck_1 : decode cX8_manyStruck 1 = .ok (.istore_n 1, 1) := by decide +kernel
theorem dX8_manyStruck_2 : decode cX8_manyStruck 2 = .ok (.iconst 0, 1) := by decide +kernel
theorem dX8_manyStruck_3 : decode cX8_manyStruck 3 = .ok (.istore_n 2, 1) := by decide +kernel
theorem dX8_manyStruck_4 : decode cX8_manyStruck 4 = .ok (.iload_n 2, 1) := by decide +kernel
theorem dX8_manyStruck_5 : decode cX8_manyStruck 5 = .ok (.aload_n 0, 1) := by decide +kernel
theorem dX8_manyStruck_6 : decode cX8_manyStruck 6 = .ok (.getfield 7, 3) := by decide +kernel
theorem dX8_manyStruck_9 : decode cX8_manyStruck 9 = .ok (.iconst 0, 1) := by decide +kernel
theorem dX8_manyStruck_10 : decode cX8_manyStruck 10 = .ok (.iaload, 1) := by decide +kernel
theorem dX8_manyStruck_11 : decode cX8_manyStruck 11 = .ok (.if_icmp .ge 27, 3) := by decide +kernel
theorem dX8_manyStruck_14 : decode cX8_manyStruck 14 = .ok (.iload_n 1, 1) := by decide +kernel
theorem dX8_manyStruck_15 : decode cX8_manyStruck 15 = .ok (.aload_n 0, 1) := by decide +kernel
theorem dX8_manyStruck_16 : decode cX8_manyStruck 16 = .ok (.iload_n 2, 1) := by decide +kernel
theorem dX8_manyStruck_17 : decode cX8_manyStruck 17 = .ok (.iconst 0, 1) := by decide +kernel
theorem dX8_manyStruck_18 : decode cX8_manyStruck 18 = .ok (.invokevirtual 98, 3) := by decide +kernel
theorem dX8_manyStruck_21 : decode cX8_manyStruck 21 = .ok (.iconst 5, 1) := by decide +kernel
theorem dX8_manyStruck_22 : decode cX8_manyStruck 22 = .ok (.if_icmp .ne 7, 3) := by decide +kernel
theorem dX8_manyStruck_25 : decode cX8_manyStruck 25 = .ok (.iconst 1, 1) := by decide +kernel
theorem dX8_manyStruck_26 : decode cX8_manyStruck 26 = .ok (.goto 4, 3) := by decide +kernel
theorem dX8_manyStruck_29 : decode cX8_manyStruck 29 = .ok (.iconst 0, 1) := by decide +kernel
theorem dX8_manyStruck_30 : decode cX8_manyStruck 30 = .ok (.iadd, 1) := by decide +kernel
theorem dX8_manyStruck_31 : decode cX8_manyStruck 31 = .ok (.istore_n 1, 1) := by decide +kernel
theorem dX8_manyStruck_32 : decode cX8_manyStruck 32 = .ok (.iinc 2 1, 3) := by decide +kernel
theorem dX8_manyStruck_35 : decode cX8_manyStruck 35 = .ok (.goto (-31), 3) := by decide +kernel
theorem dX8_manyStruck_38 : decode cX8_manyStruck 38 = .ok (.iload_n 1, 1) := by decide +kernel
theorem dX8_manyStruck_39 : decode cX8_manyStruck 39 = .ok (.ireturn, 1) := by decide +kernel
theorem dX8_feed_0 : decode cX8_feed 0 = .ok (.aload_n 0, 1) := by decide +kernel
theorem dX8_feed_1 : decode cX8_feed 1 = .ok (.getfield 201, 3) := by decide +kernel
theorem dX8_feed_4 : decode cX8_feed 4 = .ok (.bipush 12, 2) := by decide +kernel
theorem dX8_feed_6 : decode cX8_feed 6 = .ok (.iadd, 1) := by decide +kernel
theorem dX8_feed_7 : decode cX8_feed 7 = .ok (.bipush 96, 2) := by decide +kernel
theorem dX8_feed_9 : decode cX8_feed 9 = .ok (.if_icmp .le 6, 3) := by decide +kernel
theorem dX8_feed_12 : decode cX8_feed 12 = .ok (.ldc 87, 2) := by decide +kernel
theorem dX8_feed_14 : decode cX8_feed 14 = .ok (.ireturn, 1) := by decide +kernel
theorem dX8_feed_15 : decode cX8_feed 15 = .ok (.iconst 0, 1) := by decide +kernel
theorem dX8_feed_16 : decode cX8_feed 16 = .ok (.istore 4, 2) := by decide +kernel
theorem dX8_feed_18 : decode cX8_feed 18 = .ok (.iload 4, 2) := by decide +kernel
theorem dX8_feed_20 : decode cX8_feed 20 = .ok (.bipush 12, 2) := by decide +kernel
theorem dX8_feed_22 : decode cX8_feed 22 = .ok (.if_icmp .ge 69, 3) := by decide +kernel
theorem dX8_feed_25 : decode cX8_feed 25 = .ok (.iload 4, 2) := by decide +kernel
theorem dX8_feed_27 : decode cX8_feed 27 = .ok (.iconst 4, 1) := by decide +kernel
theorem dX8_feed_28 : decode cX8_feed 28 = .ok (.if_icmp .ge 7, 3) := by decide +kernel
theorem dX8_feed_31 : decode cX8_feed 31 = .ok (.iload_n 1, 1) := by decide +kernel
theorem dX8_feed_32 : decode cX8_feed 32 = .ok (.goto 15, 3) := by decide +kernel
theorem dX8_feed_35 : decode cX8_feed 35 = .ok (.iload 4, 2) := by decide +kernel
theorem dX8_feed_37 : decode cX8_feed 37 = .ok (.bipush 8, 2) := by decide +kernel
theorem dX8_feed_39 : decode cX8_feed 39 = .ok (.if_icmp .ge 7, 3) := by decide +kernel
theorem dX8_feed_42 : decode cX8_feed 42 = .ok (.iload_n 2, 1) := by decide +kernel
theorem dX8_feed_43 : decode cX8_feed 43 = .ok (.goto 4, 3) := by decide +kernel
theorem dX8_feed_46 : decode cX8_feed 46 = .ok (.iload_n 3, 1) := by decide +kernel
theorem dX8_feed_47 : decode cX8_feed 47 = .ok (.istore 5, 2) := by decide +kernel
theorem dX8_feed_49 : decode cX8_feed 49 = .ok (.aload_n 0, 1) := by decide +kernel
theorem dX8_feed_50 : decode cX8_feed 50 = .ok (.getfield 52, 3) := by decide +kernel
theorem dX8_feed_53 : decode cX8_feed 53 = .ok (.aload_n 0, 1) := by decide +kernel
theorem dX8_feed_54 : decode cX8_feed 54 = .ok (.getfield 201, 3) := by decide +kernel
theorem dX8_feed_57 : decode cX8_feed 57 = .ok (.iload 5, 2) := by decide +kernel
theorem dX8_feed_59 : decode cX8_feed 59 = .ok (.bipush 24, 2) := by decide +kernel
theorem dX8_feed_61 : decode cX8_feed 61 = .ok (.bipush 8, 2) := by decide +kernel
theorem dX8_feed_63 : decode cX8_feed 63 = .ok (.iload 4, 2) := by decide +kernel
theorem dX8_feed_65 : decode cX8_feed 65 = .ok (.iconst 4, 1) := by decide +kernel
theorem dX8_feed_66 : decode cX8_feed 66 = .ok (.irem, 1) := by decide +kernel
theorem dX8_feed_67 : decode cX8_feed 67 = .ok (.imul, 1) := by decide +kernel
theorem dX8_feed_68 : decode cX8_feed 68 = .ok (.isub, 1) := by decide +kernel
theorem dX8_feed_69 : decode cX8_feed 69 = .ok (.ishr, 1) := by decide +kernel
theorem dX8_feed_70 : decode cX8_feed 70 = .ok (.sipush 255, 3) := by decide +kernel
theorem dX8_feed_73 : decode cX8_feed 73 = .ok (.iand, 1) := by decide +kernel
theorem dX8_feed_74 : decode cX8_feed 74 = .ok (.iastore, 1) := by decide +kernel
theorem dX8_feed_75 : decode cX8_feed 75 = .ok (.aload_n 0, 1) := by decide +kernel
theorem dX8_feed_76 : decode cX8_feed 76 = .ok (.dup, 1) := by decide +kernel
theorem dX8_feed_77 : decode cX8_feed 77 = .ok (.getfield 201, 3) := by decide +kernel
theorem dX8_feed_80 : decode cX8_feed 80 = .ok (.iconst 1, 1) := by decide +kernel
theorem dX8_feed_81 : decode cX8_feed 81 = .ok (.iadd, 1) := by decide +kernel
theorem dX8_feed_82 : decode cX8_feed 82 = .ok (.putfield 201, 3) := by decide +kernel
theorem dX8_feed_85 : decode cX8_feed 85 = .ok (.iinc 4 1, 3) := by decide +kernel
theorem dX8_feed_88 : decode cX8_feed 88 = .ok (.goto (-70), 3) := by decide +kernel
theorem dX8_feed_91 : decode cX8_feed 91 = .ok (.aload_n 0, 1) := by decide +kernel
theorem dX8_feed_92 : decode cX8_feed 92 = .ok (.getfield 201, 3) := by decide +kernel
theorem dX8_feed_95 : decode cX8_feed 95 = .ok (.ireturn, 1) := by decide +kernel
