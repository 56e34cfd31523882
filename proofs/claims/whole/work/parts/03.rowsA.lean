theorem dX0_init_0 : decode cX0_init 0 = .ok (.aload_n 0, 1) := by decide +kernel
theorem dX0_init_1 : decode cX0_init 1 = .ok (.invokespecial 3, 3) := by decide +kernel
theorem dX0_init_4 : decode cX0_init 4 = .ok (.aload_n 0, 1) := by decide +kernel
theorem dX0_init_5 : decode cX0_init 5 = .ok (.bipush 10, 2) := by decide +kernel
theorem dX0_init_7 : decode cX0_init 7 = .ok (.anewarray 9, 3) := by decide +kernel
theorem dX0_init_10 : decode cX0_init 10 = .ok (.putfield 11, 3) := by decide +kernel
theorem dX0_init_13 : decode cX0_init 13 = .ok (.aload_n 0, 1) := by decide +kernel
theorem dX0_init_14 : decode cX0_init 14 = .ok (.bipush 17, 2) := by decide +kernel
theorem dX0_init_16 : decode cX0_init 16 = .ok (.newarray .int, 2) := by decide +kernel
theorem dX0_init_18 : decode cX0_init 18 = .ok (.putfield 17, 3) := by decide +kernel
theorem dX0_init_21 : decode cX0_init 21 = .ok (.aload_n 0, 1) := by decide +kernel
theorem dX0_init_22 : decode cX0_init 22 = .ok (.bipush 17, 2) := by decide +kernel
theorem dX0_init_24 : decode cX0_init 24 = .ok (.newarray .int, 2) := by decide +kernel
theorem dX0_init_26 : decode cX0_init 26 = .ok (.putfield 21, 3) := by decide +kernel
theorem dX0_init_29 : decode cX0_init 29 = .ok (.aload_n 0, 1) := by decide +kernel
theorem dX0_init_30 : decode cX0_init 30 = .ok (.bipush 17, 2) := by decide +kernel
theorem dX0_init_32 : decode cX0_init 32 = .ok (.newarray .int, 2) := by decide +kernel
theorem dX0_init_34 : decode cX0_init 34 = .ok (.putfield 24, 3) := by decide +kernel
theorem dX0_init_37 : decode cX0_init 37 = .ok (.aload_n 0, 1) := by decide +kernel
theorem dX0_init_38 : decode cX0_init 38 = .ok (.iconst 1, 1) := by decide +kernel
theorem dX0_init_39 : decode cX0_init 39 = .ok (.putfield 27, 3) := by decide +kernel
theorem dX0_init_42 : decode cX0_init 42 = .ok (.aload_n 0, 1) := by decide +kernel
theorem dX0_init_43 : decode cX0_init 43 = .ok (.iconst 3, 1) := by decide +kernel
theorem dX0_init_44 : decode cX0_init 44 = .ok (.newarray .int, 2) := by decide +kernel
theorem dX0_init_46 : decode cX0_init 46 = .ok (.dup, 1) := by decide +kernel
theorem dX0_init_47 : decode cX0_init 47 = .ok (.iconst 0, 1) := by decide +kernel
theorem dX0_init_48 : decode cX0_init 48 = .ok (.iconst (-1), 1) := by decide +kernel
theorem dX0_init_49 : decode cX0_init 49 = .ok (.iastore, 1) := by decide +kernel
theorem dX0_init_50 : decode cX0_init 50 = .ok (.dup, 1) := by decide +kernel
theorem dX0_init_51 : decode cX0_init 51 = .ok (.iconst 1, 1) := by decide +kernel
theorem dX0_init_52 : decode cX0_init 52 = .ok (.iconst (-1), 1) := by decide +kernel
theorem dX0_init_53 : decode cX0_init 53 = .ok (.iastore, 1) := by decide +kernel
theorem dX0_init_54 : decode cX0_init 54 = .ok (.dup, 1) := by decide +kernel
theorem dX0_init_55 : decode cX0_init 55 = .ok (.iconst 2, 1) := by decide +kernel
theorem dX0_init_56 : decode cX0_init 56 = .ok (.iconst (-1), 1) := by decide +kernel
theorem dX0_init_57 : decode cX0_init 57 = .ok (.iastore, 1) := by decide +kernel
theorem dX0_init_58 : decode cX0_init 58 = .ok (.putfield 31, 3) := by decide +kernel
theorem dX0_init_61 : decode cX0_init 61 = .ok (.aload_n 0, 1) := by decide +kernel
theorem dX0_init_62 : decode cX0_init 62 = .ok (.aload_n 1, 1) := by decide +kernel
theorem dX0_init_63 : decode cX0_init 63 = .ok (.putfield 34, 3) := by decide +kernel
theorem dX0_init_66 : decode cX0_init 66 = .ok (.iconst 0, 1) := by decide +kernel
theorem dX0_init_67 : decode cX0_init 67 = .ok (.istore_n 2, 1) := by decide +kernel
theorem dX0_init_68 : decode cX0_init 68 = .ok (.iload_n 2, 1) := by decide +kernel
theorem dX0_init_69 : decode cX0_init 69 = .ok (.bipush 10, 2) := by decide +kernel
theorem dX0_init_71 : decode cX0_init 71 = .ok (.if_icmp .ge 22, 3) := by decide +kernel
theorem dX0_init_74 : decode cX0_init 74 = .ok (.aload_n 0, 1) := by decide +kernel
theorem dX0_init_75 : decode cX0_init 75 = .ok (.getfield 11, 3) := by decide +kernel
theorem dX0_init_78 : decode cX0_init 78 = .ok (.iload_n 2, 1) := by decide +kernel
theorem dX0_init_79 : decode cX0_init 79 = .ok (.new 9, 3) := by decide +kernel
theorem dX0_init_82 : decode cX0_init 82 = .ok (.dup, 1) := by decide +kernel
theorem dX0_init_83 : decode cX0_init 83 = .ok (.invokespecial 38, 3) := by decide +kernel
theorem dX0_init_86 : decode cX0_init 86 = .ok (.aastore, 1) := by decide +kernel
theorem dX0_init_87 : decode cX0_init 87 = .ok (.iinc 2 1, 3) := by decide +kernel
theorem dX0_init_90 : decode cX0_init 90 = .ok (.goto (-22), 3) := by decide +kernel
theorem dX0_init_93 : decode cX0_init 93 = .ok (.return_, 1) := by decide +kernel
theorem dX0_becomes_0 : decode cX0_becomes 0 = .ok (.aload_n 0, 1) := by decide +kernel
theorem dX0_becomes_1 : decode cX0_becomes 1 = .ok (.aload_n 1, 1) := by decide +kernel
theorem dX0_becomes_2 : decode cX0_becomes 2 = .ok (.getfield 39, 3) := by decide +kernel
theorem dX0_becomes_5 : decode cX0_becomes 5 = .ok (.putfield 39, 3) := by decide +kernel
theorem dX0_becomes_8 : decode cX0_becomes 8 = .ok (.iconst 0, 1) := by decide +kernel
theorem dX0_becomes_9 : decode cX0_becomes 9 = .ok (.istore_n 2, 1) := by decide +kernel
theorem dX0_becomes_10 : decode cX0_becomes 10 = .ok (.iload_n 2, 1) := by decide +kernel
theorem dX0_becomes_11 : decode cX0_becomes 11 = .ok (.aload_n 0, 1) := by decide +kernel
theorem dX0_becomes_12 : decode cX0_becomes 12 = .ok (.getfield 39, 3) := by decide +kernel
theorem dX0_becomes_15 : decode cX0_becomes 15 = .ok (.if_icmp .ge 24, 3) := by decide +kernel
theorem dX0_becomes_18 : decode cX0_becomes 18 = .ok (.aload_n 0, 1) := by decide +kernel
theorem dX0_becomes_19 : decode cX0_becomes 19 = .ok (.getfield 11, 3) := by decide +kernel
theorem dX0_becomes_22 : decode cX0_becomes 22 = .ok (.iload_n 2, 1) := by decide +kernel
theorem dX0_becomes_23 : decode cX0_becomes 23 = .ok (.aaload, 1) := by decide +kernel
theorem dX0_becomes_24 : decode cX0_becomes 24 = .ok (.aload_n 1, 1) := by decide +kernel
theorem dX0_becomes_25 : decode cX0_becomes 25 = .ok (.getfield 11, 3) := by decide +kernel
theorem dX0_becomes_28 : decode cX0_becomes 28 = .ok (.iload_n 2, 1) := by decide +kernel
theorem dX0_becomes_29 : decode cX0_becomes 29 = .ok (.aaload, 1) := by decide +kernel
theorem dX0_becomes_30 : decode cX0_becomes 30 = .ok (.invokevirtual 42, 3) := by decide +kernel
theorem dX0_becomes_33 : decode cX0_becomes 33 = .ok (.iinc 2 1, 3) := by decide +kernel
theorem dX0_becomes_36 : decode cX0_becomes 36 = .ok (.goto (-26), 3) := by decide +kernel
theorem dX0_becomes_39 : decode cX0_becomes 39 = .ok (.aload_n 0, 1) := by decide +kernel
theorem dX0_becomes_40 : decode cX0_becomes 40 = .ok (.aload_n 1, 1) := by decide +kernel
theorem dX0_becomes_41 : decode cX0_becomes 41 = .ok (.getfield 46, 3) := by decide +kernel
theorem dX0_becomes_44 : decode cX0_becomes 44 = .ok (.putfield 46, 3) := by decide +kernel
theorem dX0_becomes_47 : decode cX0_becomes 47 = .ok (.aload_n 1, 1) := by decide +kernel
theorem dX0_becomes_48 : decode cX0_becomes 48 = .ok (.getfield 17, 3) := by decide +kernel
theorem dX0_becomes_51 : decode cX0_becomes 51 = .ok (.iconst 0, 1) := by decide +kernel
theorem dX0_becomes_52 : decode cX0_becomes 52 = .ok (.aload_n 0, 1) := by decide +kernel
theorem dX0_becomes_53 : decode cX0_becomes 53 = .ok (.getfield 17, 3) := by decide +kernel
theorem dX0_becomes_56 : decode cX0_becomes 56 = .ok (.iconst 0, 1) := by decide +kernel
theorem dX0_becomes_57 : decode cX0_becomes 57 = .ok (.aload_n 0, 1) := by decide +kernel
theorem dX0_becomes_58 : decode cX0_becomes 58 = .ok (.getfield 46, 3) := by decide +kernel
theorem dX0_becomes_61 : decode cX0_becomes 61 = .ok (.invokestatic 49, 3) := by decide +kernel
theorem dX0_becomes_64 : decode cX0_becomes 64 = .ok (.aload_n 1, 1) := by decide +kernel
theorem dX0_becomes_65 : decode cX0_becomes 65 = .ok (.getfield 21, 3) := by decide +kernel
theorem dX0_becomes_68 : decode cX0_becomes 68 = .ok (.iconst 0, 1) := by decide +kernel
theorem dX0_becomes_69 : decode cX0_becomes 69 = .ok (.aload_n 0, 1) := by decide +kernel
theorem dX0_becomes_70 : decode cX0_becomes 70 = .ok (.getfield 21, 3) := by decide +kernel
theorem dX0_becomes_73 : decode cX0_becomes 73 = .ok (.iconst 0, 1) := by decide +kernel
theorem dX0_becomes_74 : decode cX0_becomes 74 = .ok (.aload_n 0, 1) := by decide +kernel
theorem dX0_becomes_75 : decode cX0_becomes 75 = .ok (.getfield 46, 3) := by decide +kernel
theorem dX0_becomes_78 : decode cX0_becomes 78 = .ok (.invokestatic 49, 3) := by decide +kernel
theorem dX0_becomes_81 : decode cX0_becomes 81 = .ok (.aload_n 1, 1) := by decide +kernel
theorem dX0_becomes_82 : decode cX0_becomes 82 = .ok (.getfield 24, 3) := by decide +kernel
theorem dX0_becomes_85 : decode cX0_becomes 85 = .ok (.iconst 0, 1) := by decide +kernel
theorem dX0_becomes_86 : decode cX0_becomes 86 = .ok (.aload_n 0, 1) := by decide +kernel
theorem dX0_becomes_87 : decode cX0_becomes 87 = .ok (.getfield 24, 3) := by decide +kernel
theorem dX0_becomes_90 : decode cX0_becomes 90 = .ok (.iconst 0, 1) := by decide +kernel
theorem dX0_becomes_91 : decode cX0_becomes 91 = .ok (.aload_n 0, 1) := by decide +kernel
theorem dX0_becomes_92 : decode cX0_becomes 92 = .ok (.getfield 46, 3) := by decide +kernel
theorem dX0_becomes_95 : decode cX0_becomes 95 = .ok (.invokestatic 49, 3) := by decide +kernel
theorem dX0_becomes_98 : decode cX0_becomes 98 = .ok (.aload_n 0, 1) := by decide +kernel
theorem dX0_becomes_99 : decode cX0_becomes 99 = .ok (.aload_n 1, 1) := by decide +kernel
theorem dX0_becomes_100 : decode cX0_becomes 100 = .ok (.getfield 55, 3) := by decide +kernel
theorem dX0_becomes_103 : decode cX0_becomes 103 = .ok (.putfield 55, 3) := by decide +kernel
theorem dX0_becomes_106 : decode cX0_becomes 106 = .ok (.aload_n 0, 1) := by decide +kernel
theorem dX0_becomes_107 : decode cX0_becomes 107 = .ok (.aload_n 1, 1) := by decide +kernel
theorem dX0_becomes_108 : decode cX0_becomes 108 = .ok (.getfield 58, 3) := by decide +kernel
theorem dX0_becomes_111 : decode cX0_becomes 111 = .ok (.putfield 58, 3) := by decide +kernel
theorem dX0_becomes_114 : decode cX0_becomes 114 = .ok (.aload_n 0, 1) := by decide +kernel
theorem dX0_becomes_115 : decode cX0_becomes 115 = .ok (.aload_n 1, 1) := by decide +kernel
theorem dX0_becomes_116 : decode cX0_becomes 116 = .ok (.getfield 61, 3) := by decide +kernel
theorem dX0_becomes_119 : decode cX0_becomes 119 = .ok (.putfield 61, 3) := by decide +kernel
theorem dX0_becomes_122 : decode cX0_becomes 122 = .ok (.aload_n 0, 1) := by decide +kernel
theorem dX0_becomes_123 : decode cX0_becomes 123 = .ok (.aload_n 1, 1) := by decide +kernel
theorem dX0_becomes_124 : decode cX0_becomes 124 = .ok (.getfield 27, 3) := by decide +kernel
theorem dX0_becomes_127 : decode cX0_becomes 127 = .ok (.putfield 27, 3) := by decide +kernel
theorem dX0_becomes_130 : decode cX0_becomes 130 = .ok (.aload_n 0, 1) := by decide +kernel
theorem dX0_becomes_131 : decode cX0_becomes 131 = .ok (.aload_n 1, 1) := by decide +kernel
theorem dX0_becomes_132 : decode cX0_becomes 132 = .ok (.getfield 64, 3) := by decide +kernel
theorem dX0_becomes_135 : decode cX0_becomes 135 = .ok (.putfield 64, 3) := by decide +kernel
theorem dX0_becomes_138 : decode cX0_becomes 138 = .ok (.aload_n 1, 1) := by decide +kernel
theorem dX0_becomes_139 : decode cX0_becomes 139 = .ok (.getfield 31, 3) := by decide +kernel
theorem dX0_becomes_142 : decode cX0_becomes 142 = .ok (.iconst 0, 1) := by decide +kernel
theorem dX0_becomes_143 : decode cX0_becomes 143 = .ok (.aload_n 0, 1) := by decide +kernel
theorem dX0_becomes_144 : decode cX0_becomes 144 = .ok (.getfield 31, 3) := by decide +kernel
theorem dX0_becomes_147 : decode cX0_becomes 147 = .ok (.iconst 0, 1) := by decide +kernel
theorem dX0_becomes_148 : decode cX0_becomes 148 = .ok (.iconst 3, 1) := by decide +kernel
theorem dX0_becomes_149 : decode cX0_becomes 149 = .ok (.invokestatic 49, 3) := by decide +kernel
theorem dX0_becomes_152 : decode cX0_becomes 152 = .ok (.return_, 1) := by decide +kernel
theorem dX0_hasPerson_0 : decode cX0_hasPerson 0 = .ok (.iload_n 1, 1) := by decide +kernel
theorem dX0_hasPerson_1 : decode cX0_hasPerson 1 = .ok (.iconst 0, 1) := by decide +kernel
theorem dX0_hasPerson_2 : decode cX0_hasPerson 2 = .ok (.aload_n 0, 1) := by decide +kernel
theorem dX0_hasPerson_3 : decode cX0_hasPerson 3 = .ok (.getfield 39, 3) := by decide +kernel
theorem dX0_hasPerson_6 : decode cX0_hasPerson 6 = .ok (.iconst 1, 1) := by decide +kernel
theorem dX0_hasPerson_7 : decode cX0_hasPerson 7 = .ok (.isub, 1) := by decide +kernel
theorem dX0_hasPerson_8 : decode cX0_hasPerson 8 = .ok (.invokestatic 67, 3) := by decide +kernel
theorem dX0_hasPerson_11 : decode cX0_hasPerson 11 = .ok (.ireturn, 1) := by decide +kernel
theorem dX0_hasVow_0 : decode cX0_hasVow 0 = .ok (.iload_n 1, 1) := by decide +kernel
theorem dX0_hasVow_1 : decode cX0_hasVow 1 = .ok (.iconst 0, 1) := by decide +kernel
theorem dX0_hasVow_2 : decode cX0_hasVow 2 = .ok (.aload_n 0, 1) := by decide +kernel
theorem dX0_hasVow_3 : decode cX0_hasVow 3 = .ok (.getfield 46, 3) := by decide +kernel
theorem dX0_hasVow_6 : decode cX0_hasVow 6 = .ok (.iconst 1, 1) := by decide +kernel
theorem dX0_hasVow_7 : decode cX0_hasVow 7 = .ok (.isub, 1) := by decide +kernel
theorem dX0_hasVow_8 : decode cX0_hasVow 8 = .ok (.invokestatic 67, 3) := by decide +kernel
theorem dX0_hasVow_11 : decode cX0_hasVow 11 = .ok (.ireturn, 1) := by decide +kernel
theorem dX0_addPerson_0 : decode cX0_addPerson 0 = .ok (.aload_n 0, 1) := by decide +kernel
theorem dX0_addPerson_1 : decode cX0_addPerson 1 = .ok (.getfield 11, 3) := by decide +kernel
theorem dX0_addPerson_4 : decode cX0_addPerson 4 = .ok (.aload_n 0, 1) := by decide +kernel
theorem dX0_addPerson_5 : decode cX0_addPerson 5 = .ok (.getfield 39, 3) := by decide +kernel
theorem dX0_addPerson_8 : decode cX0_addPerson 8 = .ok (.aaload, 1) := by decide +kernel
theorem dX0_addPerson_9 : decode cX0_addPerson 9 = .ok (.iload_n 1, 1) := by decide +kernel
theorem dX0_addPerson_10 : decode cX0_addPerson 10 = .ok (.iload_n 2, 1) := by decide +kernel
theorem dX0_addPerson_11 : decode cX0_addPerson 11 = .ok (.iload_n 3, 1) := by decide +kernel
theorem dX0_addPerson_12 : decode cX0_addPerson 12 = .ok (.invokevirtual 71, 3) := by decide +kernel
theorem dX0_addPerson_15 : decode cX0_addPerson 15 = .ok (.aload_n 0, 1) := by decide +kernel
theorem dX0_addPerson_16 : decode cX0_addPerson 16 = .ok (.dup, 1) := by decide +kernel
theorem dX0_addPerson_17 : decode cX0_addPerson 17 = .ok (.getfield 39, 3) := by decide +kernel
theorem dX0_addPerson_20 : decode cX0_addPerson 20 = .ok (.iconst 1, 1) := by decide +kernel
theorem dX0_addPerson_21 : decode cX0_addPerson 21 = .ok (.iadd, 1) := by decide +kernel
theorem dX0_addPerson_22 : decode cX0_addPerson 22 = .ok (.putfield 39, 3) := by decide +kernel
theorem dX0_addPerson_25 : decode cX0_addPerson 25 = .ok (.return_, 1) := by decide +kernel
theorem dX0_drawPerson_0 : decode cX0_drawPerson 0 = .ok (.aload_n 0, 1) := by decide +kernel
theorem dX0_drawPerson_1 : decode cX0_drawPerson 1 = .ok (.invokevirtual 75, 3) := by decide +kernel
theorem dX0_drawPerson_4 : decode cX0_drawPerson 4 = .ok (.bipush 6, 2) := by decide +kernel
theorem dX0_drawPerson_6 : decode cX0_drawPerson 6 = .ok (.irem, 1) := by decide +kernel
theorem dX0_drawPerson_7 : decode cX0_drawPerson 7 = .ok (.istore_n 1, 1) := by decide +kernel
theorem dX0_drawPerson_8 : decode cX0_drawPerson 8 = .ok (.aload_n 0, 1) := by decide +kernel
theorem dX0_drawPerson_9 : decode cX0_drawPerson 9 = .ok (.invokevirtual 75, 3) := by decide +kernel
theorem dX0_drawPerson_12 : decode cX0_drawPerson 12 = .ok (.bipush 24, 2) := by decide +kernel
theorem dX0_drawPerson_14 : decode cX0_drawPerson 14 = .ok (.irem, 1) := by decide +kernel
theorem dX0_drawPerson_15 : decode cX0_drawPerson 15 = .ok (.istore_n 2, 1) := by decide +kernel
theorem dX0_drawPerson_16 : decode cX0_drawPerson 16 = .ok (.aload_n 0, 1) := by decide +kernel
theorem dX0_drawPerson_17 : decode cX0_drawPerson 17 = .ok (.invokevirtual 75, 3) := by decide +kernel
theorem dX0_drawPerson_20 : decode cX0_drawPerson 20 = .ok (.bipush 100, 2) := by decide +kernel
theorem dX0_drawPerson_22 : decode cX0_drawPerson 22 = .ok (.irem, 1) := by decide +kernel
theorem dX0_drawPerson_23 : decode cX0_drawPerson 23 = .ok (.istore_n 3, 1) := by decide +kernel
theorem dX0_drawPerson_24 : decode cX0_drawPerson 24 = .ok (.aload_n 0, 1) := by decide +kernel
theorem dX0_drawPerson_25 : decode cX0_drawPerson 25 = .ok (.iload_n 1, 1) := by decide +kernel
theorem dX0_drawPerson_26 : decode cX0_drawPerson 26 = .ok (.iload_n 2, 1) := by decide +kernel
theorem dX0_drawPerson_27 : decode cX0_drawPerson 27 = .ok (.iload_n 3, 1) := by decide +kernel
theorem dX0_drawPerson_28 : decode cX0_drawPerson 28 = .ok (.invokevirtual 79, 3) := by decide +kernel
theorem dX0_drawPerson_31 : decode cX0_drawPerson 31 = .ok (.return_, 1) := by decide +kernel
theorem dX0_draw_0 : decode cX0_draw 0 = .ok (.aload_n 0, 1) := by decide +kernel
theorem dX0_draw_1 : decode cX0_draw 1 = .ok (.aload_n 0, 1) := by decide +kernel
theorem dX0_draw_2 : decode cX0_draw 2 = .ok (.getfield 27, 3) := by decide +kernel
theorem dX0_draw_5 : decode cX0_draw 5 = .ok (.ldc 82, 2) := by decide +kernel
theorem dX0_draw_7 : decode cX0_draw 7 = .ok (.imul, 1) := by decide +kernel
theorem dX0_draw_8 : decode cX0_draw 8 = .ok (.sipush 12345, 3) := by decide +kernel
theorem dX0_draw_11 : decode cX0_draw 11 = .ok (.iadd, 1) := by decide +kernel
theorem dX0_draw_12 : decode cX0_draw 12 = .ok (.putfield 27, 3) := by decide +kernel
theorem dX0_draw_15 : decode cX0_draw 15 = .ok (.aload_n 0, 1) := by decide +kernel
theorem dX0_draw_16 : decode cX0_draw 16 = .ok (.getfield 27, 3) := by decide +kernel
theorem dX0_draw_19 : decode cX0_draw 19 = .ok (.bipush 8, 2) := by decide +kernel
theorem dX0_draw_21 : decode cX0_draw 21 = .ok (.iushr, 1) := by decide +kernel
theorem dX0_draw_22 : decode cX0_draw 22 = .ok (.ireturn, 1) := by decide +kernel
theorem dX0_struckCount_0 : decode cX0_struckCount 0 = .ok (.iconst 0, 1) := by decide +kernel
theorem dX0_struckCount_1 : decode cX0_struckCount 1 = .ok (.istore_n 1, 1) := by decide +kernel
theorem dX0_struckCount_2 : decode cX0_struckCount 2 = .ok (.iconst 0, 1) := by decide +kernel
theorem dX0_struckCount_3 : decode cX0_struckCount 3 = .ok (.istore_n 2, 1) := by decide +kernel
theorem dX0_struckCount_4 : decode cX0_struckCount 4 = .ok (.iload_n 2, 1) := by decide +kernel
theorem dX0_struckCount_5 : decode cX0_struckCount 5 = .ok (.aload_n 0, 1) := by decide +kernel
theorem dX0_struckCount_6 : decode cX0_struckCount 6 = .ok (.getfield 39, 3) := by decide +kernel
theorem dX0_struckCount_9 : decode cX0_struckCount 9 = .ok (.if_icmp .ge 25, 3) := by decide +kernel
theorem dX0_struckCount_12 : decode cX0_struckCount 12 = .ok (.aload_n 0, 1) := by decide +kernel
theorem dX0_struckCount_13 : decode cX0_struckCount 13 = .ok (.getfield 11, 3) := by decide +kernel
theorem dX0_struckCount_16 : decode cX0_struckCount 16 = .ok (.iload_n 2, 1) := by decide +kernel
theorem dX0_struckCount_17 : decode cX0_struckCount 17 = .ok (.aaload, 1) := by decide +kernel
theorem dX0_struckCount_18 : decode cX0_struckCount 18 = .ok (.getfield 83, 3) := by decide +kernel
theorem dX0_struckCount_21 : decode cX0_struckCount 21 = .ok (.iconst 5, 1) := by decide +kernel
theorem dX0_struckCount_22 : decode cX0_struckCount 22 = .ok (.if_icmp .ne 6, 3) := by decide +kernel
theorem dX0_struckCount_25 : decode cX0_struckCount 25 = .ok (.iinc 1 1, 3) := by decide +kernel
theorem dX0_struckCount_28 : decode cX0_struckCount 28 = .ok (.iinc 2 1, 3) := by decide +kernel
theorem dX0_struckCount_31 : decode cX0_struckCount 31 = .ok (.goto (-27), 3) := by decide +kernel
theorem dX0_struckCount_34 : decode cX0_struckCount 34 = .ok (.iload_n 1, 1) := by decide +kernel
theorem dX0_struckCount_35 : decode cX0_struckCount 35 = .ok (.ireturn, 1) := by decide +kernel
theorem dX0_addVow_0 : decode cX0_addVow 0 = .ok (.aload_n 0, 1) := by decide +kernel
theorem dX0_addVow_1 : decode cX0_addVow 1 = .ok (.getfield 17, 3) := by decide +kernel
theorem dX0_addVow_4 : decode cX0_addVow 4 = .ok (.aload_n 0, 1) := by decide +kernel
theorem dX0_addVow_5 : decode cX0_addVow 5 = .ok (.getfield 46, 3) := by decide +kernel
theorem dX0_addVow_8 : decode cX0_addVow 8 = .ok (.iload_n 1, 1) := by decide +kernel
theorem dX0_addVow_9 : decode cX0_addVow 9 = .ok (.iastore, 1) := by decide +kernel
theorem dX0_addVow_10 : decode cX0_addVow 10 = .ok (.aload_n 0, 1) := by decide +kernel
theorem dX0_addVow_11 : decode cX0_addVow 11 = .ok (.getfield 21, 3) := by decide +kernel
theorem dX0_addVow_14 : decode cX0_addVow 14 = .ok (.aload_n 0, 1) := by decide +kernel
theorem dX0_addVow_15 : decode cX0_addVow 15 = .ok (.getfield 46, 3) := by decide +kernel
theorem dX0_addVow_18 : decode cX0_addVow 18 = .ok (.iload_n 2, 1) := by decide +kernel
theorem dX0_addVow_19 : decode cX0_addVow 19 = .ok (.iastore, 1) := by decide +kernel
theorem dX0_addVow_20 : decode cX0_addVow 20 = .ok (.aload_n 0, 1) := by decide +kernel
theorem dX0_addVow_21 : decode cX0_addVow 21 = .ok (.getfield 24, 3) := by decide +kernel
theorem dX0_addVow_24 : decode cX0_addVow 24 = .ok (.aload_n 0, 1) := by decide +kernel
theorem dX0_addVow_25 : decode cX0_addVow 25 = .ok (.getfield 46, 3) := by decide +kernel
theorem dX0_addVow_28 : decode cX0_addVow 28 = .ok (.iload_n 3, 1) := by decide +kernel
theorem dX0_addVow_29 : decode cX0_addVow 29 = .ok (.iastore, 1) := by decide +kernel
theorem dX0_addVow_30 : decode cX0_addVow 30 = .ok (.aload_n 0, 1) := by decide +kernel
theorem dX0_addVow_31 : decode cX0_addVow 31 = .ok (.dup, 1) := by decide +kernel
theorem dX0_addVow_32 : decode cX0_addVow 32 = .ok (.getfield 46, 3) := by decide +kernel
theorem dX0_addVow_35 : decode cX0_addVow 35 = .ok (.iconst 1, 1) := by decide +kernel
theorem dX0_addVow_36 : decode cX0_addVow 36 = .ok (.iadd, 1) := by decide +kernel
theorem dX0_addVow_37 : decode cX0_addVow 37 = .ok (.putfield 46, 3) := by decide +kernel
theorem dX0_addVow_40 : decode cX0_addVow 40 = .ok (.return_, 1) := by decide +kernel
theorem dX0_lapse_0 : decode cX0_lapse 0 = .ok (.aload_n 0, 1) := by decide +kernel
theorem dX0_lapse_1 : decode cX0_lapse 1 = .ok (.getfield 46, 3) := by decide +kernel
theorem dX0_lapse_4 : decode cX0_lapse 4 = .ok (.iload_n 1, 1) := by decide +kernel
theorem dX0_lapse_5 : decode cX0_lapse 5 = .ok (.isub, 1) := by decide +kernel
theorem dX0_lapse_6 : decode cX0_lapse 6 = .ok (.iconst 1, 1) := by decide +kernel
theorem dX0_lapse_7 : decode cX0_lapse 7 = .ok (.isub, 1) := by decide +kernel
theorem dX0_lapse_8 : decode cX0_lapse 8 = .ok (.istore_n 2, 1) := by decide +kernel
theorem dX0_lapse_9 : decode cX0_lapse 9 = .ok (.aload_n 0, 1) := by decide +kernel
theorem dX0_lapse_10 : decode cX0_lapse 10 = .ok (.getfield 17, 3) := by decide +kernel
theorem dX0_lapse_13 : decode cX0_lapse 13 = .ok (.iload_n 1, 1) := by decide +kernel
theorem dX0_lapse_14 : decode cX0_lapse 14 = .ok (.iconst 1, 1) := by decide +kernel
theorem dX0_lapse_15 : decode cX0_lapse 15 = .ok (.iadd, 1) := by decide +kernel
theorem dX0_lapse_16 : decode cX0_lapse 16 = .ok (.aload_n 0, 1) := by decide +kernel
theorem dX0_lapse_17 : decode cX0_lapse 17 = .ok (.getfield 17, 3) := by decide +kernel
theorem dX0_lapse_20 : decode cX0_lapse 20 = .ok (.iload_n 1, 1) := by decide +kernel
theorem dX0_lapse_21 : decode cX0_lapse 21 = .ok (.iload_n 2, 1) := by decide +kernel
theorem dX0_lapse_22 : decode cX0_lapse 22 = .ok (.invokestatic 49, 3) := by decide +kernel
theorem dX0_lapse_25 : decode cX0_lapse 25 = .ok (.aload_n 0, 1) := by decide +kernel
theorem dX0_lapse_26 : decode cX0_lapse 26 = .ok (.getfield 21, 3) := by decide +kernel
theorem dX0_lapse_29 : decode cX0_lapse 29 = .ok (.iload_n 1, 1) := by decide +kernel
theorem dX0_lapse_30 : decode cX0_lapse 30 = .ok (.iconst 1, 1) := by decide +kernel
theorem dX0_lapse_31 : decode cX0_lapse 31 = .ok (.iadd, 1) := by decide +kernel
theorem dX0_lapse_32 : decode cX0_lapse 32 = .ok (.aload_n 0, 1) := by decide +kernel
theorem dX0_lapse_33 : decode cX0_lapse 33 = .ok (.getfield 21, 3) := by decide +kernel
theorem dX0_lapse_36 : decode cX0_lapse 36 = .ok (.iload_n 1, 1) := by decide +kernel
theorem dX0_lapse_37 : decode cX0_lapse 37 = .ok (.iload_n 2, 1) := by decide +kernel
theorem dX0_lapse_38 : decode cX0_lapse 38 = .ok (.invokestatic 49, 3) := by decide +kernel
theorem dX0_lapse_41 : decode cX0_lapse 41 = .ok (.aload_n 0, 1) := by decide +kernel
theorem dX0_lapse_42 : decode cX0_lapse 42 = .ok (.getfield 24, 3) := by decide +kernel
theorem dX0_lapse_45 : decode cX0_lapse 45 = .ok (.iload_n 1, 1) := by decide +kernel
theorem dX0_lapse_46 : decode cX0_lapse 46 = .ok (.iconst 1, 1) := by decide +kernel
theorem dX0_lapse_47 : decode cX0_lapse 47 = .ok (.iadd, 1) := by decide +kernel
theorem dX0_lapse_48 : decode cX0_lapse 48 = .ok (.aload_n 0, 1) := by decide +kernel
theorem dX0_lapse_49 : decode cX0_lapse 49 = .ok (.getfield 24, 3) := by decide +kernel
theorem dX0_lapse_52 : decode cX0_lapse 52 = .ok (.iload_n 1, 1) := by decide +kernel
theorem dX0_lapse_53 : decode cX0_lapse 53 = .ok (.iload_n 2, 1) := by decide +kernel
theorem dX0_lapse_54 : decode cX0_lapse 54 = .ok (.invokestatic 49, 3) := by decide +kernel
theorem dX0_lapse_57 : decode cX0_lapse 57 = .ok (.aload_n 0, 1) := by decide +kernel
theorem dX0_lapse_58 : decode cX0_lapse 58 = .ok (.dup, 1) := by decide +kernel
theorem dX0_lapse_59 : decode cX0_lapse 59 = .ok (.getfield 46, 3) := by decide +kernel
theorem dX0_lapse_62 : decode cX0_lapse 62 = .ok (.iconst 1, 1) := by decide +kernel
theorem dX0_lapse_63 : decode cX0_lapse 63 = .ok (.isub, 1) := by decide +kernel
theorem dX0_lapse_64 : decode cX0_lapse 64 = .ok (.putfield 46, 3) := by decide +kernel
theorem dX0_lapse_67 : decode cX0_lapse 67 = .ok (.aload_n 0, 1) := by decide +kernel
theorem dX0_lapse_68 : decode cX0_lapse 68 = .ok (.dup, 1) := by decide +kernel
theorem dX0_lapse_69 : decode cX0_lapse 69 = .ok (.getfield 58, 3) := by decide +kernel
theorem dX0_lapse_72 : decode cX0_lapse 72 = .ok (.iconst 1, 1) := by decide +kernel
theorem dX0_lapse_73 : decode cX0_lapse 73 = .ok (.iadd, 1) := by decide +kernel
theorem dX0_lapse_74 : decode cX0_lapse 74 = .ok (.putfield 58, 3) := by decide +kernel
theorem dX0_lapse_77 : decode cX0_lapse 77 = .ok (.return_, 1) := by decide +kernel
theorem dX0_strikeOff_0 : decode cX0_strikeOff 0 = .ok (.aload_n 0, 1) := by decide +kernel
theorem dX0_strikeOff_1 : decode cX0_strikeOff 1 = .ok (.getfield 11, 3) := by decide +kernel
theorem dX0_strikeOff_4 : decode cX0_strikeOff 4 = .ok (.iload_n 1, 1) := by decide +kernel
theorem dX0_strikeOff_5 : decode cX0_strikeOff 5 = .ok (.aaload, 1) := by decide +kernel
theorem dX0_strikeOff_6 : decode cX0_strikeOff 6 = .ok (.iconst 5, 1) := by decide +kernel
theorem dX0_strikeOff_7 : decode cX0_strikeOff 7 = .ok (.putfield 83, 3) := by decide +kernel
theorem dX0_strikeOff_10 : decode cX0_strikeOff 10 = .ok (.aload_n 0, 1) := by decide +kernel
theorem dX0_strikeOff_11 : decode cX0_strikeOff 11 = .ok (.getfield 46, 3) := by decide +kernel
theorem dX0_strikeOff_14 : decode cX0_strikeOff 14 = .ok (.iconst 1, 1) := by decide +kernel
theorem dX0_strikeOff_15 : decode cX0_strikeOff 15 = .ok (.isub, 1) := by decide +kernel
theorem dX0_strikeOff_16 : decode cX0_strikeOff 16 = .ok (.istore_n 2, 1) := by decide +kernel
theorem dX0_strikeOff_17 : decode cX0_strikeOff 17 = .ok (.iload_n 2, 1) := by decide +kernel
theorem dX0_strikeOff_18 : decode cX0_strikeOff 18 = .ok (.ifCond .lt 24, 3) := by decide +kernel
theorem dX0_strikeOff_21 : decode cX0_strikeOff 21 = .ok (.aload_n 0, 1) := by decide +kernel
theorem dX0_strikeOff_22 : decode cX0_strikeOff 22 = .ok (.getfield 17, 3) := by decide +kernel
theorem dX0_strikeOff_25 : decode cX0_strikeOff 25 = .ok (.iload_n 2, 1) := by decide +kernel
theorem dX0_strikeOff_26 : decode cX0_strikeOff 26 = .ok (.iaload, 1) := by decide +kernel
theorem dX0_strikeOff_27 : decode cX0_strikeOff 27 = .ok (.iload_n 1, 1) := by decide +kernel
theorem dX0_strikeOff_28 : decode cX0_strikeOff 28 = .ok (.if_icmp .ne 8, 3) := by decide +kernel
theorem dX0_strikeOff_31 : decode cX0_strikeOff 31 = .ok (.aload_n 0, 1) := by decide +kernel
theorem dX0_strikeOff_32 : decode cX0_strikeOff 32 = .ok (.iload_n 2, 1) := by decide +kernel
theorem dX0_strikeOff_33 : decode cX0_strikeOff 33 = .ok (.invokevirtual 86, 3) := by decide +kernel
theorem dX0_strikeOff_36 : decode cX0_strikeOff 36 = .ok (.iinc 2 (-1), 3) := by decide +kernel
theorem dX0_strikeOff_39 : decode cX0_strikeOff 39 = .ok (.goto (-22), 3) := by decide +kernel
theorem dX0_strikeOff_42 : decode cX0_strikeOff 42 = .ok (.return_, 1) := by decide +kernel
theorem dX0_vowsGivenBy_0 : decode cX0_vowsGivenBy 0 = .ok (.aload_n 0, 1) := by decide +kernel
theorem dX0_vowsGivenBy_1 : decode cX0_vowsGivenBy 1 = .ok (.aload_n 0, 1) := by decide +kernel
theorem dX0_vowsGivenBy_2 : decode cX0_vowsGivenBy 2 = .ok (.getfield 17, 3) := by decide +kernel
theorem dX0_vowsGivenBy_5 : decode cX0_vowsGivenBy 5 = .ok (.iload_n 1, 1) := by decide +kernel
theorem dX0_vowsGivenBy_6 : decode cX0_vowsGivenBy 6 = .ok (.invokevirtual 90, 3) := by decide +kernel
theorem dX0_vowsGivenBy_9 : decode cX0_vowsGivenBy 9 = .ok (.ireturn, 1) := by decide +kernel
theorem dX0_vowsGivenTo_0 : decode cX0_vowsGivenTo 0 = .ok (.aload_n 0, 1) := by decide +kernel
theorem dX0_vowsGivenTo_1 : decode cX0_vowsGivenTo 1 = .ok (.aload_n 0, 1) := by decide +kernel
theorem dX0_vowsGivenTo_2 : decode cX0_vowsGivenTo 2 = .ok (.getfield 21, 3) := by decide +kernel
theorem dX0_vowsGivenTo_5 : decode cX0_vowsGivenTo 5 = .ok (.iload_n 1, 1) := by decide +kernel
theorem dX0_vowsGivenTo_6 : decode cX0_vowsGivenTo 6 = .ok (.invokevirtual 90, 3) := by decide +kernel
theorem dX0_vowsGivenTo_9 : decode cX0_vowsGivenTo 9 = .ok (.ireturn, 1) := by decide +kernel
theorem dX0_timesIn_0 : decode cX0_timesIn 0 = .ok (.iconst 0, 1) := by decide +kernel
theorem dX0_timesIn_1 : decode cX0_timesIn 1 = .ok (.istore_n 3, 1) := by decide +kernel
theorem dX0_timesIn_2 : decode cX0_timesIn 2 = .ok (.iconst 0, 1) := by decide +kernel
theorem dX0_timesIn_3 : decode cX0_timesIn 3 = .ok (.istore 4, 2) := by decide +kernel
theorem dX0_timesIn_5 : decode cX0_timesIn 5 = .ok (.iload 4, 2) := by decide +kernel
theorem dX0_timesIn_7 : decode cX0_timesIn 7 = .ok (.aload_n 0, 1) := by decide +kernel
theorem dX0_timesIn_8 : decode cX0_timesIn 8 = .ok (.getfield 46, 3) := by decide +kernel
theorem dX0_timesIn_11 : decode cX0_timesIn 11 = .ok (.if_icmp .ge 20, 3) := by decide +kernel
theorem dX0_timesIn_14 : decode cX0_timesIn 14 = .ok (.aload_n 1, 1) := by decide +kernel
theorem dX0_timesIn_15 : decode cX0_timesIn 15 = .ok (.iload 4, 2) := by decide +kernel
theorem dX0_timesIn_17 : decode cX0_timesIn 17 = .ok (.iaload, 1) := by decide +kernel
theorem dX0_timesIn_18 : decode cX0_timesIn 18 = .ok (.iload_n 2, 1) := by decide +kernel
theorem dX0_timesIn_19 : decode cX0_timesIn 19 = .ok (.if_icmp .ne 6, 3) := by decide +kernel
theorem dX0_timesIn_22 : decode cX0_timesIn 22 = .ok (.iinc 3 1, 3) := by decide +kernel
theorem dX0_timesIn_25 : decode cX0_timesIn 25 = .ok (.iinc 4 1, 3) := by decide +kernel
theorem dX0_timesIn_28 : decode cX0_timesIn 28 = .ok (.goto (-23), 3) := by decide +kernel
theorem dX0_timesIn_31 : decode cX0_timesIn 31 = .ok (.iload_n 3, 1) := by decide +kernel
theorem dX0_timesIn_32 : decode cX0_timesIn 32 = .ok (.ireturn, 1) := by decide +kernel
theorem dX0_keeps_0 : decode cX0_keeps 0 = .ok (.aload_n 0, 1) := by decide +kernel
theorem dX0_keeps_1 : decode cX0_keeps 1 = .ok (.getfield 11, 3) := by decide +kernel
theorem dX0_keeps_4 : decode cX0_keeps 4 = .ok (.aload_n 0, 1) := by decide +kernel
theorem dX0_keeps_5 : decode cX0_keeps 5 = .ok (.getfield 17, 3) := by decide +kernel
theorem dX0_keeps_8 : decode cX0_keeps 8 = .ok (.iload_n 1, 1) := by decide +kernel
theorem dX0_keeps_9 : decode cX0_keeps 9 = .ok (.iaload, 1) := by decide +kernel
theorem dX0_keeps_10 : decode cX0_keeps 10 = .ok (.aaload, 1) := by decide +kernel
theorem dX0_keeps_11 : decode cX0_keeps 11 = .ok (.astore_n 2, 1) := by decide +kernel
theorem dX0_keeps_12 : decode cX0_keeps 12 = .ok (.aload_n 0, 1) := by decide +kernel
theorem dX0_keeps_13 : decode cX0_keeps 13 = .ok (.aload_n 0, 1) := by decide +kernel
theorem dX0_keeps_14 : decode cX0_keeps 14 = .ok (.getfield 17, 3) := by decide +kernel
theorem dX0_keeps_17 : decode cX0_keeps 17 = .ok (.iload_n 1, 1) := by decide +kernel
theorem dX0_keeps_18 : decode cX0_keeps 18 = .ok (.iaload, 1) := by decide +kernel
theorem dX0_keeps_19 : decode cX0_keeps 19 = .ok (.invokevirtual 94, 3) := by decide +kernel
theorem dX0_keeps_22 : decode cX0_keeps 22 = .ok (.istore_n 3, 1) := by decide +kernel
theorem dX0_keeps_23 : decode cX0_keeps 23 = .ok (.aload_n 0, 1) := by decide +kernel
theorem dX0_keeps_24 : decode cX0_keeps 24 = .ok (.getfield 31, 3) := by decide +kernel
theorem dX0_keeps_27 : decode cX0_keeps 27 = .ok (.iconst 0, 1) := by decide +kernel
theorem dX0_keeps_28 : decode cX0_keeps 28 = .ok (.iaload, 1) := by decide +kernel
theorem dX0_keeps_29 : decode cX0_keeps 29 = .ok (.istore 4, 2) := by decide +kernel
theorem dX0_keeps_31 : decode cX0_keeps 31 = .ok (.iload 4, 2) := by decide +kernel
theorem dX0_keeps_33 : decode cX0_keeps 33 = .ok (.ifCond .ge 18, 3) := by decide +kernel
theorem dX0_keeps_36 : decode cX0_keeps 36 = .ok (.iconst 0, 1) := by decide +kernel
theorem dX0_keeps_37 : decode cX0_keeps 37 = .ok (.aload_n 2, 1) := by decide +kernel
theorem dX0_keeps_38 : decode cX0_keeps 38 = .ok (.getfield 98, 3) := by decide +kernel
theorem dX0_keeps_41 : decode cX0_keeps 41 = .ok (.iconst 5, 1) := by decide +kernel
theorem dX0_keeps_42 : decode cX0_keeps 42 = .ok (.iload_n 3, 1) := by decide +kernel
theorem dX0_keeps_43 : decode cX0_keeps 43 = .ok (.imul, 1) := by decide +kernel
theorem dX0_keeps_44 : decode cX0_keeps 44 = .ok (.isub, 1) := by decide +kernel
theorem dX0_keeps_45 : decode cX0_keeps 45 = .ok (.invokestatic 101, 3) := by decide +kernel
theorem dX0_keeps_48 : decode cX0_keeps 48 = .ok (.goto 29, 3) := by decide +kernel
theorem dX0_keeps_51 : decode cX0_keeps 51 = .ok (.aload_n 0, 1) := by decide +kernel
theorem dX0_keeps_52 : decode cX0_keeps 52 = .ok (.getfield 34, 3) := by decide +kernel
theorem dX0_keeps_55 : decode cX0_keeps 55 = .ok (.iload 4, 2) := by decide +kernel
theorem dX0_keeps_57 : decode cX0_keeps 57 = .ok (.aload_n 2, 1) := by decide +kernel
theorem dX0_keeps_58 : decode cX0_keeps 58 = .ok (.getfield 98, 3) := by decide +kernel
theorem dX0_keeps_61 : decode cX0_keeps 61 = .ok (.iload_n 3, 1) := by decide +kernel
theorem dX0_keeps_62 : decode cX0_keeps 62 = .ok (.aload_n 0, 1) := by decide +kernel
theorem dX0_keeps_63 : decode cX0_keeps 63 = .ok (.getfield 24, 3) := by decide +kernel
theorem dX0_keeps_66 : decode cX0_keeps 66 = .ok (.iload_n 1, 1) := by decide +kernel
theorem dX0_keeps_67 : decode cX0_keeps 67 = .ok (.iaload, 1) := by decide +kernel
theorem dX0_keeps_68 : decode cX0_keeps 68 = .ok (.invokevirtual 107, 3) := by decide +kernel
theorem dX0_keeps_71 : decode cX0_keeps 71 = .ok (.iconst 0, 1) := by decide +kernel
theorem dX0_keeps_72 : decode cX0_keeps 72 = .ok (.bipush 100, 2) := by decide +kernel
theorem dX0_keeps_74 : decode cX0_keeps 74 = .ok (.invokestatic 113, 3) := by decide +kernel
theorem dX0_keeps_77 : decode cX0_keeps 77 = .ok (.istore 5, 2) := by decide +kernel
theorem dX0_keeps_79 : decode cX0_keeps 79 = .ok (.aload_n 2, 1) := by decide +kernel
theorem dX0_keeps_80 : decode cX0_keeps 80 = .ok (.iload 5, 2) := by decide +kernel
theorem dX0_keeps_82 : decode cX0_keeps 82 = .ok (.invokevirtual 117, 3) := by decide +kernel
theorem dX0_keeps_85 : decode cX0_keeps 85 = .ok (.ireturn, 1) := by decide +kernel
theorem dX0_passHours_0 : decode cX0_passHours 0 = .ok (.iconst 0, 1) := by decide +kernel
theorem dX0_passHours_1 : decode cX0_passHours 1 = .ok (.istore_n 2, 1) := by decide +kernel
theorem dX0_passHours_2 : decode cX0_passHours 2 = .ok (.iload_n 2, 1) := by decide +kernel
theorem dX0_passHours_3 : decode cX0_passHours 3 = .ok (.iload_n 1, 1) := by decide +kernel
theorem dX0_passHours_4 : decode cX0_passHours 4 = .ok (.if_icmp .ge 13, 3) := by decide +kernel
theorem dX0_passHours_7 : decode cX0_passHours 7 = .ok (.aload_n 0, 1) := by decide +kernel
theorem dX0_passHours_8 : decode cX0_passHours 8 = .ok (.invokevirtual 120, 3) := by decide +kernel
theorem dX0_passHours_11 : decode cX0_passHours 11 = .ok (.iinc 2 1, 3) := by decide +kernel
theorem dX0_passHours_14 : decode cX0_passHours 14 = .ok (.goto (-12), 3) := by decide +kernel
theorem dX0_passHours_17 : decode cX0_passHours 17 = .ok (.return_, 1) := by decide +kernel
theorem dX0_passHour_0 : decode cX0_passHour 0 = .ok (.aload_n 0, 1) := by decide +kernel
theorem dX0_passHour_1 : decode cX0_passHour 1 = .ok (.dup, 1) := by decide +kernel
theorem dX0_passHour_2 : decode cX0_passHour 2 = .ok (.getfield 61, 3) := by decide +kernel
theorem dX0_passHour_5 : decode cX0_passHour 5 = .ok (.iconst 1, 1) := by decide +kernel
theorem dX0_passHour_6 : decode cX0_passHour 6 = .ok (.iadd, 1) := by decide +kernel
theorem dX0_passHour_7 : decode cX0_passHour 7 = .ok (.putfield 61, 3) := by decide +kernel
theorem dX0_passHour_10 : decode cX0_passHour 10 = .ok (.aload_n 0, 1) := by decide +kernel
theorem dX0_passHour_11 : decode cX0_passHour 11 = .ok (.invokevirtual 123, 3) := by decide +kernel
theorem dX0_passHour_14 : decode cX0_passHour 14 = .ok (.aload_n 0, 1) := by decide +kernel
theorem dX0_passHour_15 : decode cX0_passHour 15 = .ok (.invokevirtual 126, 3) := by decide +kernel
theorem dX0_passHour_18 : decode cX0_passHour 18 = .ok (.return_, 1) := by decide +kernel
theorem dX0_callVowsAtNoon_0 : decode cX0_callVowsAtNoon 0 = .ok (.aload_n 0, 1) := by decide +kernel
theorem dX0_callVowsAtNoon_1 : decode cX0_callVowsAtNoon 1 = .ok (.getfield 46, 3) := by decide +kernel
theorem dX0_callVowsAtNoon_4 : decode cX0_callVowsAtNoon 4 = .ok (.istore_n 1, 1) := by decide +kernel
theorem dX0_callVowsAtNoon_5 : decode cX0_callVowsAtNoon 5 = .ok (.iconst 0, 1) := by decide +kernel
theorem dX0_callVowsAtNoon_6 : decode cX0_callVowsAtNoon 6 = .ok (.istore_n 2, 1) := by decide +kernel
theorem dX0_callVowsAtNoon_7 : decode cX0_callVowsAtNoon 7 = .ok (.iconst 0, 1) := by decide +kernel
theorem dX0_callVowsAtNoon_8 : decode cX0_callVowsAtNoon 8 = .ok (.istore_n 3, 1) := by decide +kernel
theorem dX0_callVowsAtNoon_9 : decode cX0_callVowsAtNoon 9 = .ok (.iload_n 3, 1) := by decide +kernel
theorem dX0_callVowsAtNoon_10 : decode cX0_callVowsAtNoon 10 = .ok (.iload_n 1, 1) := by decide +kernel
theorem dX0_callVowsAtNoon_11 : decode cX0_callVowsAtNoon 11 = .ok (.if_icmp .ge 75, 3) := by decide +kernel
theorem dX0_callVowsAtNoon_14 : decode cX0_callVowsAtNoon 14 = .ok (.aload_n 0, 1) := by decide +kernel
theorem dX0_callVowsAtNoon_15 : decode cX0_callVowsAtNoon 15 = .ok (.getfield 11, 3) := by decide +kernel
theorem dX0_callVowsAtNoon_18 : decode cX0_callVowsAtNoon 18 = .ok (.aload_n 0, 1) := by decide +kernel
theorem dX0_callVowsAtNoon_19 : decode cX0_callVowsAtNoon 19 = .ok (.getfield 17, 3) := by decide +kernel
theorem dX0_callVowsAtNoon_22 : decode cX0_callVowsAtNoon 22 = .ok (.iload_n 2, 1) := by decide +kernel
theorem dX0_callVowsAtNoon_23 : decode cX0_callVowsAtNoon 23 = .ok (.iaload, 1) := by decide +kernel
theorem dX0_callVowsAtNoon_24 : decode cX0_callVowsAtNoon 24 = .ok (.aaload, 1) := by decide +kernel
theorem dX0_callVowsAtNoon_25 : decode cX0_callVowsAtNoon 25 = .ok (.invokevirtual 129, 3) := by decide +kernel
theorem dX0_callVowsAtNoon_28 : decode cX0_callVowsAtNoon 28 = .ok (.aload_n 0, 1) := by decide +kernel
theorem dX0_callVowsAtNoon_29 : decode cX0_callVowsAtNoon 29 = .ok (.getfield 61, 3) := by decide +kernel
theorem dX0_callVowsAtNoon_32 : decode cX0_callVowsAtNoon 32 = .ok (.bipush 24, 2) := by decide +kernel
theorem dX0_callVowsAtNoon_34 : decode cX0_callVowsAtNoon 34 = .ok (.irem, 1) := by decide +kernel
theorem dX0_callVowsAtNoon_35 : decode cX0_callVowsAtNoon 35 = .ok (.if_icmp .eq 9, 3) := by decide +kernel
theorem dX0_callVowsAtNoon_38 : decode cX0_callVowsAtNoon 38 = .ok (.iinc 2 1, 3) := by decide +kernel
theorem dX0_callVowsAtNoon_41 : decode cX0_callVowsAtNoon 41 = .ok (.goto 39, 3) := by decide +kernel
theorem dX0_callVowsAtNoon_44 : decode cX0_callVowsAtNoon 44 = .ok (.aload_n 0, 1) := by decide +kernel
theorem dX0_callVowsAtNoon_45 : decode cX0_callVowsAtNoon 45 = .ok (.invokevirtual 75, 3) := by decide +kernel
theorem dX0_callVowsAtNoon_48 : decode cX0_callVowsAtNoon 48 = .ok (.bipush 100, 2) := by decide +kernel
theorem dX0_callVowsAtNoon_50 : decode cX0_callVowsAtNoon 50 = .ok (.irem, 1) := by decide +kernel
theorem dX0_callVowsAtNoon_51 : decode cX0_callVowsAtNoon 51 = .ok (.aload_n 0, 1) := by decide +kernel
theorem dX0_callVowsAtNoon_52 : decode cX0_callVowsAtNoon 52 = .ok (.iload_n 2, 1) := by decide +kernel
theorem dX0_callVowsAtNoon_53 : decode cX0_callVowsAtNoon 53 = .ok (.invokevirtual 132, 3) := by decide +kernel
theorem dX0_callVowsAtNoon_56 : decode cX0_callVowsAtNoon 56 = .ok (.if_icmp .ge 19, 3) := by decide +kernel
theorem dX0_callVowsAtNoon_59 : decode cX0_callVowsAtNoon 59 = .ok (.aload_n 0, 1) := by decide +kernel
theorem dX0_callVowsAtNoon_60 : decode cX0_callVowsAtNoon 60 = .ok (.dup, 1) := by decide +kernel
theorem dX0_callVowsAtNoon_61 : decode cX0_callVowsAtNoon 61 = .ok (.getfield 55, 3) := by decide +kernel
theorem dX0_callVowsAtNoon_64 : decode cX0_callVowsAtNoon 64 = .ok (.iconst 1, 1) := by decide +kernel
theorem dX0_callVowsAtNoon_65 : decode cX0_callVowsAtNoon 65 = .ok (.iadd, 1) := by decide +kernel
theorem dX0_callVowsAtNoon_66 : decode cX0_callVowsAtNoon 66 = .ok (.putfield 55, 3) := by decide +kernel
theorem dX0_callVowsAtNoon_69 : decode cX0_callVowsAtNoon 69 = .ok (.iinc 2 1, 3) := by decide +kernel
theorem dX0_callVowsAtNoon_72 : decode cX0_callVowsAtNoon 72 = .ok (.goto 8, 3) := by decide +kernel
theorem dX0_callVowsAtNoon_75 : decode cX0_callVowsAtNoon 75 = .ok (.aload_n 0, 1) := by decide +kernel
theorem dX0_callVowsAtNoon_76 : decode cX0_callVowsAtNoon 76 = .ok (.iload_n 2, 1) := by decide +kernel
theorem dX0_callVowsAtNoon_77 : decode cX0_callVowsAtNoon 77 = .ok (.invokevirtual 86, 3) := by decide +kernel
theorem dX0_callVowsAtNoon_80 : decode cX0_callVowsAtNoon 80 = .ok (.iinc 3 1, 3) := by decide +kernel
theorem dX0_callVowsAtNoon_83 : decode cX0_callVowsAtNoon 83 = .ok (.goto (-74), 3) := by decide +kernel
theorem dX0_callVowsAtNoon_86 : decode cX0_callVowsAtNoon 86 = .ok (.return_, 1) := by decide +kernel
theorem dX0_payDebts_0 : decode cX0_payDebts 0 = .ok (.iconst 0, 1) := by decide +kernel
theorem dX0_payDebts_1 : decode cX0_payDebts 1 = .ok (.istore_n 1, 1) := by decide +kernel
theorem dX0_payDebts_2 : decode cX0_payDebts 2 = .ok (.iload_n 1, 1) := by decide +kernel
theorem dX0_payDebts_3 : decode cX0_payDebts 3 = .ok (.aload_n 0, 1) := by decide +kernel
theorem dX0_payDebts_4 : decode cX0_payDebts 4 = .ok (.getfield 46, 3) := by decide +kernel
theorem dX0_payDebts_7 : decode cX0_payDebts 7 = .ok (.if_icmp .ge 65, 3) := by decide +kernel
theorem dX0_payDebts_10 : decode cX0_payDebts 10 = .ok (.aload_n 0, 1) := by decide +kernel
theorem dX0_payDebts_11 : decode cX0_payDebts 11 = .ok (.getfield 24, 3) := by decide +kernel
theorem dX0_payDebts_14 : decode cX0_payDebts 14 = .ok (.iload_n 1, 1) := by decide +kernel
theorem dX0_payDebts_15 : decode cX0_payDebts 15 = .ok (.iaload, 1) := by decide +kernel
theorem dX0_payDebts_16 : decode cX0_payDebts 16 = .ok (.iconst 2, 1) := by decide +kernel
theorem dX0_payDebts_17 : decode cX0_payDebts 17 = .ok (.if_icmp .ne 49, 3) := by decide +kernel
theorem dX0_payDebts_20 : decode cX0_payDebts 20 = .ok (.aload_n 0, 1) := by decide +kernel
theorem dX0_payDebts_21 : decode cX0_payDebts 21 = .ok (.getfield 11, 3) := by decide +kernel
theorem dX0_payDebts_24 : decode cX0_payDebts 24 = .ok (.aload_n 0, 1) := by decide +kernel
theorem dX0_payDebts_25 : decode cX0_payDebts 25 = .ok (.getfield 17, 3) := by decide +kernel
theorem dX0_payDebts_28 : decode cX0_payDebts 28 = .ok (.iload_n 1, 1) := by decide +kernel
theorem dX0_payDebts_29 : decode cX0_payDebts 29 = .ok (.iaload, 1) := by decide +kernel
theorem dX0_payDebts_30 : decode cX0_payDebts 30 = .ok (.aaload, 1) := by decide +kernel
theorem dX0_payDebts_31 : decode cX0_payDebts 31 = .ok (.invokevirtual 135, 3) := by decide +kernel
theorem dX0_payDebts_34 : decode cX0_payDebts 34 = .ok (.istore_n 2, 1) := by decide +kernel
theorem dX0_payDebts_35 : decode cX0_payDebts 35 = .ok (.aload_n 0, 1) := by decide +kernel
theorem dX0_payDebts_36 : decode cX0_payDebts 36 = .ok (.getfield 11, 3) := by decide +kernel
theorem dX0_payDebts_39 : decode cX0_payDebts 39 = .ok (.aload_n 0, 1) := by decide +kernel
theorem dX0_payDebts_40 : decode cX0_payDebts 40 = .ok (.getfield 17, 3) := by decide +kernel
theorem dX0_payDebts_43 : decode cX0_payDebts 43 = .ok (.iload_n 1, 1) := by decide +kernel
theorem dX0_payDebts_44 : decode cX0_payDebts 44 = .ok (.iaload, 1) := by decide +kernel
theorem dX0_payDebts_45 : decode cX0_payDebts 45 = .ok (.aaload, 1) := by decide +kernel
theorem dX0_payDebts_46 : decode cX0_payDebts 46 = .ok (.iload_n 2, 1) := by decide +kernel
theorem dX0_payDebts_47 : decode cX0_payDebts 47 = .ok (.ineg, 1) := by decide +kernel
theorem dX0_payDebts_48 : decode cX0_payDebts 48 = .ok (.invokevirtual 138, 3) := by decide +kernel
theorem dX0_payDebts_51 : decode cX0_payDebts 51 = .ok (.aload_n 0, 1) := by decide +kernel
theorem dX0_payDebts_52 : decode cX0_payDebts 52 = .ok (.getfield 11, 3) := by decide +kernel
theorem dX0_payDebts_55 : decode cX0_payDebts 55 = .ok (.aload_n 0, 1) := by decide +kernel
theorem dX0_payDebts_56 : decode cX0_payDebts 56 = .ok (.getfield 21, 3) := by decide +kernel
theorem dX0_payDebts_59 : decode cX0_payDebts 59 = .ok (.iload_n 1, 1) := by decide +kernel
theorem dX0_payDebts_60 : decode cX0_payDebts 60 = .ok (.iaload, 1) := by decide +kernel
theorem dX0_payDebts_61 : decode cX0_payDebts 61 = .ok (.aaload, 1) := by decide +kernel
theorem dX0_payDebts_62 : decode cX0_payDebts 62 = .ok (.iload_n 2, 1) := by decide +kernel
theorem dX0_payDebts_63 : decode cX0_payDebts 63 = .ok (.invokevirtual 138, 3) := by decide +kernel
theorem dX0_payDebts_66 : decode cX0_payDebts 66 = .ok (.iinc 1 1, 3) := by decide +kernel
theorem dX0_payDebts_69 : decode cX0_payDebts 69 = .ok (.goto (-67), 3) := by decide +kernel
theorem dX0_payDebts_72 : decode cX0_payDebts 72 = .ok (.return_, 1) := by decide +kernel
theorem dX0_givers_0 : decode cX0_givers 0 = .ok (.aload_n 0, 1) := by decide +kernel
theorem dX0_givers_1 : decode cX0_givers 1 = .ok (.aload_n 0, 1) := by decide +kernel
theorem dX0_givers_2 : decode cX0_givers 2 = .ok (.getfield 17, 3) := by decide +kernel
theorem dX0_givers_5 : decode cX0_givers 5 = .ok (.invokevirtual 141, 3) := by decide +kernel
theorem dX0_givers_8 : decode cX0_givers 8 = .ok (.ireturn, 1) := by decide +kernel
theorem dX0_takers_0 : decode cX0_takers 0 = .ok (.aload_n 0, 1) := by decide +kernel
theorem dX0_takers_1 : decode cX0_takers 1 = .ok (.aload_n 0, 1) := by decide +kernel
theorem dX0_takers_2 : decode cX0_takers 2 = .ok (.getfield 21, 3) := by decide +kernel
theorem dX0_takers_5 : decode cX0_takers 5 = .ok (.invokevirtual 141, 3) := by decide +kernel
theorem dX0_takers_8 : decode cX0_takers 8 = .ok (.ireturn, 1) := by decide +kernel
theorem dX0_bitsOf_0 : decode cX0_bitsOf 0 = .ok (.iconst 0, 1) := by decide +kernel
theorem dX0_bitsOf_1 : decode cX0_bitsOf 1 = .ok (.istore_n 2, 1) := by decide +kernel
theorem dX0_bitsOf_2 : decode cX0_bitsOf 2 = .ok (.iconst 0, 1) := by decide +kernel
theorem dX0_bitsOf_3 : decode cX0_bitsOf 3 = .ok (.istore_n 3, 1) := by decide +kernel
theorem dX0_bitsOf_4 : decode cX0_bitsOf 4 = .ok (.iload_n 3, 1) := by decide +kernel
theorem dX0_bitsOf_5 : decode cX0_bitsOf 5 = .ok (.aload_n 0, 1) := by decide +kernel
theorem dX0_bitsOf_6 : decode cX0_bitsOf 6 = .ok (.getfield 46, 3) := by decide +kernel
theorem dX0_bitsOf_9 : decode cX0_bitsOf 9 = .ok (.if_icmp .ge 17, 3) := by decide +kernel
theorem dX0_bitsOf_12 : decode cX0_bitsOf 12 = .ok (.iload_n 2, 1) := by decide +kernel
theorem dX0_bitsOf_13 : decode cX0_bitsOf 13 = .ok (.iconst 1, 1) := by decide +kernel
theorem dX0_bitsOf_14 : decode cX0_bitsOf 14 = .ok (.aload_n 1, 1) := by decide +kernel
theorem dX0_bitsOf_15 : decode cX0_bitsOf 15 = .ok (.iload_n 3, 1) := by decide +kernel
theorem dX0_bitsOf_16 : decode cX0_bitsOf 16 = .ok (.iaload, 1) := by decide +kernel
theorem dX0_bitsOf_17 : decode cX0_bitsOf 17 = .ok (.ishl, 1) := by decide +kernel
theorem dX0_bitsOf_18 : decode cX0_bitsOf 18 = .ok (.ior, 1) := by decide +kernel
theorem dX0_bitsOf_19 : decode cX0_bitsOf 19 = .ok (.istore_n 2, 1) := by decide +kernel
theorem dX0_bitsOf_20 : decode cX0_bitsOf 20 = .ok (.iinc 3 1, 3) := by decide +kernel
theorem dX0_bitsOf_23 : decode cX0_bitsOf 23 = .ok (.goto (-19), 3) := by decide +kernel
theorem dX0_bitsOf_26 : decode cX0_bitsOf 26 = .ok (.iload_n 2, 1) := by decide +kernel
theorem dX0_bitsOf_27 : decode cX0_bitsOf 27 = .ok (.ireturn, 1) := by decide +kernel
theorem dX0_longestChain_0 : decode cX0_longestChain 0 = .ok (.iconst 0, 1) := by decide +kernel
theorem dX0_longestChain_1 : decode cX0_longestChain 1 = .ok (.istore_n 1, 1) := by decide +kernel
theorem dX0_longestChain_2 : decode cX0_longestChain 2 = .ok (.iconst 0, 1) := by decide +kernel
theorem dX0_longestChain_3 : decode cX0_longestChain 3 = .ok (.istore_n 2, 1) := by decide +kernel
theorem dX0_longestChain_4 : decode cX0_longestChain 4 = .ok (.iload_n 2, 1) := by decide +kernel
theorem dX0_longestChain_5 : decode cX0_longestChain 5 = .ok (.aload_n 0, 1) := by decide +kernel
theorem dX0_longestChain_6 : decode cX0_longestChain 6 = .ok (.getfield 39, 3) := by decide +kernel
theorem dX0_longestChain_9 : decode cX0_longestChain 9 = .ok (.if_icmp .ge 22, 3) := by decide +kernel
theorem dX0_longestChain_12 : decode cX0_longestChain 12 = .ok (.iload_n 1, 1) := by decide +kernel
theorem dX0_longestChain_13 : decode cX0_longestChain 13 = .ok (.aload_n 0, 1) := by decide +kernel
theorem dX0_longestChain_14 : decode cX0_longestChain 14 = .ok (.iload_n 2, 1) := by decide +kernel
theorem dX0_longestChain_15 : decode cX0_longestChain 15 = .ok (.iconst 1, 1) := by decide +kernel
theorem dX0_longestChain_16 : decode cX0_longestChain 16 = .ok (.iload_n 2, 1) := by decide +kernel
theorem dX0_longestChain_17 : decode cX0_longestChain 17 = .ok (.ishl, 1) := by decide +kernel
theorem dX0_longestChain_18 : decode cX0_longestChain 18 = .ok (.invokestatic 145, 3) := by decide +kernel
theorem dX0_longestChain_21 : decode cX0_longestChain 21 = .ok (.invokestatic 101, 3) := by decide +kernel
theorem dX0_longestChain_24 : decode cX0_longestChain 24 = .ok (.istore_n 1, 1) := by decide +kernel
theorem dX0_longestChain_25 : decode cX0_longestChain 25 = .ok (.iinc 2 1, 3) := by decide +kernel
theorem dX0_longestChain_28 : decode cX0_longestChain 28 = .ok (.goto (-24), 3) := by decide +kernel
theorem dX0_longestChain_31 : decode cX0_longestChain 31 = .ok (.iload_n 1, 1) := by decide +kernel
theorem dX0_longestChain_32 : decode cX0_longestChain 32 = .ok (.ireturn, 1) := by decide +kernel
theorem dX0_longestChainFrom_0 : decode cX0_longestChainFrom 0 = .ok (.iconst 0, 1) := by decide +kernel
theorem dX0_longestChainFrom_1 : decode cX0_longestChainFrom 1 = .ok (.istore_n 3, 1) := by decide +kernel
theorem dX0_longestChainFrom_2 : decode cX0_longestChainFrom 2 = .ok (.iconst 0, 1) := by decide +kernel
theorem dX0_longestChainFrom_3 : decode cX0_longestChainFrom 3 = .ok (.istore 4, 2) := by decide +kernel
theorem dX0_longestChainFrom_5 : decode cX0_longestChainFrom 5 = .ok (.iload 4, 2) := by decide +kernel
theorem dX0_longestChainFrom_7 : decode cX0_longestChainFrom 7 = .ok (.aload_n 0, 1) := by decide +kernel
theorem dX0_longestChainFrom_8 : decode cX0_longestChainFrom 8 = .ok (.getfield 46, 3) := by decide +kernel
theorem dX0_longestChainFrom_11 : decode cX0_longestChainFrom 11 = .ok (.if_icmp .ge 57, 3) := by decide +kernel
theorem dX0_longestChainFrom_14 : decode cX0_longestChainFrom 14 = .ok (.aload_n 0, 1) := by decide +kernel
theorem dX0_longestChainFrom_15 : decode cX0_longestChainFrom 15 = .ok (.getfield 21, 3) := by decide +kernel
theorem dX0_longestChainFrom_18 : decode cX0_longestChainFrom 18 = .ok (.iload 4, 2) := by decide +kernel
theorem dX0_longestChainFrom_20 : decode cX0_longestChainFrom 20 = .ok (.iaload, 1) := by decide +kernel
theorem dX0_longestChainFrom_21 : decode cX0_longestChainFrom 21 = .ok (.istore 5, 2) := by decide +kernel
theorem dX0_longestChainFrom_23 : decode cX0_longestChainFrom 23 = .ok (.aload_n 0, 1) := by decide +kernel
theorem dX0_longestChainFrom_24 : decode cX0_longestChainFrom 24 = .ok (.getfield 17, 3) := by decide +kernel
theorem dX0_longestChainFrom_27 : decode cX0_longestChainFrom 27 = .ok (.iload 4, 2) := by decide +kernel
theorem dX0_longestChainFrom_29 : decode cX0_longestChainFrom 29 = .ok (.iaload, 1) := by decide +kernel
theorem dX0_longestChainFrom_30 : decode cX0_longestChainFrom 30 = .ok (.iload_n 1, 1) := by decide +kernel
theorem dX0_longestChainFrom_31 : decode cX0_longestChainFrom 31 = .ok (.if_icmp .ne 31, 3) := by decide +kernel
theorem dX0_longestChainFrom_34 : decode cX0_longestChainFrom 34 = .ok (.iload_n 2, 1) := by decide +kernel
theorem dX0_longestChainFrom_35 : decode cX0_longestChainFrom 35 = .ok (.iconst 1, 1) := by decide +kernel
theorem dX0_longestChainFrom_36 : decode cX0_longestChainFrom 36 = .ok (.iload 5, 2) := by decide +kernel
theorem dX0_longestChainFrom_38 : decode cX0_longestChainFrom 38 = .ok (.ishl, 1) := by decide +kernel
theorem dX0_longestChainFrom_39 : decode cX0_longestChainFrom 39 = .ok (.iand, 1) := by decide +kernel
theorem dX0_longestChainFrom_40 : decode cX0_longestChainFrom 40 = .ok (.ifCond .ne 22, 3) := by decide +kernel
theorem dX0_longestChainFrom_43 : decode cX0_longestChainFrom 43 = .ok (.iload_n 3, 1) := by decide +kernel
theorem dX0_longestChainFrom_44 : decode cX0_longestChainFrom 44 = .ok (.iconst 1, 1) := by decide +kernel
theorem dX0_longestChainFrom_45 : decode cX0_longestChainFrom 45 = .ok (.aload_n 0, 1) := by decide +kernel
theorem dX0_longestChainFrom_46 : decode cX0_longestChainFrom 46 = .ok (.iload 5, 2) := by decide +kernel
theorem dX0_longestChainFrom_48 : decode cX0_longestChainFrom 48 = .ok (.iload_n 2, 1) := by decide +kernel
theorem dX0_longestChainFrom_49 : decode cX0_longestChainFrom 49 = .ok (.iconst 1, 1) := by decide +kernel
theorem dX0_longestChainFrom_50 : decode cX0_longestChainFrom 50 = .ok (.iload 5, 2) := by decide +kernel
theorem dX0_longestChainFrom_52 : decode cX0_longestChainFrom 52 = .ok (.ishl, 1) := by decide +kernel
theorem dX0_longestChainFrom_53 : decode cX0_longestChainFrom 53 = .ok (.ior, 1) := by decide +kernel
theorem dX0_longestChainFrom_54 : decode cX0_longestChainFrom 54 = .ok (.invokestatic 145, 3) := by decide +kernel
theorem dX0_longestChainFrom_57 : decode cX0_longestChainFrom 57 = .ok (.iadd, 1) := by decide +kernel
theorem dX0_longestChainFrom_58 : decode cX0_longestChainFrom 58 = .ok (.invokestatic 101, 3) := by decide +kernel
theorem dX0_longestChainFrom_61 : decode cX0_longestChainFrom 61 = .ok (.istore_n 3, 1) := by decide +kernel
theorem dX0_longestChainFrom_62 : decode cX0_longestChainFrom 62 = .ok (.iinc 4 1, 3) := by decide +kernel
theorem dX0_longestChainFrom_65 : decode cX0_longestChainFrom 65 = .ok (.goto (-60), 3) := by decide +kernel
theorem dX0_longestChainFrom_68 : decode cX0_longestChainFrom 68 = .ok (.iload_n 3, 1) := by decide +kernel
theorem dX0_longestChainFrom_69 : decode cX0_longestChainFrom 69 = .ok (.ireturn, 1) := by decide +kernel
theorem dX0_fewestVowsBetween_0 : decode cX0_fewestVowsBetween 0 = .ok (.iconst 1, 1) := by decide +kernel
theorem dX0_fewestVowsBetween_1 : decode cX0_fewestVowsBetween 1 = .ok (.iload_n 1, 1) := by decide +kernel
theorem dX0_fewestVowsBetween_2 : decode cX0_fewestVowsBetween 2 = .ok (.ishl, 1) := by decide +kernel
theorem dX0_fewestVowsBetween_3 : decode cX0_fewestVowsBetween 3 = .ok (.istore_n 3, 1) := by decide +kernel
theorem dX0_fewestVowsBetween_4 : decode cX0_fewestVowsBetween 4 = .ok (.iconst 0, 1) := by decide +kernel
theorem dX0_fewestVowsBetween_5 : decode cX0_fewestVowsBetween 5 = .ok (.istore 4, 2) := by decide +kernel
theorem dX0_fewestVowsBetween_7 : decode cX0_fewestVowsBetween 7 = .ok (.iload 4, 2) := by decide +kernel
theorem dX0_fewestVowsBetween_9 : decode cX0_fewestVowsBetween 9 = .ok (.bipush 10, 2) := by decide +kernel
theorem dX0_fewestVowsBetween_11 : decode cX0_fewestVowsBetween 11 = .ok (.if_icmp .ge 74, 3) := by decide +kernel
theorem dX0_fewestVowsBetween_14 : decode cX0_fewestVowsBetween 14 = .ok (.iload_n 3, 1) := by decide +kernel
theorem dX0_fewestVowsBetween_15 : decode cX0_fewestVowsBetween 15 = .ok (.iconst 1, 1) := by decide +kernel
theorem dX0_fewestVowsBetween_16 : decode cX0_fewestVowsBetween 16 = .ok (.iload_n 2, 1) := by decide +kernel
theorem dX0_fewestVowsBetween_17 : decode cX0_fewestVowsBetween 17 = .ok (.ishl, 1) := by decide +kernel
theorem dX0_fewestVowsBetween_18 : decode cX0_fewestVowsBetween 18 = .ok (.iand, 1) := by decide +kernel
theorem dX0_fewestVowsBetween_19 : decode cX0_fewestVowsBetween 19 = .ok (.ifCond .eq 6, 3) := by decide +kernel
theorem dX0_fewestVowsBetween_22 : decode cX0_fewestVowsBetween 22 = .ok (.iload 4, 2) := by decide +kernel
theorem dX0_fewestVowsBetween_24 : decode cX0_fewestVowsBetween 24 = .ok (.ireturn, 1) := by decide +kernel
theorem dX0_fewestVowsBetween_25 : decode cX0_fewestVowsBetween 25 = .ok (.iconst 0, 1) := by decide +kernel
theorem dX0_fewestVowsBetween_26 : decode cX0_fewestVowsBetween 26 = .ok (.istore 5, 2) := by decide +kernel
theorem dX0_fewestVowsBetween_28 : decode cX0_fewestVowsBetween 28 = .ok (.iconst 0, 1) := by decide +kernel
theorem dX0_fewestVowsBetween_29 : decode cX0_fewestVowsBetween 29 = .ok (.istore 6, 2) := by decide +kernel
theorem dX0_fewestVowsBetween_31 : decode cX0_fewestVowsBetween 31 = .ok (.iload 6, 2) := by decide +kernel
theorem dX0_fewestVowsBetween_33 : decode cX0_fewestVowsBetween 33 = .ok (.aload_n 0, 1) := by decide +kernel
theorem dX0_fewestVowsBetween_34 : decode cX0_fewestVowsBetween 34 = .ok (.getfield 46, 3) := by decide +kernel
theorem dX0_fewestVowsBetween_37 : decode cX0_fewestVowsBetween 37 = .ok (.if_icmp .ge 37, 3) := by decide +kernel
theorem dX0_fewestVowsBetween_40 : decode cX0_fewestVowsBetween 40 = .ok (.iload_n 3, 1) := by decide +kernel
theorem dX0_fewestVowsBetween_41 : decode cX0_fewestVowsBetween 41 = .ok (.iconst 1, 1) := by decide +kernel
theorem dX0_fewestVowsBetween_42 : decode cX0_fewestVowsBetween 42 = .ok (.aload_n 0, 1) := by decide +kernel
theorem dX0_fewestVowsBetween_43 : decode cX0_fewestVowsBetween 43 = .ok (.getfield 17, 3) := by decide +kernel
theorem dX0_fewestVowsBetween_46 : decode cX0_fewestVowsBetween 46 = .ok (.iload 6, 2) := by decide +kernel
theorem dX0_fewestVowsBetween_48 : decode cX0_fewestVowsBetween 48 = .ok (.iaload, 1) := by decide +kernel
theorem dX0_fewestVowsBetween_49 : decode cX0_fewestVowsBetween 49 = .ok (.ishl, 1) := by decide +kernel
theorem dX0_fewestVowsBetween_50 : decode cX0_fewestVowsBetween 50 = .ok (.iand, 1) := by decide +kernel
theorem dX0_fewestVowsBetween_51 : decode cX0_fewestVowsBetween 51 = .ok (.ifCond .eq 17, 3) := by decide +kernel
theorem dX0_fewestVowsBetween_54 : decode cX0_fewestVowsBetween 54 = .ok (.iload 5, 2) := by decide +kernel
theorem dX0_fewestVowsBetween_56 : decode cX0_fewestVowsBetween 56 = .ok (.iconst 1, 1) := by decide +kernel
theorem dX0_fewestVowsBetween_57 : decode cX0_fewestVowsBetween 57 = .ok (.aload_n 0, 1) := by decide +kernel
theorem dX0_fewestVowsBetween_58 : decode cX0_fewestVowsBetween 58 = .ok (.getfield 21, 3) := by decide +kernel
theorem dX0_fewestVowsBetween_61 : decode cX0_fewestVowsBetween 61 = .ok (.iload 6, 2) := by decide +kernel
theorem dX0_fewestVowsBetween_63 : decode cX0_fewestVowsBetween 63 = .ok (.iaload, 1) := by decide +kernel
theorem dX0_fewestVowsBetween_64 : decode cX0_fewestVowsBetween 64 = .ok (.ishl, 1) := by decide +kernel
theorem dX0_fewestVowsBetween_65 : decode cX0_fewestVowsBetween 65 = .ok (.ior, 1) := by decide +kernel
theorem dX0_fewestVowsBetween_66 : decode cX0_fewestVowsBetween 66 = .ok (.istore 5, 2) := by decide +kernel
theorem dX0_fewestVowsBetween_68 : decode cX0_fewestVowsBetween 68 = .ok (.iinc 6 1, 3) := by decide +kernel
theorem dX0_fewestVowsBetween_71 : decode cX0_fewestVowsBetween 71 = .ok (.goto (-40), 3) := by decide +kernel
theorem dX0_fewestVowsBetween_74 : decode cX0_fewestVowsBetween 74 = .ok (.iload_n 3, 1) := by decide +kernel
theorem dX0_fewestVowsBetween_75 : decode cX0_fewestVowsBetween 75 = .ok (.iload 5, 2) := by decide +kernel
theorem dX0_fewestVowsBetween_77 : decode cX0_fewestVowsBetween 77 = .ok (.ior, 1) := by decide +kernel
theorem dX0_fewestVowsBetween_78 : decode cX0_fewestVowsBetween 78 = .ok (.istore_n 3, 1) := by decide +kernel
theorem dX0_fewestVowsBetween_79 : decode cX0_fewestVowsBetween 79 = .ok (.iinc 4 1, 3) := by decide +kernel
theorem dX0_fewestVowsBetween_82 : decode cX0_fewestVowsBetween 82 = .ok (.goto (-75), 3) := by decide +kernel
theorem dX0_fewestVowsBetween_85 : decode cX0_fewestVowsBetween 85 = .ok (.ldc 149, 2) := by decide +kernel
theorem dX0_fewestVowsBetween_87 : decode cX0_fewestVowsBetween 87 = .ok (.ireturn, 1) := by decide +kernel
theorem dX1_init_0 : decode cX1_init 0 = .ok (.aload_n 0, 1) := by decide +kernel
theorem dX1_init_1 : decode cX1_init 1 = .ok (.invokespecial 3, 3) := by decide +kernel
theorem dX1_init_4 : decode cX1_init 4 = .ok (.aload_n 0, 1) := by decide +kernel
theorem dX1_init_5 : decode cX1_init 5 = .ok (.bipush 96, 2) := by decide +kernel
theorem dX1_init_7 : decode cX1_init 7 = .ok (.newarray .short, 2) := by decide +kernel
theorem dX1_init_9 : decode cX1_init 9 = .ok (.putfield 9, 3) := by decide +kernel
theorem dX1_init_12 : decode cX1_init 12 = .ok (.return_, 1) := by decide +kernel
theorem dX1_startAnew_0 : decode cX1_startAnew 0 = .ok (.aload_n 0, 1) := by decide +kernel
theorem dX1_startAnew_1 : decode cX1_startAnew 1 = .ok (.iconst 0, 1) := by decide +kernel
theorem dX1_startAnew_2 : decode cX1_startAnew 2 = .ok (.putfield 15, 3) := by decide +kernel
theorem dX1_startAnew_5 : decode cX1_startAnew 5 = .ok (.aload_n 0, 1) := by decide +kernel
theorem dX1_startAnew_6 : decode cX1_startAnew 6 = .ok (.iconst 0, 1) := by decide +kernel
theorem dX1_startAnew_7 : decode cX1_startAnew 7 = .ok (.putfield 19, 3) := by decide +kernel
theorem dX1_startAnew_10 : decode cX1_startAnew 10 = .ok (.return_, 1) := by decide +kernel
theorem dX1_addNumber_0 : decode cX1_addNumber 0 = .ok (.aload_n 0, 1) := by decide +kernel
theorem dX1_addNumber_1 : decode cX1_addNumber 1 = .ok (.iload_n 1, 1) := by decide +kernel
theorem dX1_addNumber_2 : decode cX1_addNumber 2 = .ok (.invokevirtual 22, 3) := by decide +kernel
theorem dX1_addNumber_5 : decode cX1_addNumber 5 = .ok (.aload_n 0, 1) := by decide +kernel
theorem dX1_addNumber_6 : decode cX1_addNumber 6 = .ok (.dup, 1) := by decide +kernel
theorem dX1_addNumber_7 : decode cX1_addNumber 7 = .ok (.getfield 15, 3) := by decide +kernel
theorem dX1_addNumber_10 : decode cX1_addNumber 10 = .ok (.iconst 1, 1) := by decide +kernel
theorem dX1_addNumber_11 : decode cX1_addNumber 11 = .ok (.iadd, 1) := by decide +kernel
theorem dX1_addNumber_12 : decode cX1_addNumber 12 = .ok (.putfield 15, 3) := by decide +kernel
theorem dX1_addNumber_15 : decode cX1_addNumber 15 = .ok (.return_, 1) := by decide +kernel
theorem dX1_addName_0 : decode cX1_addName 0 = .ok (.aload_n 0, 1) := by decide +kernel
theorem dX1_addName_1 : decode cX1_addName 1 = .ok (.iconst (-1), 1) := by decide +kernel
theorem dX1_addName_2 : decode cX1_addName 2 = .ok (.iload_n 1, 1) := by decide +kernel
theorem dX1_addName_3 : decode cX1_addName 3 = .ok (.isub, 1) := by decide +kernel
theorem dX1_addName_4 : decode cX1_addName 4 = .ok (.invokevirtual 22, 3) := by decide +kernel
theorem dX1_addName_7 : decode cX1_addName 7 = .ok (.aload_n 0, 1) := by decide +kernel
theorem dX1_addName_8 : decode cX1_addName 8 = .ok (.dup, 1) := by decide +kernel
theorem dX1_addName_9 : decode cX1_addName 9 = .ok (.getfield 15, 3) := by decide +kernel
theorem dX1_addName_12 : decode cX1_addName 12 = .ok (.iconst 1, 1) := by decide +kernel
theorem dX1_addName_13 : decode cX1_addName 13 = .ok (.iadd, 1) := by decide +kernel
theorem dX1_addName_14 : decode cX1_addName 14 = .ok (.putfield 15, 3) := by decide +kernel
theorem dX1_addName_17 : decode cX1_addName 17 = .ok (.return_, 1) := by decide +kernel
theorem dX1_addSign_0 : decode cX1_addSign 0 = .ok (.aload_n 0, 1) := by decide +kernel
theorem dX1_addSign_1 : decode cX1_addSign 1 = .ok (.iload_n 1, 1) := by decide +kernel
theorem dX1_addSign_2 : decode cX1_addSign 2 = .ok (.ineg, 1) := by decide +kernel
theorem dX1_addSign_3 : decode cX1_addSign 3 = .ok (.invokevirtual 22, 3) := by decide +kernel
theorem dX1_addSign_6 : decode cX1_addSign 6 = .ok (.return_, 1) := by decide +kernel
theorem dX1_put_0 : decode cX1_put 0 = .ok (.aload_n 0, 1) := by decide +kernel
theorem dX1_put_1 : decode cX1_put 1 = .ok (.getfield 19, 3) := by decide +kernel
theorem dX1_put_4 : decode cX1_put 4 = .ok (.bipush 96, 2) := by decide +kernel
theorem dX1_put_6 : decode cX1_put 6 = .ok (.if_icmp .ge 24, 3) := by decide +kernel
theorem dX1_put_9 : decode cX1_put 9 = .ok (.aload_n 0, 1) := by decide +kernel
theorem dX1_put_10 : decode cX1_put 10 = .ok (.getfield 9, 3) := by decide +kernel
theorem dX1_put_13 : decode cX1_put 13 = .ok (.aload_n 0, 1) := by decide +kernel
theorem dX1_put_14 : decode cX1_put 14 = .ok (.getfield 19, 3) := by decide +kernel
theorem dX1_put_17 : decode cX1_put 17 = .ok (.iload_n 1, 1) := by decide +kernel
theorem dX1_put_18 : decode cX1_put 18 = .ok (.i2s, 1) := by decide +kernel
theorem dX1_put_19 : decode cX1_put 19 = .ok (.sastore, 1) := by decide +kernel
theorem dX1_put_20 : decode cX1_put 20 = .ok (.aload_n 0, 1) := by decide +kernel
theorem dX1_put_21 : decode cX1_put 21 = .ok (.dup, 1) := by decide +kernel
theorem dX1_put_22 : decode cX1_put 22 = .ok (.getfield 19, 3) := by decide +kernel
theorem dX1_put_25 : decode cX1_put 25 = .ok (.iconst 1, 1) := by decide +kernel
theorem dX1_put_26 : decode cX1_put 26 = .ok (.iadd, 1) := by decide +kernel
theorem dX1_put_27 : decode cX1_put 27 = .ok (.putfield 19, 3) := by decide +kernel
theorem dX1_put_30 : decode cX1_put 30 = .ok (.return_, 1) := by decide +kernel
theorem dX2_init_0 : decode cX2_init 0 = .ok (.aload_n 0, 1) := by decide +kernel
theorem dX2_init_1 : decode cX2_init 1 = .ok (.invokespecial 3, 3) := by decide +kernel
theorem dX2_init_4 : decode cX2_init 4 = .ok (.aload_n 0, 1) := by decide +kernel
theorem dX2_init_5 : decode cX2_init 5 = .ok (.bipush 15, 2) := by decide +kernel
theorem dX2_init_7 : decode cX2_init 7 = .ok (.anewarray 9, 3) := by decide +kernel
theorem dX2_init_10 : decode cX2_init 10 = .ok (.putfield 11, 3) := by decide +kernel
theorem dX2_init_13 : decode cX2_init 13 = .ok (.aload_n 0, 1) := by decide +kernel
theorem dX2_init_14 : decode cX2_init 14 = .ok (.bipush 96, 2) := by decide +kernel
theorem dX2_init_16 : decode cX2_init 16 = .ok (.newarray .int, 2) := by decide +kernel
theorem dX2_init_18 : decode cX2_init 18 = .ok (.putfield 17, 3) := by decide +kernel
theorem dX2_init_21 : decode cX2_init 21 = .ok (.iconst 0, 1) := by decide +kernel
theorem dX2_init_22 : decode cX2_init 22 = .ok (.istore_n 1, 1) := by decide +kernel
theorem dX2_init_23 : decode cX2_init 23 = .ok (.iload_n 1, 1) := by decide +kernel
theorem dX2_init_24 : decode cX2_init 24 = .ok (.bipush 14, 2) := by decide +kernel
theorem dX2_init_26 : decode cX2_init 26 = .ok (.if_icmp .gt 22, 3) := by decide +kernel
theorem dX2_init_29 : decode cX2_init 29 = .ok (.aload_n 0, 1) := by decide +kernel
theorem dX2_init_30 : decode cX2_init 30 = .ok (.getfield 11, 3) := by decide +kernel
theorem dX2_init_33 : decode cX2_init 33 = .ok (.iload_n 1, 1) := by decide +kernel
theorem dX2_init_34 : decode cX2_init 34 = .ok (.new 9, 3) := by decide +kernel
theorem dX2_init_37 : decode cX2_init 37 = .ok (.dup, 1) := by decide +kernel
theorem dX2_init_38 : decode cX2_init 38 = .ok (.invokespecial 21, 3) := by decide +kernel
theorem dX2_init_41 : decode cX2_init 41 = .ok (.aastore, 1) := by decide +kernel
theorem dX2_init_42 : decode cX2_init 42 = .ok (.iinc 1 1, 3) := by decide +kernel
theorem dX2_init_45 : decode cX2_init 45 = .ok (.goto (-22), 3) := by decide +kernel
theorem dX2_init_48 : decode cX2_init 48 = .ok (.return_, 1) := by decide +kernel
theorem dX2_gives_0 : decode cX2_gives 0 = .ok (.aload_n 0, 1) := by decide +kernel
theorem dX2_gives_1 : decode cX2_gives 1 = .ok (.getfield 11, 3) := by decide +kernel
theorem dX2_gives_4 : decode cX2_gives 4 = .ok (.iload_n 1, 1) := by decide +kernel
theorem dX2_gives_5 : decode cX2_gives 5 = .ok (.aaload, 1) := by decide +kernel
theorem dX2_gives_6 : decode cX2_gives 6 = .ok (.astore 5, 2) := by decide +kernel
theorem dX2_gives_8 : decode cX2_gives 8 = .ok (.iconst 0, 1) := by decide +kernel
theorem dX2_gives_9 : decode cX2_gives 9 = .ok (.istore 6, 2) := by decide +kernel
theorem dX2_gives_11 : decode cX2_gives 11 = .ok (.iconst 0, 1) := by decide +kernel
theorem dX2_gives_12 : decode cX2_gives 12 = .ok (.istore 7, 2) := by decide +kernel
theorem dX2_gives_14 : decode cX2_gives 14 = .ok (.iload 7, 2) := by decide +kernel
theorem dX2_gives_16 : decode cX2_gives 16 = .ok (.aload 5, 2) := by decide +kernel
theorem dX2_gives_18 : decode cX2_gives 18 = .ok (.getfield 22, 3) := by decide +kernel
theorem dX2_gives_21 : decode cX2_gives 21 = .ok (.if_icmp .ge 154, 3) := by decide +kernel
theorem dX2_gives_24 : decode cX2_gives 24 = .ok (.aload 5, 2) := by decide +kernel
theorem dX2_gives_26 : decode cX2_gives 26 = .ok (.getfield 26, 3) := by decide +kernel
theorem dX2_gives_29 : decode cX2_gives 29 = .ok (.iload 7, 2) := by decide +kernel
theorem dX2_gives_31 : decode cX2_gives 31 = .ok (.saload, 1) := by decide +kernel
theorem dX2_gives_32 : decode cX2_gives 32 = .ok (.istore 8, 2) := by decide +kernel
theorem dX2_gives_34 : decode cX2_gives 34 = .ok (.iload 8, 2) := by decide +kernel
theorem dX2_gives_36 : decode cX2_gives 36 = .ok (.bipush (-3), 2) := by decide +kernel
theorem dX2_gives_38 : decode cX2_gives 38 = .ok (.if_icmp .lt 49, 3) := by decide +kernel
theorem dX2_gives_41 : decode cX2_gives 41 = .ok (.aload_n 0, 1) := by decide +kernel
theorem dX2_gives_42 : decode cX2_gives 42 = .ok (.getfield 17, 3) := by decide +kernel
theorem dX2_gives_45 : decode cX2_gives 45 = .ok (.iload 6, 2) := by decide +kernel
theorem dX2_gives_47 : decode cX2_gives 47 = .ok (.iload 8, 2) := by decide +kernel
theorem dX2_gives_49 : decode cX2_gives 49 = .ok (.ifCond .lt 8, 3) := by decide +kernel
theorem dX2_gives_52 : decode cX2_gives 52 = .ok (.iload 8, 2) := by decide +kernel
theorem dX2_gives_54 : decode cX2_gives 54 = .ok (.goto 26, 3) := by decide +kernel
theorem dX2_gives_57 : decode cX2_gives 57 = .ok (.iload 8, 2) := by decide +kernel
theorem dX2_gives_59 : decode cX2_gives 59 = .ok (.iconst (-1), 1) := by decide +kernel
theorem dX2_gives_60 : decode cX2_gives 60 = .ok (.if_icmp .ne 7, 3) := by decide +kernel
theorem dX2_gives_63 : decode cX2_gives 63 = .ok (.iload_n 2, 1) := by decide +kernel
theorem dX2_gives_64 : decode cX2_gives 64 = .ok (.goto 16, 3) := by decide +kernel
theorem dX2_gives_67 : decode cX2_gives 67 = .ok (.iload 8, 2) := by decide +kernel
theorem dX2_gives_69 : decode cX2_gives 69 = .ok (.bipush (-2), 2) := by decide +kernel
theorem dX2_gives_71 : decode cX2_gives 71 = .ok (.if_icmp .ne 7, 3) := by decide +kernel
theorem dX2_gives_74 : decode cX2_gives 74 = .ok (.iload_n 3, 1) := by decide +kernel
theorem dX2_gives_75 : decode cX2_gives 75 = .ok (.goto 5, 3) := by decide +kernel
theorem dX2_gives_78 : decode cX2_gives 78 = .ok (.iload 4, 2) := by decide +kernel
theorem dX2_gives_80 : decode cX2_gives 80 = .ok (.iastore, 1) := by decide +kernel
theorem dX2_gives_81 : decode cX2_gives 81 = .ok (.iinc 6 1, 3) := by decide +kernel
theorem dX2_gives_84 : decode cX2_gives 84 = .ok (.goto 85, 3) := by decide +kernel
theorem dX2_gives_87 : decode cX2_gives 87 = .ok (.iload 8, 2) := by decide +kernel
theorem dX2_gives_89 : decode cX2_gives 89 = .ok (.bipush (-33), 2) := by decide +kernel
theorem dX2_gives_91 : decode cX2_gives 91 = .ok (.if_icmp .ne 37, 3) := by decide +kernel
theorem dX2_gives_94 : decode cX2_gives 94 = .ok (.iload 6, 2) := by decide +kernel
theorem dX2_gives_96 : decode cX2_gives 96 = .ok (.ifCond .le 32, 3) := by decide +kernel
theorem dX2_gives_99 : decode cX2_gives 99 = .ok (.aload_n 0, 1) := by decide +kernel
theorem dX2_gives_100 : decode cX2_gives 100 = .ok (.getfield 17, 3) := by decide +kernel
theorem dX2_gives_103 : decode cX2_gives 103 = .ok (.iload 6, 2) := by decide +kernel
theorem dX2_gives_105 : decode cX2_gives 105 = .ok (.iconst 1, 1) := by decide +kernel
theorem dX2_gives_106 : decode cX2_gives 106 = .ok (.isub, 1) := by decide +kernel
theorem dX2_gives_107 : decode cX2_gives 107 = .ok (.aload_n 0, 1) := by decide +kernel
theorem dX2_gives_108 : decode cX2_gives 108 = .ok (.getfield 17, 3) := by decide +kernel
theorem dX2_gives_111 : decode cX2_gives 111 = .ok (.iload 6, 2) := by decide +kernel
theorem dX2_gives_113 : decode cX2_gives 113 = .ok (.iconst 1, 1) := by decide +kernel
theorem dX2_gives_114 : decode cX2_gives 114 = .ok (.isub, 1) := by decide +kernel
theorem dX2_gives_115 : decode cX2_gives 115 = .ok (.iaload, 1) := by decide +kernel
theorem dX2_gives_116 : decode cX2_gives 116 = .ok (.ifCond .ne 7, 3) := by decide +kernel
theorem dX2_gives_119 : decode cX2_gives 119 = .ok (.iconst 1, 1) := by decide +kernel
theorem dX2_gives_120 : decode cX2_gives 120 = .ok (.goto 4, 3) := by decide +kernel
theorem dX2_gives_123 : decode cX2_gives 123 = .ok (.iconst 0, 1) := by decide +kernel
theorem dX2_gives_124 : decode cX2_gives 124 = .ok (.iastore, 1) := by decide +kernel
theorem dX2_gives_125 : decode cX2_gives 125 = .ok (.goto 44, 3) := by decide +kernel
theorem dX2_gives_128 : decode cX2_gives 128 = .ok (.iload 6, 2) := by decide +kernel
theorem dX2_gives_130 : decode cX2_gives 130 = .ok (.iconst 1, 1) := by decide +kernel
theorem dX2_gives_131 : decode cX2_gives 131 = .ok (.if_icmp .le 38, 3) := by decide +kernel
theorem dX2_gives_134 : decode cX2_gives 134 = .ok (.iinc 6 (-1), 3) := by decide +kernel
theorem dX2_gives_137 : decode cX2_gives 137 = .ok (.aload_n 0, 1) := by decide +kernel
theorem dX2_gives_138 : decode cX2_gives 138 = .ok (.getfield 17, 3) := by decide +kernel
theorem dX2_gives_141 : decode cX2_gives 141 = .ok (.iload 6, 2) := by decide +kernel
theorem dX2_gives_143 : decode cX2_gives 143 = .ok (.iconst 1, 1) := by decide +kernel
theorem dX2_gives_144 : decode cX2_gives 144 = .ok (.isub, 1) := by decide +kernel
theorem dX2_gives_145 : decode cX2_gives 145 = .ok (.iload 8, 2) := by decide +kernel
theorem dX2_gives_147 : decode cX2_gives 147 = .ok (.ineg, 1) := by decide +kernel
theorem dX2_gives_148 : decode cX2_gives 148 = .ok (.i2c, 1) := by decide +kernel
theorem dX2_gives_149 : decode cX2_gives 149 = .ok (.aload_n 0, 1) := by decide +kernel
theorem dX2_gives_150 : decode cX2_gives 150 = .ok (.getfield 17, 3) := by decide +kernel
theorem dX2_gives_153 : decode cX2_gives 153 = .ok (.iload 6, 2) := by decide +kernel
theorem dX2_gives_155 : decode cX2_gives 155 = .ok (.iconst 1, 1) := by decide +kernel
theorem dX2_gives_156 : decode cX2_gives 156 = .ok (.isub, 1) := by decide +kernel
theorem dX2_gives_157 : decode cX2_gives 157 = .ok (.iaload, 1) := by decide +kernel
theorem dX2_gives_158 : decode cX2_gives 158 = .ok (.aload_n 0, 1) := by decide +kernel
theorem dX2_gives_159 : decode cX2_gives 159 = .ok (.getfield 17, 3) := by decide +kernel
theorem dX2_gives_162 : decode cX2_gives 162 = .ok (.iload 6, 2) := by decide +kernel
theorem dX2_gives_164 : decode cX2_gives 164 = .ok (.iaload, 1) := by decide +kernel
theorem dX2_gives_165 : decode cX2_gives 165 = .ok (.invokestatic 30, 3) := by decide +kernel
theorem dX2_gives_168 : decode cX2_gives 168 = .ok (.iastore, 1) := by decide +kernel
theorem dX2_gives_169 : decode cX2_gives 169 = .ok (.iinc 7 1, 3) := by decide +kernel
theorem dX2_gives_172 : decode cX2_gives 172 = .ok (.goto (-158), 3) := by decide +kernel
theorem dX2_gives_175 : decode cX2_gives 175 = .ok (.aload_n 0, 1) := by decide +kernel
theorem dX2_gives_176 : decode cX2_gives 176 = .ok (.getfield 17, 3) := by decide +kernel
theorem dX2_gives_179 : decode cX2_gives 179 = .ok (.iconst 0, 1) := by decide +kernel
theorem dX2_gives_180 : decode cX2_gives 180 = .ok (.iaload, 1) := by decide +kernel
theorem dX2_gives_181 : decode cX2_gives 181 = .ok (.ireturn, 1) := by decide +kernel
theorem dX2_join_0 : decode cX2_join 0 = .ok (.iload_n 0, 1) := by decide +kernel
theorem dX2_join_1 : decode cX2_join 1 = .ok (.lookupswitch 148 #[(38, 89), (42, 144), (43, 136), (45, 140), (60, 103), (61, 114), (62, 125), (124, 75)], 75) := by decide +kernel
theorem dX2_join_76 : decode cX2_join 76 = .ok (.iload_n 1, 1) := by decide +kernel
theorem dX2_join_77 : decode cX2_join 77 = .ok (.ifCond .ne 7, 3) := by decide +kernel
theorem dX2_join_80 : decode cX2_join 80 = .ok (.iload_n 2, 1) := by decide +kernel
theorem dX2_join_81 : decode cX2_join 81 = .ok (.ifCond .eq 7, 3) := by decide +kernel
theorem dX2_join_84 : decode cX2_join 84 = .ok (.iconst 1, 1) := by decide +kernel
theorem dX2_join_85 : decode cX2_join 85 = .ok (.goto 4, 3) := by decide +kernel
theorem dX2_join_88 : decode cX2_join 88 = .ok (.iconst 0, 1) := by decide +kernel
theorem dX2_join_89 : decode cX2_join 89 = .ok (.ireturn, 1) := by decide +kernel
theorem dX2_join_90 : decode cX2_join 90 = .ok (.iload_n 1, 1) := by decide +kernel
theorem dX2_join_91 : decode cX2_join 91 = .ok (.ifCond .eq 11, 3) := by decide +kernel
theorem dX2_join_94 : decode cX2_join 94 = .ok (.iload_n 2, 1) := by decide +kernel
theorem dX2_join_95 : decode cX2_join 95 = .ok (.ifCond .eq 7, 3) := by decide +kernel
theorem dX2_join_98 : decode cX2_join 98 = .ok (.iconst 1, 1) := by decide +kernel
theorem dX2_join_99 : decode cX2_join 99 = .ok (.goto 4, 3) := by decide +kernel
theorem dX2_join_102 : decode cX2_join 102 = .ok (.iconst 0, 1) := by decide +kernel
theorem dX2_join_103 : decode cX2_join 103 = .ok (.ireturn, 1) := by decide +kernel
theorem dX2_join_104 : decode cX2_join 104 = .ok (.iload_n 1, 1) := by decide +kernel
theorem dX2_join_105 : decode cX2_join 105 = .ok (.iload_n 2, 1) := by decide +kernel
theorem dX2_join_106 : decode cX2_join 106 = .ok (.if_icmp .ge 7, 3) := by decide +kernel
theorem dX2_join_109 : decode cX2_join 109 = .ok (.iconst 1, 1) := by decide +kernel
theorem dX2_join_110 : decode cX2_join 110 = .ok (.goto 4, 3) := by decide +kernel
theorem dX2_join_113 : decode cX2_join 113 = .ok (.iconst 0, 1) := by decide +kernel
theorem dX2_join_114 : decode cX2_join 114 = .ok (.ireturn, 1) := by decide +kernel
theorem dX2_join_115 : decode cX2_join 115 = .ok (.iload_n 1, 1) := by decide +kernel
theorem dX2_join_116 : decode cX2_join 116 = .ok (.iload_n 2, 1) := by decide +kernel
theorem dX2_join_117 : decode cX2_join 117 = .ok (.if_icmp .ne 7, 3) := by decide +kernel
theorem dX2_join_120 : decode cX2_join 120 = .ok (.iconst 1, 1) := by decide +kernel
theorem dX2_join_121 : decode cX2_join 121 = .ok (.goto 4, 3) := by decide +kernel
theorem dX2_join_124 : decode cX2_join 124 = .ok (.iconst 0, 1) := by decide +kernel
theorem dX2_join_125 : decode cX2_join 125 = .ok (.ireturn, 1) := by decide +kernel
theorem dX2_join_126 : decode cX2_join 126 = .ok (.iload_n 1, 1) := by decide +kernel
theorem dX2_join_127 : decode cX2_join 127 = .ok (.iload_n 2, 1) := by decide +kernel
theorem dX2_join_128 : decode cX2_join 128 = .ok (.if_icmp .le 7, 3) := by decide +kernel
theorem dX2_join_131 : decode cX2_join 131 = .ok (.iconst 1, 1) := by decide +kernel
theorem dX2_join_132 : decode cX2_join 132 = .ok (.goto 4, 3) := by decide +kernel
theorem dX2_join_135 : decode cX2_join 135 = .ok (.iconst 0, 1) := by decide +kernel
theorem dX2_join_136 : decode cX2_join 136 = .ok (.ireturn, 1) := by decide +kernel
theorem dX2_join_137 : decode cX2_join 137 = .ok (.iload_n 1, 1) := by decide +kernel
theorem dX2_join_138 : decode cX2_join 138 = .ok (.iload_n 2, 1) := by decide +kernel
theorem dX2_join_139 : decode cX2_join 139 = .ok (.iadd, 1) := by decide +kernel
theorem dX2_join_140 : decode cX2_join 140 = .ok (.ireturn, 1) := by decide +kernel
theorem dX2_join_141 : decode cX2_join 141 = .ok (.iload_n 1, 1) := by decide +kernel
theorem dX2_join_142 : decode cX2_join 142 = .ok (.iload_n 2, 1) := by decide +kernel
theorem dX2_join_143 : decode cX2_join 143 = .ok (.isub, 1) := by decide +kernel
theorem dX2_join_144 : decode cX2_join 144 = .ok (.ireturn, 1) := by decide +kernel
theorem dX2_join_145 : decode cX2_join 145 = .ok (.iload_n 1, 1) := by decide +kernel
theorem dX2_join_146 : decode cX2_join 146 = .ok (.iload_n 2, 1) := by decide +kernel
theorem dX2_join_147 : decode cX2_join 147 = .ok (.imul, 1) := by decide +kernel
theorem dX2_join_148 : decode cX2_join 148 = .ok (.ireturn, 1) := by decide +kernel
theorem dX2_join_149 : decode cX2_join 149 = .ok (.iload_n 2, 1) := by decide +kernel
theorem dX2_join_150 : decode cX2_join 150 = .ok (.ifCond .ne 7, 3) := by decide +kernel
theorem dX2_join_153 : decode cX2_join 153 = .ok (.iconst 0, 1) := by decide +kernel
theorem dX2_join_154 : decode cX2_join 154 = .ok (.goto 6, 3) := by decide +kernel
theorem dX2_join_157 : decode cX2_join 157 = .ok (.iload_n 1, 1) := by decide +kernel
theorem dX2_join_158 : decode cX2_join 158 = .ok (.iload_n 2, 1) := by decide +kernel
theorem dX2_join_159 : decode cX2_join 159 = .ok (.idiv, 1) := by decide +kernel
theorem dX2_join_160 : decode cX2_join 160 = .ok (.ireturn, 1) := by decide +kernel
theorem dX3_init_0 : decode cX3_init 0 = .ok (.aload_n 0, 1) := by decide +kernel
theorem dX3_init_1 : decode cX3_init 1 = .ok (.invokespecial 3, 3) := by decide +kernel
theorem dX3_init_4 : decode cX3_init 4 = .ok (.return_, 1) := by decide +kernel
theorem dX3_comes_0 : decode cX3_comes 0 = .ok (.aload_n 0, 1) := by decide +kernel
theorem dX3_comes_1 : decode cX3_comes 1 = .ok (.iload_n 1, 1) := by decide +kernel
theorem dX3_comes_2 : decode cX3_comes 2 = .ok (.putfield 9, 3) := by decide +kernel
theorem dX3_comes_5 : decode cX3_comes 5 = .ok (.aload_n 0, 1) := by decide +kernel
theorem dX3_comes_6 : decode cX3_comes 6 = .ok (.iload_n 2, 1) := by decide +kernel
theorem dX3_comes_7 : decode cX3_comes 7 = .ok (.putfield 15, 3) := by decide +kernel
theorem dX3_comes_10 : decode cX3_comes 10 = .ok (.aload_n 0, 1) := by decide +kernel
theorem dX3_comes_11 : decode cX3_comes 11 = .ok (.iload_n 3, 1) := by decide +kernel
theorem dX3_comes_12 : decode cX3_comes 12 = .ok (.putfield 18, 3) := by decide +kernel
theorem dX3_comes_15 : decode cX3_comes 15 = .ok (.aload_n 0, 1) := by decide +kernel
theorem dX3_comes_16 : decode cX3_comes 16 = .ok (.iconst 0, 1) := by decide +kernel
theorem dX3_comes_17 : decode cX3_comes 17 = .ok (.putfield 21, 3) := by decide +kernel
theorem dX3_comes_20 : decode cX3_comes 20 = .ok (.aload_n 0, 1) := by decide +kernel
theorem dX3_comes_21 : decode cX3_comes 21 = .ok (.iconst (-1), 1) := by decide +kernel
theorem dX3_comes_22 : decode cX3_comes 22 = .ok (.putfield 24, 3) := by decide +kernel
theorem dX3_comes_25 : decode cX3_comes 25 = .ok (.return_, 1) := by decide +kernel
theorem dX3_becomes_0 : decode cX3_becomes 0 = .ok (.aload_n 0, 1) := by decide +kernel
theorem dX3_becomes_1 : decode cX3_becomes 1 = .ok (.aload_n 1, 1) := by decide +kernel
theorem dX3_becomes_2 : decode cX3_becomes 2 = .ok (.getfield 9, 3) := by decide +kernel
theorem dX3_becomes_5 : decode cX3_becomes 5 = .ok (.putfield 9, 3) := by decide +kernel
theorem dX3_becomes_8 : decode cX3_becomes 8 = .ok (.aload_n 0, 1) := by decide +kernel
theorem dX3_becomes_9 : decode cX3_becomes 9 = .ok (.aload_n 1, 1) := by decide +kernel
theorem dX3_becomes_10 : decode cX3_becomes 10 = .ok (.getfield 15, 3) := by decide +kernel
theorem dX3_becomes_13 : decode cX3_becomes 13 = .ok (.putfield 15, 3) := by decide +kernel
theorem dX3_becomes_16 : decode cX3_becomes 16 = .ok (.aload_n 0, 1) := by decide +kernel
theorem dX3_becomes_17 : decode cX3_becomes 17 = .ok (.aload_n 1, 1) := by decide +kernel
theorem dX3_becomes_18 : decode cX3_becomes 18 = .ok (.getfield 18, 3) := by decide +kernel
theorem dX3_becomes_21 : decode cX3_becomes 21 = .ok (.putfield 18, 3) := by decide +kernel
theorem dX3_becomes_24 : decode cX3_becomes 24 = .ok (.aload_n 0, 1) := by decide +kernel
theorem dX3_becomes_25 : decode cX3_becomes 25 = .ok (.aload_n 1, 1) := by decide +kernel
theorem dX3_becomes_26 : decode cX3_becomes 26 = .ok (.getfield 21, 3) := by decide +kernel
theorem dX3_becomes_29 : decode cX3_becomes 29 = .ok (.putfield 21, 3) := by decide +kernel
theorem dX3_becomes_32 : decode cX3_becomes 32 = .ok (.aload_n 0, 1) := by decide +kernel
theorem dX3_becomes_33 : decode cX3_becomes 33 = .ok (.aload_n 1, 1) := by decide +kernel
theorem dX3_becomes_34 : decode cX3_becomes 34 = .ok (.getfield 24, 3) := by decide +kernel
theorem dX3_becomes_37 : decode cX3_becomes 37 = .ok (.putfield 24, 3) := by decide +kernel
theorem dX3_becomes_40 : decode cX3_becomes 40 = .ok (.return_, 1) := by decide +kernel
theorem dX3_changeEast_0 : decode cX3_changeEast 0 = .ok (.aload_n 0, 1) := by decide +kernel
theorem dX3_changeEast_1 : decode cX3_changeEast 1 = .ok (.getfield 15, 3) := by decide +kernel
theorem dX3_changeEast_4 : decode cX3_changeEast 4 = .ok (.istore_n 2, 1) := by decide +kernel
theorem dX3_changeEast_5 : decode cX3_changeEast 5 = .ok (.aload_n 0, 1) := by decide +kernel
theorem dX3_changeEast_6 : decode cX3_changeEast 6 = .ok (.iload_n 1, 1) := by decide +kernel
theorem dX3_changeEast_7 : decode cX3_changeEast 7 = .ok (.putfield 15, 3) := by decide +kernel
theorem dX3_changeEast_10 : decode cX3_changeEast 10 = .ok (.iload_n 2, 1) := by decide +kernel
theorem dX3_changeEast_11 : decode cX3_changeEast 11 = .ok (.ireturn, 1) := by decide +kernel
theorem dX3_changeFaith_0 : decode cX3_changeFaith 0 = .ok (.aload_n 0, 1) := by decide +kernel
theorem dX3_changeFaith_1 : decode cX3_changeFaith 1 = .ok (.getfield 18, 3) := by decide +kernel
theorem dX3_changeFaith_4 : decode cX3_changeFaith 4 = .ok (.istore_n 2, 1) := by decide +kernel
theorem dX3_changeFaith_5 : decode cX3_changeFaith 5 = .ok (.aload_n 0, 1) := by decide +kernel
theorem dX3_changeFaith_6 : decode cX3_changeFaith 6 = .ok (.iload_n 1, 1) := by decide +kernel
theorem dX3_changeFaith_7 : decode cX3_changeFaith 7 = .ok (.putfield 18, 3) := by decide +kernel
theorem dX3_changeFaith_10 : decode cX3_changeFaith 10 = .ok (.iload_n 2, 1) := by decide +kernel
theorem dX3_changeFaith_11 : decode cX3_changeFaith 11 = .ok (.ireturn, 1) := by decide +kernel
theorem dX3_changePurse_0 : decode cX3_changePurse 0 = .ok (.aload_n 0, 1) := by decide +kernel
theorem dX3_changePurse_1 : decode cX3_changePurse 1 = .ok (.getfield 21, 3) := by decide +kernel
theorem dX3_changePurse_4 : decode cX3_changePurse 4 = .ok (.istore_n 2, 1) := by decide +kernel
theorem dX3_changePurse_5 : decode cX3_changePurse 5 = .ok (.aload_n 0, 1) := by decide +kernel
theorem dX3_changePurse_6 : decode cX3_changePurse 6 = .ok (.iload_n 1, 1) := by decide +kernel
theorem dX3_changePurse_7 : decode cX3_changePurse 7 = .ok (.putfield 21, 3) := by decide +kernel
theorem dX3_changePurse_10 : decode cX3_changePurse 10 = .ok (.iload_n 2, 1) := by decide +kernel
theorem dX3_changePurse_11 : decode cX3_changePurse 11 = .ok (.ireturn, 1) := by decide +kernel
theorem dX3_receive_0 : decode cX3_receive 0 = .ok (.aload_n 0, 1) := by decide +kernel
theorem dX3_receive_1 : decode cX3_receive 1 = .ok (.aload_n 0, 1) := by decide +kernel
theorem dX3_receive_2 : decode cX3_receive 2 = .ok (.getfield 21, 3) := by decide +kernel
theorem dX3_receive_5 : decode cX3_receive 5 = .ok (.iload_n 1, 1) := by decide +kernel
theorem dX3_receive_6 : decode cX3_receive 6 = .ok (.iadd, 1) := by decide +kernel
theorem dX3_receive_7 : decode cX3_receive 7 = .ok (.sipush (-9999), 3) := by decide +kernel
theorem dX3_receive_10 : decode cX3_receive 10 = .ok (.sipush 9999, 3) := by decide +kernel
theorem dX3_receive_13 : decode cX3_receive 13 = .ok (.invokestatic 27, 3) := by decide +kernel
theorem dX3_receive_16 : decode cX3_receive 16 = .ok (.putfield 21, 3) := by decide +kernel
theorem dX3_receive_19 : decode cX3_receive 19 = .ok (.return_, 1) := by decide +kernel
theorem dX3_isOf_0 : decode cX3_isOf 0 = .ok (.aload_n 0, 1) := by decide +kernel
theorem dX3_isOf_1 : decode cX3_isOf 1 = .ok (.getfield 9, 3) := by decide +kernel
theorem dX3_isOf_4 : decode cX3_isOf 4 = .ok (.istore_n 2, 1) := by decide +kernel
theorem dX3_isOf_5 : decode cX3_isOf 5 = .ok (.iconst 0, 1) := by decide +kernel
theorem dX3_isOf_6 : decode cX3_isOf 6 = .ok (.istore_n 3, 1) := by decide +kernel
theorem dX3_isOf_7 : decode cX3_isOf 7 = .ok (.iload_n 3, 1) := by decide +kernel
theorem dX3_isOf_8 : decode cX3_isOf 8 = .ok (.bipush 6, 2) := by decide +kernel
theorem dX3_isOf_10 : decode cX3_isOf 10 = .ok (.if_icmp .ge 26, 3) := by decide +kernel
theorem dX3_isOf_13 : decode cX3_isOf 13 = .ok (.iload_n 2, 1) := by decide +kernel
theorem dX3_isOf_14 : decode cX3_isOf 14 = .ok (.ifCond .lt 22, 3) := by decide +kernel
theorem dX3_isOf_17 : decode cX3_isOf 17 = .ok (.iload_n 2, 1) := by decide +kernel
theorem dX3_isOf_18 : decode cX3_isOf 18 = .ok (.iload_n 1, 1) := by decide +kernel
theorem dX3_isOf_19 : decode cX3_isOf 19 = .ok (.if_icmp .ne 5, 3) := by decide +kernel
theorem dX3_isOf_22 : decode cX3_isOf 22 = .ok (.iconst 1, 1) := by decide +kernel
theorem dX3_isOf_23 : decode cX3_isOf 23 = .ok (.ireturn, 1) := by decide +kernel
theorem dX3_isOf_24 : decode cX3_isOf 24 = .ok (.getstatic 31, 3) := by decide +kernel
theorem dX3_isOf_27 : decode cX3_isOf 27 = .ok (.iload_n 2, 1) := by decide +kernel
theorem dX3_isOf_28 : decode cX3_isOf 28 = .ok (.iaload, 1) := by decide +kernel
theorem dX3_isOf_29 : decode cX3_isOf 29 = .ok (.istore_n 2, 1) := by decide +kernel
theorem dX3_isOf_30 : decode cX3_isOf 30 = .ok (.iinc 3 1, 3) := by decide +kernel
theorem dX3_isOf_33 : decode cX3_isOf 33 = .ok (.goto (-26), 3) := by decide +kernel
theorem dX3_isOf_36 : decode cX3_isOf 36 = .ok (.iconst 0, 1) := by decide +kernel
theorem dX3_isOf_37 : decode cX3_isOf 37 = .ok (.ireturn, 1) := by decide +kernel
theorem dX3_noon_0 : decode cX3_noon 0 = .ok (.bipush 12, 2) := by decide +kernel
theorem dX3_noon_2 : decode cX3_noon 2 = .ok (.aload_n 0, 1) := by decide +kernel
theorem dX3_noon_3 : decode cX3_noon 3 = .ok (.getfield 15, 3) := by decide +kernel
theorem dX3_noon_6 : decode cX3_noon 6 = .ok (.iadd, 1) := by decide +kernel
theorem dX3_noon_7 : decode cX3_noon 7 = .ok (.getstatic 35, 3) := by decide +kernel
theorem dX3_noon_10 : decode cX3_noon 10 = .ok (.aload_n 0, 1) := by decide +kernel
theorem dX3_noon_11 : decode cX3_noon 11 = .ok (.getfield 9, 3) := by decide +kernel
theorem dX3_noon_14 : decode cX3_noon 14 = .ok (.iaload, 1) := by decide +kernel
theorem dX3_noon_15 : decode cX3_noon 15 = .ok (.iadd, 1) := by decide +kernel
theorem dX3_noon_16 : decode cX3_noon 16 = .ok (.bipush 24, 2) := by decide +kernel
theorem dX3_noon_18 : decode cX3_noon 18 = .ok (.irem, 1) := by decide +kernel
theorem dX3_noon_19 : decode cX3_noon 19 = .ok (.ireturn, 1) := by decide +kernel
theorem dX3_pays_0 : decode cX3_pays 0 = .ok (.getstatic 38, 3) := by decide +kernel
theorem dX3_pays_3 : decode cX3_pays 3 = .ok (.aload_n 0, 1) := by decide +kernel
theorem dX3_pays_4 : decode cX3_pays 4 = .ok (.getfield 9, 3) := by decide +kernel
theorem dX3_pays_7 : decode cX3_pays 7 = .ok (.iaload, 1) := by decide +kernel
theorem dX3_pays_8 : decode cX3_pays 8 = .ok (.ireturn, 1) := by decide +kernel
theorem dX3_worth_0 : decode cX3_worth 0 = .ok (.aload_n 0, 1) := by decide +kernel
theorem dX3_worth_1 : decode cX3_worth 1 = .ok (.getfield 9, 3) := by decide +kernel
theorem dX3_worth_4 : decode cX3_worth 4 = .ok (.tableswitch 74 1 5 #[36, 54, 44, 62, 72], 36) := by decide +kernel
theorem dX3_worth_40 : decode cX3_worth 40 = .ok (.aload_n 0, 1) := by decide +kernel
theorem dX3_worth_41 : decode cX3_worth 41 = .ok (.getfield 18, 3) := by decide +kernel
theorem dX3_worth_44 : decode cX3_worth 44 = .ok (.bipush 6, 2) := by decide +kernel
theorem dX3_worth_46 : decode cX3_worth 46 = .ok (.iadd, 1) := by decide +kernel
theorem dX3_worth_47 : decode cX3_worth 47 = .ok (.ireturn, 1) := by decide +kernel
theorem dX3_worth_48 : decode cX3_worth 48 = .ok (.iconst 2, 1) := by decide +kernel
theorem dX3_worth_49 : decode cX3_worth 49 = .ok (.aload_n 0, 1) := by decide +kernel
theorem dX3_worth_50 : decode cX3_worth 50 = .ok (.getfield 18, 3) := by decide +kernel
theorem dX3_worth_53 : decode cX3_worth 53 = .ok (.bipush 6, 2) := by decide +kernel
theorem dX3_worth_55 : decode cX3_worth 55 = .ok (.iadd, 1) := by decide +kernel
theorem dX3_worth_56 : decode cX3_worth 56 = .ok (.imul, 1) := by decide +kernel
theorem dX3_worth_57 : decode cX3_worth 57 = .ok (.ireturn, 1) := by decide +kernel
theorem dX3_worth_58 : decode cX3_worth 58 = .ok (.bipush 99, 2) := by decide +kernel
theorem dX3_worth_60 : decode cX3_worth 60 = .ok (.aload_n 0, 1) := by decide +kernel
theorem dX3_worth_61 : decode cX3_worth 61 = .ok (.getfield 18, 3) := by decide +kernel
theorem dX3_worth_64 : decode cX3_worth 64 = .ok (.isub, 1) := by decide +kernel
theorem dX3_worth_65 : decode cX3_worth 65 = .ok (.ireturn, 1) := by decide +kernel
theorem dX3_worth_66 : decode cX3_worth 66 = .ok (.bipush 99, 2) := by decide +kernel
theorem dX3_worth_68 : decode cX3_worth 68 = .ok (.aload_n 0, 1) := by decide +kernel
theorem dX3_worth_69 : decode cX3_worth 69 = .ok (.getfield 18, 3) := by decide +kernel
theorem dX3_worth_72 : decode cX3_worth 72 = .ok (.isub, 1) := by decide +kernel
theorem dX3_worth_73 : decode cX3_worth 73 = .ok (.iconst 5, 1) := by decide +kernel
theorem dX3_worth_74 : decode cX3_worth 74 = .ok (.isub, 1) := by decide +kernel
theorem dX3_worth_75 : decode cX3_worth 75 = .ok (.ireturn, 1) := by decide +kernel
theorem dX3_worth_76 : decode cX3_worth 76 = .ok (.iconst 1, 1) := by decide +kernel
theorem dX3_worth_77 : decode cX3_worth 77 = .ok (.ireturn, 1) := by decide +kernel
theorem dX3_worth_78 : decode cX3_worth 78 = .ok (.aload_n 0, 1) := by decide +kernel
theorem dX3_worth_79 : decode cX3_worth 79 = .ok (.getfield 18, 3) := by decide +kernel
theorem dX3_worth_82 : decode cX3_worth 82 = .ok (.ireturn, 1) := by decide +kernel
theorem dX3_keepsFrom_0 : decode cX3_keepsFrom 0 = .ok (.bipush 100, 2) := by decide +kernel
theorem dX3_keepsFrom_2 : decode cX3_keepsFrom 2 = .ok (.iload_n 1, 1) := by decide +kernel
theorem dX3_keepsFrom_3 : decode cX3_keepsFrom 3 = .ok (.bipush 10, 2) := by decide +kernel
theorem dX3_keepsFrom_5 : decode cX3_keepsFrom 5 = .ok (.iadd, 1) := by decide +kernel
theorem dX3_keepsFrom_6 : decode cX3_keepsFrom 6 = .ok (.invokestatic 41, 3) := by decide +kernel
theorem dX3_keepsFrom_9 : decode cX3_keepsFrom 9 = .ok (.istore_n 2, 1) := by decide +kernel
theorem dX3_keepsFrom_10 : decode cX3_keepsFrom 10 = .ok (.iconst 0, 1) := by decide +kernel
theorem dX3_keepsFrom_11 : decode cX3_keepsFrom 11 = .ok (.iload_n 1, 1) := by decide +kernel
theorem dX3_keepsFrom_12 : decode cX3_keepsFrom 12 = .ok (.bipush 20, 2) := by decide +kernel
theorem dX3_keepsFrom_14 : decode cX3_keepsFrom 14 = .ok (.isub, 1) := by decide +kernel
theorem dX3_keepsFrom_15 : decode cX3_keepsFrom 15 = .ok (.invokestatic 47, 3) := by decide +kernel
theorem dX3_keepsFrom_18 : decode cX3_keepsFrom 18 = .ok (.istore_n 3, 1) := by decide +kernel
theorem dX3_keepsFrom_19 : decode cX3_keepsFrom 19 = .ok (.aload_n 0, 1) := by decide +kernel
theorem dX3_keepsFrom_20 : decode cX3_keepsFrom 20 = .ok (.getfield 9, 3) := by decide +kernel
theorem dX3_keepsFrom_23 : decode cX3_keepsFrom 23 = .ok (.tableswitch 53 1 5 #[33, 39, 35, 41, 51], 33) := by decide +kernel
theorem dX3_keepsFrom_56 : decode cX3_keepsFrom 56 = .ok (.iload_n 2, 1) := by decide +kernel
theorem dX3_keepsFrom_57 : decode cX3_keepsFrom 57 = .ok (.ireturn, 1) := by decide +kernel
theorem dX3_keepsFrom_58 : decode cX3_keepsFrom 58 = .ok (.iload_n 2, 1) := by decide +kernel
theorem dX3_keepsFrom_59 : decode cX3_keepsFrom 59 = .ok (.iconst 2, 1) := by decide +kernel
theorem dX3_keepsFrom_60 : decode cX3_keepsFrom 60 = .ok (.idiv, 1) := by decide +kernel
theorem dX3_keepsFrom_61 : decode cX3_keepsFrom 61 = .ok (.ireturn, 1) := by decide +kernel
theorem dX3_keepsFrom_62 : decode cX3_keepsFrom 62 = .ok (.iload_n 3, 1) := by decide +kernel
theorem dX3_keepsFrom_63 : decode cX3_keepsFrom 63 = .ok (.ireturn, 1) := by decide +kernel
theorem dX3_keepsFrom_64 : decode cX3_keepsFrom 64 = .ok (.bipush 100, 2) := by decide +kernel
theorem dX3_keepsFrom_66 : decode cX3_keepsFrom 66 = .ok (.iload_n 3, 1) := by decide +kernel
theorem dX3_keepsFrom_67 : decode cX3_keepsFrom 67 = .ok (.bipush 30, 2) := by decide +kernel
theorem dX3_keepsFrom_69 : decode cX3_keepsFrom 69 = .ok (.iadd, 1) := by decide +kernel
theorem dX3_keepsFrom_70 : decode cX3_keepsFrom 70 = .ok (.invokestatic 41, 3) := by decide +kernel
theorem dX3_keepsFrom_73 : decode cX3_keepsFrom 73 = .ok (.ireturn, 1) := by decide +kernel
theorem dX3_keepsFrom_74 : decode cX3_keepsFrom 74 = .ok (.iconst 0, 1) := by decide +kernel
theorem dX3_keepsFrom_75 : decode cX3_keepsFrom 75 = .ok (.ireturn, 1) := by decide +kernel
theorem dX3_keepsFrom_76 : decode cX3_keepsFrom 76 = .ok (.iload_n 1, 1) := by decide +kernel
theorem dX3_keepsFrom_77 : decode cX3_keepsFrom 77 = .ok (.ireturn, 1) := by decide +kernel
theorem dX4_init_0 : decode cX4_init 0 = .ok (.aload_n 0, 1) := by decide +kernel
theorem dX4_init_1 : decode cX4_init 1 = .ok (.invokespecial 3, 3) := by decide +kernel
theorem dX4_init_4 : decode cX4_init 4 = .ok (.aload_n 0, 1) := by decide +kernel
theorem dX4_init_5 : decode cX4_init 5 = .ok (.aload_n 1, 1) := by decide +kernel
theorem dX4_init_6 : decode cX4_init 6 = .ok (.putfield 9, 3) := by decide +kernel
theorem dX4_init_9 : decode cX4_init 9 = .ok (.return_, 1) := by decide +kernel
theorem dX4_readsText_0 : decode cX4_readsText 0 = .ok (.aload_n 0, 1) := by decide +kernel
theorem dX4_readsText_1 : decode cX4_readsText 1 = .ok (.iload_n 1, 1) := by decide +kernel
theorem dX4_readsText_2 : decode cX4_readsText 2 = .ok (.putfield 15, 3) := by decide +kernel
theorem dX4_readsText_5 : decode cX4_readsText 5 = .ok (.aload_n 0, 1) := by decide +kernel
theorem dX4_readsText_6 : decode cX4_readsText 6 = .ok (.aload_n 2, 1) := by decide +kernel
theorem dX4_readsText_7 : decode cX4_readsText 7 = .ok (.putfield 19, 3) := by decide +kernel
theorem dX4_readsText_10 : decode cX4_readsText 10 = .ok (.aload_n 0, 1) := by decide +kernel
theorem dX4_readsText_11 : decode cX4_readsText 11 = .ok (.getfield 19, 3) := by decide +kernel
theorem dX4_readsText_14 : decode cX4_readsText 14 = .ok (.invokevirtual 23, 3) := by decide +kernel
theorem dX4_readsText_17 : decode cX4_readsText 17 = .ok (.aload_n 0, 1) := by decide +kernel
theorem dX4_readsText_18 : decode cX4_readsText 18 = .ok (.iconst 0, 1) := by decide +kernel
theorem dX4_readsText_19 : decode cX4_readsText 19 = .ok (.putfield 28, 3) := by decide +kernel
theorem dX4_readsText_22 : decode cX4_readsText 22 = .ok (.aload_n 0, 1) := by decide +kernel
theorem dX4_readsText_23 : decode cX4_readsText 23 = .ok (.iconst 0, 1) := by decide +kernel
theorem dX4_readsText_24 : decode cX4_readsText 24 = .ok (.putfield 31, 3) := by decide +kernel
theorem dX4_readsText_27 : decode cX4_readsText 27 = .ok (.aload_n 0, 1) := by decide +kernel
theorem dX4_readsText_28 : decode cX4_readsText 28 = .ok (.invokevirtual 34, 3) := by decide +kernel
theorem dX4_readsText_31 : decode cX4_readsText 31 = .ok (.aload_n 0, 1) := by decide +kernel
theorem dX4_readsText_32 : decode cX4_readsText 32 = .ok (.getfield 19, 3) := by decide +kernel
theorem dX4_readsText_35 : decode cX4_readsText 35 = .ok (.aload_n 0, 1) := by decide +kernel
theorem dX4_readsText_36 : decode cX4_readsText 36 = .ok (.invokevirtual 37, 3) := by decide +kernel
theorem dX4_readsText_39 : decode cX4_readsText 39 = .ok (.putfield 41, 3) := by decide +kernel
theorem dX4_readsText_42 : decode cX4_readsText 42 = .ok (.aload_n 0, 1) := by decide +kernel
theorem dX4_readsText_43 : decode cX4_readsText 43 = .ok (.getfield 19, 3) := by decide +kernel
theorem dX4_readsText_46 : decode cX4_readsText 46 = .ok (.getfield 41, 3) := by decide +kernel
theorem dX4_readsText_49 : decode cX4_readsText 49 = .ok (.ifCond .ge 5, 3) := by decide +kernel
theorem dX4_readsText_52 : decode cX4_readsText 52 = .ok (.iconst 0, 1) := by decide +kernel
theorem dX4_readsText_53 : decode cX4_readsText 53 = .ok (.ireturn, 1) := by decide +kernel
theorem dX4_readsText_54 : decode cX4_readsText 54 = .ok (.aload_n 0, 1) := by decide +kernel
theorem dX4_readsText_55 : decode cX4_readsText 55 = .ok (.invokevirtual 34, 3) := by decide +kernel
theorem dX4_readsText_58 : decode cX4_readsText 58 = .ok (.aload_n 0, 1) := by decide +kernel
theorem dX4_readsText_59 : decode cX4_readsText 59 = .ok (.iconst 0, 1) := by decide +kernel
theorem dX4_readsText_60 : decode cX4_readsText 60 = .ok (.iconst 0, 1) := by decide +kernel
theorem dX4_readsText_61 : decode cX4_readsText 61 = .ok (.iconst 0, 1) := by decide +kernel
theorem dX4_readsText_62 : decode cX4_readsText 62 = .ok (.invokevirtual 44, 3) := by decide +kernel
theorem dX4_readsText_65 : decode cX4_readsText 65 = .ok (.ifCond .eq 14, 3) := by decide +kernel
theorem dX4_readsText_68 : decode cX4_readsText 68 = .ok (.aload_n 0, 1) := by decide +kernel
theorem dX4_readsText_69 : decode cX4_readsText 69 = .ok (.getfield 28, 3) := by decide +kernel
theorem dX4_readsText_72 : decode cX4_readsText 72 = .ok (.ifCond .ne 7, 3) := by decide +kernel
theorem dX4_readsText_75 : decode cX4_readsText 75 = .ok (.iconst 1, 1) := by decide +kernel
theorem dX4_readsText_76 : decode cX4_readsText 76 = .ok (.goto 4, 3) := by decide +kernel
theorem dX4_readsText_79 : decode cX4_readsText 79 = .ok (.iconst 0, 1) := by decide +kernel
theorem dX4_readsText_80 : decode cX4_readsText 80 = .ok (.ireturn, 1) := by decide +kernel
theorem dX4_keyHere_0 : decode cX4_keyHere 0 = .ok (.aload_n 0, 1) := by decide +kernel
theorem dX4_keyHere_1 : decode cX4_keyHere 1 = .ok (.ldc 48, 2) := by decide +kernel
theorem dX4_keyHere_3 : decode cX4_keyHere 3 = .ok (.invokevirtual 50, 3) := by decide +kernel
theorem dX4_keyHere_6 : decode cX4_keyHere 6 = .ok (.ifCond .eq 5, 3) := by decide +kernel
theorem dX4_keyHere_9 : decode cX4_keyHere 9 = .ok (.iconst 0, 1) := by decide +kernel
theorem dX4_keyHere_10 : decode cX4_keyHere 10 = .ok (.ireturn, 1) := by decide +kernel
theorem dX4_keyHere_11 : decode cX4_keyHere 11 = .ok (.aload_n 0, 1) := by decide +kernel
theorem dX4_keyHere_12 : decode cX4_keyHere 12 = .ok (.ldc 54, 2) := by decide +kernel
theorem dX4_keyHere_14 : decode cX4_keyHere 14 = .ok (.invokevirtual 50, 3) := by decide +kernel
theorem dX4_keyHere_17 : decode cX4_keyHere 17 = .ok (.ifCond .eq 5, 3) := by decide +kernel
theorem dX4_keyHere_20 : decode cX4_keyHere 20 = .ok (.iconst 1, 1) := by decide +kernel
theorem dX4_keyHere_21 : decode cX4_keyHere 21 = .ok (.ireturn, 1) := by decide +kernel
theorem dX4_keyHere_22 : decode cX4_keyHere 22 = .ok (.aload_n 0, 1) := by decide +kernel
theorem dX4_keyHere_23 : decode cX4_keyHere 23 = .ok (.ldc 56, 2) := by decide +kernel
theorem dX4_keyHere_25 : decode cX4_keyHere 25 = .ok (.invokevirtual 50, 3) := by decide +kernel
theorem dX4_keyHere_28 : decode cX4_keyHere 28 = .ok (.ifCond .eq 7, 3) := by decide +kernel
theorem dX4_keyHere_31 : decode cX4_keyHere 31 = .ok (.iconst 2, 1) := by decide +kernel
theorem dX4_keyHere_32 : decode cX4_keyHere 32 = .ok (.goto 4, 3) := by decide +kernel
theorem dX4_keyHere_35 : decode cX4_keyHere 35 = .ok (.iconst (-1), 1) := by decide +kernel
theorem dX4_keyHere_36 : decode cX4_keyHere 36 = .ok (.ireturn, 1) := by decide +kernel
theorem dX4_isWordHere_0 : decode cX4_isWordHere 0 = .ok (.aload_n 0, 1) := by decide +kernel
theorem dX4_isWordHere_1 : decode cX4_isWordHere 1 = .ok (.getfield 28, 3) := by decide +kernel
theorem dX4_isWordHere_4 : decode cX4_isWordHere 4 = .ok (.iconst 1, 1) := by decide +kernel
theorem dX4_isWordHere_5 : decode cX4_isWordHere 5 = .ok (.if_icmp .ne 19, 3) := by decide +kernel
theorem dX4_isWordHere_8 : decode cX4_isWordHere 8 = .ok (.aload_n 0, 1) := by decide +kernel
theorem dX4_isWordHere_9 : decode cX4_isWordHere 9 = .ok (.getfield 31, 3) := by decide +kernel
theorem dX4_isWordHere_12 : decode cX4_isWordHere 12 = .ok (.aload_n 0, 1) := by decide +kernel
theorem dX4_isWordHere_13 : decode cX4_isWordHere 13 = .ok (.getfield 58, 3) := by decide +kernel
theorem dX4_isWordHere_16 : decode cX4_isWordHere 16 = .ok (.isub, 1) := by decide +kernel
theorem dX4_isWordHere_17 : decode cX4_isWordHere 17 = .ok (.aload_n 1, 1) := by decide +kernel
theorem dX4_isWordHere_18 : decode cX4_isWordHere 18 = .ok (.invokevirtual 61, 3) := by decide +kernel
theorem dX4_isWordHere_21 : decode cX4_isWordHere 21 = .ok (.if_icmp .eq 5, 3) := by decide +kernel
theorem dX4_isWordHere_24 : decode cX4_isWordHere 24 = .ok (.iconst 0, 1) := by decide +kernel
theorem dX4_isWordHere_25 : decode cX4_isWordHere 25 = .ok (.ireturn, 1) := by decide +kernel
theorem dX4_isWordHere_26 : decode cX4_isWordHere 26 = .ok (.iconst 0, 1) := by decide +kernel
theorem dX4_isWordHere_27 : decode cX4_isWordHere 27 = .ok (.istore_n 2, 1) := by decide +kernel
theorem dX4_isWordHere_28 : decode cX4_isWordHere 28 = .ok (.iload_n 2, 1) := by decide +kernel
theorem dX4_isWordHere_29 : decode cX4_isWordHere 29 = .ok (.aload_n 1, 1) := by decide +kernel
theorem dX4_isWordHere_30 : decode cX4_isWordHere 30 = .ok (.invokevirtual 61, 3) := by decide +kernel
theorem dX4_isWordHere_33 : decode cX4_isWordHere 33 = .ok (.if_icmp .ge 30, 3) := by decide +kernel
theorem dX4_isWordHere_36 : decode cX4_isWordHere 36 = .ok (.aload_n 0, 1) := by decide +kernel
theorem dX4_isWordHere_37 : decode cX4_isWordHere 37 = .ok (.getfield 9, 3) := by decide +kernel
theorem dX4_isWordHere_40 : decode cX4_isWordHere 40 = .ok (.aload_n 0, 1) := by decide +kernel
theorem dX4_isWordHere_41 : decode cX4_isWordHere 41 = .ok (.getfield 58, 3) := by decide +kernel
theorem dX4_isWordHere_44 : decode cX4_isWordHere 44 = .ok (.iload_n 2, 1) := by decide +kernel
theorem dX4_isWordHere_45 : decode cX4_isWordHere 45 = .ok (.iadd, 1) := by decide +kernel
theorem dX4_isWordHere_46 : decode cX4_isWordHere 46 = .ok (.baload, 1) := by decide +kernel
theorem dX4_isWordHere_47 : decode cX4_isWordHere 47 = .ok (.aload_n 1, 1) := by decide +kernel
theorem dX4_isWordHere_48 : decode cX4_isWordHere 48 = .ok (.iload_n 2, 1) := by decide +kernel
theorem dX4_isWordHere_49 : decode cX4_isWordHere 49 = .ok (.invokevirtual 65, 3) := by decide +kernel
theorem dX4_isWordHere_52 : decode cX4_isWordHere 52 = .ok (.if_icmp .eq 5, 3) := by decide +kernel
theorem dX4_isWordHere_55 : decode cX4_isWordHere 55 = .ok (.iconst 0, 1) := by decide +kernel
theorem dX4_isWordHere_56 : decode cX4_isWordHere 56 = .ok (.ireturn, 1) := by decide +kernel
theorem dX4_isWordHere_57 : decode cX4_isWordHere 57 = .ok (.iinc 2 1, 3) := by decide +kernel
theorem dX4_isWordHere_60 : decode cX4_isWordHere 60 = .ok (.goto (-32), 3) := by decide +kernel
theorem dX4_isWordHere_63 : decode cX4_isWordHere 63 = .ok (.iconst 1, 1) := by decide +kernel
theorem dX4_isWordHere_64 : decode cX4_isWordHere 64 = .ok (.ireturn, 1) := by decide +kernel
theorem dX4_namesOf_0 : decode cX4_namesOf 0 = .ok (.iload_n 0, 1) := by decide +kernel
theorem dX4_namesOf_1 : decode cX4_namesOf 1 = .ok (.lookupswitch 33 #[(0, 27), (1, 30)], 27) := by decide +kernel
theorem dX4_namesOf_28 : decode cX4_namesOf 28 = .ok (.ldc 69, 2) := by decide +kernel
theorem dX4_namesOf_30 : decode cX4_namesOf 30 = .ok (.areturn, 1) := by decide +kernel
theorem dX4_namesOf_31 : decode cX4_namesOf 31 = .ok (.ldc 71, 2) := by decide +kernel
theorem dX4_namesOf_33 : decode cX4_namesOf 33 = .ok (.areturn, 1) := by decide +kernel
theorem dX4_namesOf_34 : decode cX4_namesOf 34 = .ok (.ldc 73, 2) := by decide +kernel
theorem dX4_namesOf_36 : decode cX4_namesOf 36 = .ok (.areturn, 1) := by decide +kernel
theorem dX4_signsOf_0 : decode cX4_signsOf 0 = .ok (.iload_n 0, 1) := by decide +kernel
theorem dX4_signsOf_1 : decode cX4_signsOf 1 = .ok (.tableswitch 43 0 3 #[31, 34, 37, 40], 31) := by decide +kernel
theorem dX4_signsOf_32 : decode cX4_signsOf 32 = .ok (.ldc 75, 2) := by decide +kernel
theorem dX4_signsOf_34 : decode cX4_signsOf 34 = .ok (.areturn, 1) := by decide +kernel
theorem dX4_signsOf_35 : decode cX4_signsOf 35 = .ok (.ldc 77, 2) := by decide +kernel
theorem dX4_signsOf_37 : decode cX4_signsOf 37 = .ok (.areturn, 1) := by decide +kernel
theorem dX4_signsOf_38 : decode cX4_signsOf 38 = .ok (.ldc 79, 2) := by decide +kernel
theorem dX4_signsOf_40 : decode cX4_signsOf 40 = .ok (.areturn, 1) := by decide +kernel
theorem dX4_signsOf_41 : decode cX4_signsOf 41 = .ok (.ldc 81, 2) := by decide +kernel
theorem dX4_signsOf_43 : decode cX4_signsOf 43 = .ok (.areturn, 1) := by decide +kernel
theorem dX4_signsOf_44 : decode cX4_signsOf 44 = .ok (.ldc 83, 2) := by decide +kernel
theorem dX4_signsOf_46 : decode cX4_signsOf 46 = .ok (.areturn, 1) := by decide +kernel
theorem dX4_readsLevel_0 : decode cX4_readsLevel 0 = .ok (.iload_n 1, 1) := by decide +kernel
theorem dX4_readsLevel_1 : decode cX4_readsLevel 1 = .ok (.iconst 5, 1) := by decide +kernel
theorem dX4_readsLevel_2 : decode cX4_readsLevel 2 = .ok (.if_icmp .lt 10, 3) := by decide +kernel
theorem dX4_readsLevel_5 : decode cX4_readsLevel 5 = .ok (.aload_n 0, 1) := by decide +kernel
theorem dX4_readsLevel_6 : decode cX4_readsLevel 6 = .ok (.iload_n 2, 1) := by decide +kernel
theorem dX4_readsLevel_7 : decode cX4_readsLevel 7 = .ok (.iload_n 3, 1) := by decide +kernel
theorem dX4_readsLevel_8 : decode cX4_readsLevel 8 = .ok (.invokevirtual 85, 3) := by decide +kernel
theorem dX4_readsLevel_11 : decode cX4_readsLevel 11 = .ok (.ireturn, 1) := by decide +kernel
theorem dX4_readsLevel_12 : decode cX4_readsLevel 12 = .ok (.aload_n 0, 1) := by decide +kernel
theorem dX4_readsLevel_13 : decode cX4_readsLevel 13 = .ok (.iload_n 1, 1) := by decide +kernel
theorem dX4_readsLevel_14 : decode cX4_readsLevel 14 = .ok (.iconst 1, 1) := by decide +kernel
theorem dX4_readsLevel_15 : decode cX4_readsLevel 15 = .ok (.iadd, 1) := by decide +kernel
theorem dX4_readsLevel_16 : decode cX4_readsLevel 16 = .ok (.iload_n 2, 1) := by decide +kernel
theorem dX4_readsLevel_17 : decode cX4_readsLevel 17 = .ok (.iload_n 3, 1) := by decide +kernel
theorem dX4_readsLevel_18 : decode cX4_readsLevel 18 = .ok (.invokevirtual 44, 3) := by decide +kernel
theorem dX4_readsLevel_21 : decode cX4_readsLevel 21 = .ok (.ifCond .ne 5, 3) := by decide +kernel
theorem dX4_readsLevel_24 : decode cX4_readsLevel 24 = .ok (.iconst 0, 1) := by decide +kernel
theorem dX4_readsLevel_25 : decode cX4_readsLevel 25 = .ok (.ireturn, 1) := by decide +kernel
theorem dX4_readsLevel_26 : decode cX4_readsLevel 26 = .ok (.iload_n 1, 1) := by decide +kernel
theorem dX4_readsLevel_27 : decode cX4_readsLevel 27 = .ok (.iconst 2, 1) := by decide +kernel
theorem dX4_readsLevel_28 : decode cX4_readsLevel 28 = .ok (.if_icmp .ne 7, 3) := by decide +kernel
theorem dX4_readsLevel_31 : decode cX4_readsLevel 31 = .ok (.iconst 1, 1) := by decide +kernel
theorem dX4_readsLevel_32 : decode cX4_readsLevel 32 = .ok (.goto 5, 3) := by decide +kernel
theorem dX4_readsLevel_35 : decode cX4_readsLevel 35 = .ok (.bipush 96, 2) := by decide +kernel
theorem dX4_readsLevel_37 : decode cX4_readsLevel 37 = .ok (.istore 4, 2) := by decide +kernel
theorem dX4_readsLevel_39 : decode cX4_readsLevel 39 = .ok (.iconst 0, 1) := by decide +kernel
theorem dX4_readsLevel_40 : decode cX4_readsLevel 40 = .ok (.istore 5, 2) := by decide +kernel
theorem dX4_readsLevel_42 : decode cX4_readsLevel 42 = .ok (.iload 5, 2) := by decide +kernel
theorem dX4_readsLevel_44 : decode cX4_readsLevel 44 = .ok (.iload 4, 2) := by decide +kernel
theorem dX4_readsLevel_46 : decode cX4_readsLevel 46 = .ok (.if_icmp .ge 64, 3) := by decide +kernel
theorem dX4_readsLevel_49 : decode cX4_readsLevel 49 = .ok (.aload_n 0, 1) := by decide +kernel
theorem dX4_readsLevel_50 : decode cX4_readsLevel 50 = .ok (.getfield 28, 3) := by decide +kernel
theorem dX4_readsLevel_53 : decode cX4_readsLevel 53 = .ok (.iconst 3, 1) := by decide +kernel
theorem dX4_readsLevel_54 : decode cX4_readsLevel 54 = .ok (.if_icmp .ne 56, 3) := by decide +kernel
theorem dX4_readsLevel_57 : decode cX4_readsLevel 57 = .ok (.iload_n 1, 1) := by decide +kernel
theorem dX4_readsLevel_58 : decode cX4_readsLevel 58 = .ok (.invokestatic 89, 3) := by decide +kernel
theorem dX4_readsLevel_61 : decode cX4_readsLevel 61 = .ok (.aload_n 0, 1) := by decide +kernel
theorem dX4_readsLevel_62 : decode cX4_readsLevel 62 = .ok (.invokevirtual 93, 3) := by decide +kernel
theorem dX4_readsLevel_65 : decode cX4_readsLevel 65 = .ok (.invokevirtual 97, 3) := by decide +kernel
theorem dX4_readsLevel_68 : decode cX4_readsLevel 68 = .ok (.ifCond .lt 42, 3) := by decide +kernel
theorem dX4_readsLevel_71 : decode cX4_readsLevel 71 = .ok (.aload_n 0, 1) := by decide +kernel
theorem dX4_readsLevel_72 : decode cX4_readsLevel 72 = .ok (.invokevirtual 93, 3) := by decide +kernel
theorem dX4_readsLevel_75 : decode cX4_readsLevel 75 = .ok (.istore 6, 2) := by decide +kernel
theorem dX4_readsLevel_77 : decode cX4_readsLevel 77 = .ok (.aload_n 0, 1) := by decide +kernel
theorem dX4_readsLevel_78 : decode cX4_readsLevel 78 = .ok (.invokevirtual 34, 3) := by decide +kernel
theorem dX4_readsLevel_81 : decode cX4_readsLevel 81 = .ok (.aload_n 0, 1) := by decide +kernel
theorem dX4_readsLevel_82 : decode cX4_readsLevel 82 = .ok (.iload_n 1, 1) := by decide +kernel
theorem dX4_readsLevel_83 : decode cX4_readsLevel 83 = .ok (.iconst 1, 1) := by decide +kernel
theorem dX4_readsLevel_84 : decode cX4_readsLevel 84 = .ok (.iadd, 1) := by decide +kernel
theorem dX4_readsLevel_85 : decode cX4_readsLevel 85 = .ok (.iload_n 2, 1) := by decide +kernel
theorem dX4_readsLevel_86 : decode cX4_readsLevel 86 = .ok (.iload_n 3, 1) := by decide +kernel
theorem dX4_readsLevel_87 : decode cX4_readsLevel 87 = .ok (.invokevirtual 44, 3) := by decide +kernel
theorem dX4_readsLevel_90 : decode cX4_readsLevel 90 = .ok (.ifCond .ne 5, 3) := by decide +kernel
theorem dX4_readsLevel_93 : decode cX4_readsLevel 93 = .ok (.iconst 0, 1) := by decide +kernel
theorem dX4_readsLevel_94 : decode cX4_readsLevel 94 = .ok (.ireturn, 1) := by decide +kernel
theorem dX4_readsLevel_95 : decode cX4_readsLevel 95 = .ok (.aload_n 0, 1) := by decide +kernel
theorem dX4_readsLevel_96 : decode cX4_readsLevel 96 = .ok (.getfield 19, 3) := by decide +kernel
theorem dX4_readsLevel_99 : decode cX4_readsLevel 99 = .ok (.iload 6, 2) := by decide +kernel
theorem dX4_readsLevel_101 : decode cX4_readsLevel 101 = .ok (.invokevirtual 101, 3) := by decide +kernel
theorem dX4_readsLevel_104 : decode cX4_readsLevel 104 = .ok (.iinc 5 1, 3) := by decide +kernel
theorem dX4_readsLevel_107 : decode cX4_readsLevel 107 = .ok (.goto (-65), 3) := by decide +kernel
theorem dX4_readsLevel_110 : decode cX4_readsLevel 110 = .ok (.iconst 1, 1) := by decide +kernel
theorem dX4_readsLevel_111 : decode cX4_readsLevel 111 = .ok (.ireturn, 1) := by decide +kernel
theorem dX4_readsPiece_0 : decode cX4_readsPiece 0 = .ok (.aload_n 0, 1) := by decide +kernel
theorem dX4_readsPiece_1 : decode cX4_readsPiece 1 = .ok (.getfield 28, 3) := by decide +kernel
theorem dX4_readsPiece_4 : decode cX4_readsPiece 4 = .ok (.iconst 2, 1) := by decide +kernel
theorem dX4_readsPiece_5 : decode cX4_readsPiece 5 = .ok (.if_icmp .ne 20, 3) := by decide +kernel
theorem dX4_readsPiece_8 : decode cX4_readsPiece 8 = .ok (.aload_n 0, 1) := by decide +kernel
theorem dX4_readsPiece_9 : decode cX4_readsPiece 9 = .ok (.getfield 19, 3) := by decide +kernel
theorem dX4_readsPiece_12 : decode cX4_readsPiece 12 = .ok (.aload_n 0, 1) := by decide +kernel
theorem dX4_readsPiece_13 : decode cX4_readsPiece 13 = .ok (.invokevirtual 105, 3) := by decide +kernel
theorem dX4_readsPiece_16 : decode cX4_readsPiece 16 = .ok (.invokevirtual 108, 3) := by decide +kernel
theorem dX4_readsPiece_19 : decode cX4_readsPiece 19 = .ok (.aload_n 0, 1) := by decide +kernel
theorem dX4_readsPiece_20 : decode cX4_readsPiece 20 = .ok (.invokevirtual 34, 3) := by decide +kernel
theorem dX4_readsPiece_23 : decode cX4_readsPiece 23 = .ok (.iconst 1, 1) := by decide +kernel
theorem dX4_readsPiece_24 : decode cX4_readsPiece 24 = .ok (.ireturn, 1) := by decide +kernel
theorem dX4_readsPiece_25 : decode cX4_readsPiece 25 = .ok (.aload_n 0, 1) := by decide +kernel
theorem dX4_readsPiece_26 : decode cX4_readsPiece 26 = .ok (.getfield 28, 3) := by decide +kernel
theorem dX4_readsPiece_29 : decode cX4_readsPiece 29 = .ok (.iconst 1, 1) := by decide +kernel
theorem dX4_readsPiece_30 : decode cX4_readsPiece 30 = .ok (.if_icmp .ne 8, 3) := by decide +kernel
theorem dX4_readsPiece_33 : decode cX4_readsPiece 33 = .ok (.aload_n 0, 1) := by decide +kernel
theorem dX4_readsPiece_34 : decode cX4_readsPiece 34 = .ok (.invokevirtual 112, 3) := by decide +kernel
theorem dX4_readsPiece_37 : decode cX4_readsPiece 37 = .ok (.ireturn, 1) := by decide +kernel
theorem dX4_readsPiece_38 : decode cX4_readsPiece 38 = .ok (.aload_n 0, 1) := by decide +kernel
theorem dX4_readsPiece_39 : decode cX4_readsPiece 39 = .ok (.getfield 28, 3) := by decide +kernel
theorem dX4_readsPiece_42 : decode cX4_readsPiece 42 = .ok (.iconst 3, 1) := by decide +kernel
theorem dX4_readsPiece_43 : decode cX4_readsPiece 43 = .ok (.if_icmp .eq 5, 3) := by decide +kernel
theorem dX4_readsPiece_46 : decode cX4_readsPiece 46 = .ok (.iconst 0, 1) := by decide +kernel
theorem dX4_readsPiece_47 : decode cX4_readsPiece 47 = .ok (.ireturn, 1) := by decide +kernel
theorem dX4_readsPiece_48 : decode cX4_readsPiece 48 = .ok (.aload_n 0, 1) := by decide +kernel
theorem dX4_readsPiece_49 : decode cX4_readsPiece 49 = .ok (.invokevirtual 93, 3) := by decide +kernel
theorem dX4_readsPiece_52 : decode cX4_readsPiece 52 = .ok (.bipush 33, 2) := by decide +kernel
theorem dX4_readsPiece_54 : decode cX4_readsPiece 54 = .ok (.if_icmp .ne 33, 3) := by decide +kernel
theorem dX4_readsPiece_57 : decode cX4_readsPiece 57 = .ok (.iload_n 2, 1) := by decide +kernel
theorem dX4_readsPiece_58 : decode cX4_readsPiece 58 = .ok (.bipush 8, 2) := by decide +kernel
theorem dX4_readsPiece_60 : decode cX4_readsPiece 60 = .ok (.if_icmp .ge 27, 3) := by decide +kernel
theorem dX4_readsPiece_63 : decode cX4_readsPiece 63 = .ok (.aload_n 0, 1) := by decide +kernel
theorem dX4_readsPiece_64 : decode cX4_readsPiece 64 = .ok (.invokevirtual 34, 3) := by decide +kernel
theorem dX4_readsPiece_67 : decode cX4_readsPiece 67 = .ok (.aload_n 0, 1) := by decide +kernel
theorem dX4_readsPiece_68 : decode cX4_readsPiece 68 = .ok (.iload_n 1, 1) := by decide +kernel
theorem dX4_readsPiece_69 : decode cX4_readsPiece 69 = .ok (.iload_n 2, 1) := by decide +kernel
theorem dX4_readsPiece_70 : decode cX4_readsPiece 70 = .ok (.iconst 1, 1) := by decide +kernel
theorem dX4_readsPiece_71 : decode cX4_readsPiece 71 = .ok (.iadd, 1) := by decide +kernel
theorem dX4_readsPiece_72 : decode cX4_readsPiece 72 = .ok (.invokevirtual 85, 3) := by decide +kernel
theorem dX4_readsPiece_75 : decode cX4_readsPiece 75 = .ok (.istore_n 3, 1) := by decide +kernel
theorem dX4_readsPiece_76 : decode cX4_readsPiece 76 = .ok (.aload_n 0, 1) := by decide +kernel
theorem dX4_readsPiece_77 : decode cX4_readsPiece 77 = .ok (.getfield 19, 3) := by decide +kernel
theorem dX4_readsPiece_80 : decode cX4_readsPiece 80 = .ok (.bipush 33, 2) := by decide +kernel
theorem dX4_readsPiece_82 : decode cX4_readsPiece 82 = .ok (.invokevirtual 101, 3) := by decide +kernel
theorem dX4_readsPiece_85 : decode cX4_readsPiece 85 = .ok (.iload_n 3, 1) := by decide +kernel
theorem dX4_readsPiece_86 : decode cX4_readsPiece 86 = .ok (.ireturn, 1) := by decide +kernel
theorem dX4_readsPiece_87 : decode cX4_readsPiece 87 = .ok (.aload_n 0, 1) := by decide +kernel
theorem dX4_readsPiece_88 : decode cX4_readsPiece 88 = .ok (.invokevirtual 93, 3) := by decide +kernel
theorem dX4_readsPiece_91 : decode cX4_readsPiece 91 = .ok (.bipush 40, 2) := by decide +kernel
theorem dX4_readsPiece_93 : decode cX4_readsPiece 93 = .ok (.if_icmp .ne 38, 3) := by decide +kernel
theorem dX4_readsPiece_96 : decode cX4_readsPiece 96 = .ok (.iload_n 1, 1) := by decide +kernel
theorem dX4_readsPiece_97 : decode cX4_readsPiece 97 = .ok (.bipush 8, 2) := by decide +kernel
theorem dX4_readsPiece_99 : decode cX4_readsPiece 99 = .ok (.if_icmp .ge 32, 3) := by decide +kernel
theorem dX4_readsPiece_102 : decode cX4_readsPiece 102 = .ok (.aload_n 0, 1) := by decide +kernel
theorem dX4_readsPiece_103 : decode cX4_readsPiece 103 = .ok (.invokevirtual 34, 3) := by decide +kernel
theorem dX4_readsPiece_106 : decode cX4_readsPiece 106 = .ok (.aload_n 0, 1) := by decide +kernel
theorem dX4_readsPiece_107 : decode cX4_readsPiece 107 = .ok (.iconst 0, 1) := by decide +kernel
theorem dX4_readsPiece_108 : decode cX4_readsPiece 108 = .ok (.iload_n 1, 1) := by decide +kernel
theorem dX4_readsPiece_109 : decode cX4_readsPiece 109 = .ok (.iconst 1, 1) := by decide +kernel
theorem dX4_readsPiece_110 : decode cX4_readsPiece 110 = .ok (.iadd, 1) := by decide +kernel
theorem dX4_readsPiece_111 : decode cX4_readsPiece 111 = .ok (.iload_n 2, 1) := by decide +kernel
theorem dX4_readsPiece_112 : decode cX4_readsPiece 112 = .ok (.invokevirtual 44, 3) := by decide +kernel
theorem dX4_readsPiece_115 : decode cX4_readsPiece 115 = .ok (.ifCond .eq 14, 3) := by decide +kernel
theorem dX4_readsPiece_118 : decode cX4_readsPiece 118 = .ok (.aload_n 0, 1) := by decide +kernel
theorem dX4_readsPiece_119 : decode cX4_readsPiece 119 = .ok (.invokevirtual 116, 3) := by decide +kernel
theorem dX4_readsPiece_122 : decode cX4_readsPiece 122 = .ok (.ifCond .eq 7, 3) := by decide +kernel
theorem dX4_readsPiece_125 : decode cX4_readsPiece 125 = .ok (.iconst 1, 1) := by decide +kernel
theorem dX4_readsPiece_126 : decode cX4_readsPiece 126 = .ok (.goto 4, 3) := by decide +kernel
theorem dX4_readsPiece_129 : decode cX4_readsPiece 129 = .ok (.iconst 0, 1) := by decide +kernel
theorem dX4_readsPiece_130 : decode cX4_readsPiece 130 = .ok (.ireturn, 1) := by decide +kernel
theorem dX4_readsPiece_131 : decode cX4_readsPiece 131 = .ok (.iconst 0, 1) := by decide +kernel
theorem dX4_readsPiece_132 : decode cX4_readsPiece 132 = .ok (.ireturn, 1) := by decide +kernel
theorem dX4_readsName_0 : decode cX4_readsName 0 = .ok (.aload_n 0, 1) := by decide +kernel
theorem dX4_readsName_1 : decode cX4_readsName 1 = .ok (.getfield 31, 3) := by decide +kernel
theorem dX4_readsName_4 : decode cX4_readsName 4 = .ok (.aload_n 0, 1) := by decide +kernel
theorem dX4_readsName_5 : decode cX4_readsName 5 = .ok (.getfield 58, 3) := by decide +kernel
theorem dX4_readsName_8 : decode cX4_readsName 8 = .ok (.isub, 1) := by decide +kernel
theorem dX4_readsName_9 : decode cX4_readsName 9 = .ok (.iconst 1, 1) := by decide +kernel
theorem dX4_readsName_10 : decode cX4_readsName 10 = .ok (.if_icmp .ne 23, 3) := by decide +kernel
theorem dX4_readsName_13 : decode cX4_readsName 13 = .ok (.aload_n 0, 1) := by decide +kernel
theorem dX4_readsName_14 : decode cX4_readsName 14 = .ok (.getfield 19, 3) := by decide +kernel
theorem dX4_readsName_17 : decode cX4_readsName 17 = .ok (.getfield 41, 3) := by decide +kernel
theorem dX4_readsName_20 : decode cX4_readsName 20 = .ok (.invokestatic 119, 3) := by decide +kernel
theorem dX4_readsName_23 : decode cX4_readsName 23 = .ok (.aload_n 0, 1) := by decide +kernel
theorem dX4_readsName_24 : decode cX4_readsName 24 = .ok (.invokevirtual 93, 3) := by decide +kernel
theorem dX4_readsName_27 : decode cX4_readsName 27 = .ok (.invokevirtual 97, 3) := by decide +kernel
theorem dX4_readsName_30 : decode cX4_readsName 30 = .ok (.goto 4, 3) := by decide +kernel
theorem dX4_readsName_33 : decode cX4_readsName 33 = .ok (.iconst (-1), 1) := by decide +kernel
theorem dX4_readsName_34 : decode cX4_readsName 34 = .ok (.istore_n 1, 1) := by decide +kernel
theorem dX4_readsName_35 : decode cX4_readsName 35 = .ok (.iload_n 1, 1) := by decide +kernel
theorem dX4_readsName_36 : decode cX4_readsName 36 = .ok (.ifCond .ge 5, 3) := by decide +kernel
theorem dX4_readsName_39 : decode cX4_readsName 39 = .ok (.iconst 0, 1) := by decide +kernel
theorem dX4_readsName_40 : decode cX4_readsName 40 = .ok (.ireturn, 1) := by decide +kernel
theorem dX4_readsName_41 : decode cX4_readsName 41 = .ok (.aload_n 0, 1) := by decide +kernel
theorem dX4_readsName_42 : decode cX4_readsName 42 = .ok (.getfield 19, 3) := by decide +kernel
theorem dX4_readsName_45 : decode cX4_readsName 45 = .ok (.iload_n 1, 1) := by decide +kernel
theorem dX4_readsName_46 : decode cX4_readsName 46 = .ok (.invokevirtual 122, 3) := by decide +kernel
theorem dX4_readsName_49 : decode cX4_readsName 49 = .ok (.aload_n 0, 1) := by decide +kernel
theorem dX4_readsName_50 : decode cX4_readsName 50 = .ok (.invokevirtual 34, 3) := by decide +kernel
theorem dX4_readsName_53 : decode cX4_readsName 53 = .ok (.iconst 1, 1) := by decide +kernel
theorem dX4_readsName_54 : decode cX4_readsName 54 = .ok (.ireturn, 1) := by decide +kernel
theorem dX4_closesBracket_0 : decode cX4_closesBracket 0 = .ok (.aload_n 0, 1) := by decide +kernel
theorem dX4_closesBracket_1 : decode cX4_closesBracket 1 = .ok (.getfield 28, 3) := by decide +kernel
theorem dX4_closesBracket_4 : decode cX4_closesBracket 4 = .ok (.iconst 3, 1) := by decide +kernel
theorem dX4_closesBracket_5 : decode cX4_closesBracket 5 = .ok (.if_icmp .ne 12, 3) := by decide +kernel
theorem dX4_closesBracket_8 : decode cX4_closesBracket 8 = .ok (.aload_n 0, 1) := by decide +kernel
theorem dX4_closesBracket_9 : decode cX4_closesBracket 9 = .ok (.invokevirtual 93, 3) := by decide +kernel
theorem dX4_closesBracket_12 : decode cX4_closesBracket 12 = .ok (.bipush 41, 2) := by decide +kernel
theorem dX4_closesBracket_14 : decode cX4_closesBracket 14 = .ok (.if_icmp .eq 5, 3) := by decide +kernel
theorem dX4_closesBracket_17 : decode cX4_closesBracket 17 = .ok (.iconst 0, 1) := by decide +kernel
theorem dX4_closesBracket_18 : decode cX4_closesBracket 18 = .ok (.ireturn, 1) := by decide +kernel
theorem dX4_closesBracket_19 : decode cX4_closesBracket 19 = .ok (.aload_n 0, 1) := by decide +kernel
theorem dX4_closesBracket_20 : decode cX4_closesBracket 20 = .ok (.invokevirtual 34, 3) := by decide +kernel
theorem dX4_closesBracket_23 : decode cX4_closesBracket 23 = .ok (.iconst 1, 1) := by decide +kernel
theorem dX4_closesBracket_24 : decode cX4_closesBracket 24 = .ok (.ireturn, 1) := by decide +kernel
theorem dX4_numberHere_0 : decode cX4_numberHere 0 = .ok (.iconst 0, 1) := by decide +kernel
theorem dX4_numberHere_1 : decode cX4_numberHere 1 = .ok (.istore_n 1, 1) := by decide +kernel
theorem dX4_numberHere_2 : decode cX4_numberHere 2 = .ok (.aload_n 0, 1) := by decide +kernel
theorem dX4_numberHere_3 : decode cX4_numberHere 3 = .ok (.getfield 58, 3) := by decide +kernel
theorem dX4_numberHere_6 : decode cX4_numberHere 6 = .ok (.istore_n 2, 1) := by decide +kernel
theorem dX4_numberHere_7 : decode cX4_numberHere 7 = .ok (.iload_n 2, 1) := by decide +kernel
theorem dX4_numberHere_8 : decode cX4_numberHere 8 = .ok (.aload_n 0, 1) := by decide +kernel
theorem dX4_numberHere_9 : decode cX4_numberHere 9 = .ok (.getfield 31, 3) := by decide +kernel
theorem dX4_numberHere_12 : decode cX4_numberHere 12 = .ok (.if_icmp .ge 24, 3) := by decide +kernel
theorem dX4_numberHere_15 : decode cX4_numberHere 15 = .ok (.bipush 10, 2) := by decide +kernel
theorem dX4_numberHere_17 : decode cX4_numberHere 17 = .ok (.iload_n 1, 1) := by decide +kernel
theorem dX4_numberHere_18 : decode cX4_numberHere 18 = .ok (.imul, 1) := by decide +kernel
theorem dX4_numberHere_19 : decode cX4_numberHere 19 = .ok (.aload_n 0, 1) := by decide +kernel
theorem dX4_numberHere_20 : decode cX4_numberHere 20 = .ok (.getfield 9, 3) := by decide +kernel
theorem dX4_numberHere_23 : decode cX4_numberHere 23 = .ok (.iload_n 2, 1) := by decide +kernel
theorem dX4_numberHere_24 : decode cX4_numberHere 24 = .ok (.baload, 1) := by decide +kernel
theorem dX4_numberHere_25 : decode cX4_numberHere 25 = .ok (.iadd, 1) := by decide +kernel
theorem dX4_numberHere_26 : decode cX4_numberHere 26 = .ok (.bipush 48, 2) := by decide +kernel
theorem dX4_numberHere_28 : decode cX4_numberHere 28 = .ok (.isub, 1) := by decide +kernel
theorem dX4_numberHere_29 : decode cX4_numberHere 29 = .ok (.istore_n 1, 1) := by decide +kernel
theorem dX4_numberHere_30 : decode cX4_numberHere 30 = .ok (.iinc 2 1, 3) := by decide +kernel
theorem dX4_numberHere_33 : decode cX4_numberHere 33 = .ok (.goto (-26), 3) := by decide +kernel
theorem dX4_numberHere_36 : decode cX4_numberHere 36 = .ok (.iload_n 1, 1) := by decide +kernel
theorem dX4_numberHere_37 : decode cX4_numberHere 37 = .ok (.ireturn, 1) := by decide +kernel
theorem dX4_signHere_0 : decode cX4_signHere 0 = .ok (.aload_n 0, 1) := by decide +kernel
theorem dX4_signHere_1 : decode cX4_signHere 1 = .ok (.getfield 58, 3) := by decide +kernel
theorem dX4_signHere_4 : decode cX4_signHere 4 = .ok (.aload_n 0, 1) := by decide +kernel
theorem dX4_signHere_5 : decode cX4_signHere 5 = .ok (.getfield 15, 3) := by decide +kernel
theorem dX4_signHere_8 : decode cX4_signHere 8 = .ok (.if_icmp .ge 20, 3) := by decide +kernel
theorem dX4_signHere_11 : decode cX4_signHere 11 = .ok (.aload_n 0, 1) := by decide +kernel
theorem dX4_signHere_12 : decode cX4_signHere 12 = .ok (.getfield 9, 3) := by decide +kernel
theorem dX4_signHere_15 : decode cX4_signHere 15 = .ok (.aload_n 0, 1) := by decide +kernel
theorem dX4_signHere_16 : decode cX4_signHere 16 = .ok (.getfield 58, 3) := by decide +kernel
theorem dX4_signHere_19 : decode cX4_signHere 19 = .ok (.baload, 1) := by decide +kernel
theorem dX4_signHere_20 : decode cX4_signHere 20 = .ok (.sipush 255, 3) := by decide +kernel
theorem dX4_signHere_23 : decode cX4_signHere 23 = .ok (.iand, 1) := by decide +kernel
theorem dX4_signHere_24 : decode cX4_signHere 24 = .ok (.i2c, 1) := by decide +kernel
theorem dX4_signHere_25 : decode cX4_signHere 25 = .ok (.goto 4, 3) := by decide +kernel
theorem dX4_signHere_28 : decode cX4_signHere 28 = .ok (.iconst 0, 1) := by decide +kernel
theorem dX4_signHere_29 : decode cX4_signHere 29 = .ok (.ireturn, 1) := by decide +kernel
theorem dX4_goOn_0 : decode cX4_goOn 0 = .ok (.aload_n 0, 1) := by decide +kernel
theorem dX4_goOn_1 : decode cX4_goOn 1 = .ok (.getfield 31, 3) := by decide +kernel
theorem dX4_goOn_4 : decode cX4_goOn 4 = .ok (.istore_n 1, 1) := by decide +kernel
theorem dX4_goOn_5 : decode cX4_goOn 5 = .ok (.aload_n 0, 1) := by decide +kernel
theorem dX4_goOn_6 : decode cX4_goOn 6 = .ok (.getfield 28, 3) := by decide +kernel
theorem dX4_goOn_9 : decode cX4_goOn 9 = .ok (.iconst 1, 1) := by decide +kernel
theorem dX4_goOn_10 : decode cX4_goOn 10 = .ok (.if_icmp .eq 11, 3) := by decide +kernel
theorem dX4_goOn_13 : decode cX4_goOn 13 = .ok (.aload_n 0, 1) := by decide +kernel
theorem dX4_goOn_14 : decode cX4_goOn 14 = .ok (.getfield 28, 3) := by decide +kernel
theorem dX4_goOn_17 : decode cX4_goOn 17 = .ok (.iconst 2, 1) := by decide +kernel
theorem dX4_goOn_18 : decode cX4_goOn 18 = .ok (.if_icmp .ne 7, 3) := by decide +kernel
theorem dX4_goOn_21 : decode cX4_goOn 21 = .ok (.iconst 1, 1) := by decide +kernel
theorem dX4_goOn_22 : decode cX4_goOn 22 = .ok (.goto 4, 3) := by decide +kernel
theorem dX4_goOn_25 : decode cX4_goOn 25 = .ok (.iconst 0, 1) := by decide +kernel
theorem dX4_goOn_26 : decode cX4_goOn 26 = .ok (.istore_n 2, 1) := by decide +kernel
theorem dX4_goOn_27 : decode cX4_goOn 27 = .ok (.aload_n 0, 1) := by decide +kernel
theorem dX4_goOn_28 : decode cX4_goOn 28 = .ok (.aload_n 0, 1) := by decide +kernel
theorem dX4_goOn_29 : decode cX4_goOn 29 = .ok (.getfield 31, 3) := by decide +kernel
theorem dX4_goOn_32 : decode cX4_goOn 32 = .ok (.putfield 58, 3) := by decide +kernel
theorem dX4_goOn_35 : decode cX4_goOn 35 = .ok (.aload_n 0, 1) := by decide +kernel
theorem dX4_goOn_36 : decode cX4_goOn 36 = .ok (.getfield 58, 3) := by decide +kernel
theorem dX4_goOn_39 : decode cX4_goOn 39 = .ok (.aload_n 0, 1) := by decide +kernel
theorem dX4_goOn_40 : decode cX4_goOn 40 = .ok (.getfield 15, 3) := by decide +kernel
theorem dX4_goOn_43 : decode cX4_goOn 43 = .ok (.if_icmp .ge 30, 3) := by decide +kernel
theorem dX4_goOn_46 : decode cX4_goOn 46 = .ok (.aload_n 0, 1) := by decide +kernel
theorem dX4_goOn_47 : decode cX4_goOn 47 = .ok (.getfield 9, 3) := by decide +kernel
theorem dX4_goOn_50 : decode cX4_goOn 50 = .ok (.aload_n 0, 1) := by decide +kernel
theorem dX4_goOn_51 : decode cX4_goOn 51 = .ok (.getfield 58, 3) := by decide +kernel
theorem dX4_goOn_54 : decode cX4_goOn 54 = .ok (.baload, 1) := by decide +kernel
theorem dX4_goOn_55 : decode cX4_goOn 55 = .ok (.bipush 32, 2) := by decide +kernel
theorem dX4_goOn_57 : decode cX4_goOn 57 = .ok (.if_icmp .ne 16, 3) := by decide +kernel
theorem dX4_goOn_60 : decode cX4_goOn 60 = .ok (.aload_n 0, 1) := by decide +kernel
theorem dX4_goOn_61 : decode cX4_goOn 61 = .ok (.dup, 1) := by decide +kernel
theorem dX4_goOn_62 : decode cX4_goOn 62 = .ok (.getfield 58, 3) := by decide +kernel
theorem dX4_goOn_65 : decode cX4_goOn 65 = .ok (.iconst 1, 1) := by decide +kernel
theorem dX4_goOn_66 : decode cX4_goOn 66 = .ok (.iadd, 1) := by decide +kernel
theorem dX4_goOn_67 : decode cX4_goOn 67 = .ok (.putfield 58, 3) := by decide +kernel
theorem dX4_goOn_70 : decode cX4_goOn 70 = .ok (.goto (-35), 3) := by decide +kernel
theorem dX4_goOn_73 : decode cX4_goOn 73 = .ok (.aload_n 0, 1) := by decide +kernel
theorem dX4_goOn_74 : decode cX4_goOn 74 = .ok (.aload_n 0, 1) := by decide +kernel
theorem dX4_goOn_75 : decode cX4_goOn 75 = .ok (.getfield 58, 3) := by decide +kernel
theorem dX4_goOn_78 : decode cX4_goOn 78 = .ok (.putfield 31, 3) := by decide +kernel
theorem dX4_goOn_81 : decode cX4_goOn 81 = .ok (.aload_n 0, 1) := by decide +kernel
theorem dX4_goOn_82 : decode cX4_goOn 82 = .ok (.getfield 58, 3) := by decide +kernel
theorem dX4_goOn_85 : decode cX4_goOn 85 = .ok (.aload_n 0, 1) := by decide +kernel
theorem dX4_goOn_86 : decode cX4_goOn 86 = .ok (.getfield 15, 3) := by decide +kernel
theorem dX4_goOn_89 : decode cX4_goOn 89 = .ok (.if_icmp .lt 9, 3) := by decide +kernel
theorem dX4_goOn_92 : decode cX4_goOn 92 = .ok (.aload_n 0, 1) := by decide +kernel
theorem dX4_goOn_93 : decode cX4_goOn 93 = .ok (.iconst 0, 1) := by decide +kernel
theorem dX4_goOn_94 : decode cX4_goOn 94 = .ok (.putfield 28, 3) := by decide +kernel
theorem dX4_goOn_97 : decode cX4_goOn 97 = .ok (.return_, 1) := by decide +kernel
theorem dX4_goOn_98 : decode cX4_goOn 98 = .ok (.aload_n 0, 1) := by decide +kernel
theorem dX4_goOn_99 : decode cX4_goOn 99 = .ok (.aload_n 0, 1) := by decide +kernel
theorem dX4_goOn_100 : decode cX4_goOn 100 = .ok (.getfield 58, 3) := by decide +kernel
theorem dX4_goOn_103 : decode cX4_goOn 103 = .ok (.invokevirtual 125, 3) := by decide +kernel
theorem dX4_goOn_106 : decode cX4_goOn 106 = .ok (.ifCond .eq 43, 3) := by decide +kernel
theorem dX4_goOn_109 : decode cX4_goOn 109 = .ok (.aload_n 0, 1) := by decide +kernel
theorem dX4_goOn_110 : decode cX4_goOn 110 = .ok (.iconst 1, 1) := by decide +kernel
theorem dX4_goOn_111 : decode cX4_goOn 111 = .ok (.putfield 28, 3) := by decide +kernel
theorem dX4_goOn_114 : decode cX4_goOn 114 = .ok (.aload_n 0, 1) := by decide +kernel
theorem dX4_goOn_115 : decode cX4_goOn 115 = .ok (.getfield 31, 3) := by decide +kernel
theorem dX4_goOn_118 : decode cX4_goOn 118 = .ok (.aload_n 0, 1) := by decide +kernel
theorem dX4_goOn_119 : decode cX4_goOn 119 = .ok (.getfield 15, 3) := by decide +kernel
theorem dX4_goOn_122 : decode cX4_goOn 122 = .ok (.if_icmp .ge 93, 3) := by decide +kernel
theorem dX4_goOn_125 : decode cX4_goOn 125 = .ok (.aload_n 0, 1) := by decide +kernel
theorem dX4_goOn_126 : decode cX4_goOn 126 = .ok (.aload_n 0, 1) := by decide +kernel
theorem dX4_goOn_127 : decode cX4_goOn 127 = .ok (.getfield 31, 3) := by decide +kernel
theorem dX4_goOn_130 : decode cX4_goOn 130 = .ok (.invokevirtual 125, 3) := by decide +kernel
theorem dX4_goOn_133 : decode cX4_goOn 133 = .ok (.ifCond .eq 82, 3) := by decide +kernel
theorem dX4_goOn_136 : decode cX4_goOn 136 = .ok (.aload_n 0, 1) := by decide +kernel
theorem dX4_goOn_137 : decode cX4_goOn 137 = .ok (.dup, 1) := by decide +kernel
theorem dX4_goOn_138 : decode cX4_goOn 138 = .ok (.getfield 31, 3) := by decide +kernel
theorem dX4_goOn_141 : decode cX4_goOn 141 = .ok (.iconst 1, 1) := by decide +kernel
theorem dX4_goOn_142 : decode cX4_goOn 142 = .ok (.iadd, 1) := by decide +kernel
theorem dX4_goOn_143 : decode cX4_goOn 143 = .ok (.putfield 31, 3) := by decide +kernel
theorem dX4_goOn_146 : decode cX4_goOn 146 = .ok (.goto (-32), 3) := by decide +kernel
theorem dX4_goOn_149 : decode cX4_goOn 149 = .ok (.aload_n 0, 1) := by decide +kernel
theorem dX4_goOn_150 : decode cX4_goOn 150 = .ok (.aload_n 0, 1) := by decide +kernel
theorem dX4_goOn_151 : decode cX4_goOn 151 = .ok (.getfield 58, 3) := by decide +kernel
theorem dX4_goOn_154 : decode cX4_goOn 154 = .ok (.invokevirtual 129, 3) := by decide +kernel
theorem dX4_goOn_157 : decode cX4_goOn 157 = .ok (.ifCond .eq 43, 3) := by decide +kernel
theorem dX4_goOn_160 : decode cX4_goOn 160 = .ok (.aload_n 0, 1) := by decide +kernel
theorem dX4_goOn_161 : decode cX4_goOn 161 = .ok (.iconst 2, 1) := by decide +kernel
theorem dX4_goOn_162 : decode cX4_goOn 162 = .ok (.putfield 28, 3) := by decide +kernel
theorem dX4_goOn_165 : decode cX4_goOn 165 = .ok (.aload_n 0, 1) := by decide +kernel
theorem dX4_goOn_166 : decode cX4_goOn 166 = .ok (.getfield 31, 3) := by decide +kernel
theorem dX4_goOn_169 : decode cX4_goOn 169 = .ok (.aload_n 0, 1) := by decide +kernel
theorem dX4_goOn_170 : decode cX4_goOn 170 = .ok (.getfield 15, 3) := by decide +kernel
theorem dX4_goOn_173 : decode cX4_goOn 173 = .ok (.if_icmp .ge 42, 3) := by decide +kernel
theorem dX4_goOn_176 : decode cX4_goOn 176 = .ok (.aload_n 0, 1) := by decide +kernel
theorem dX4_goOn_177 : decode cX4_goOn 177 = .ok (.aload_n 0, 1) := by decide +kernel
theorem dX4_goOn_178 : decode cX4_goOn 178 = .ok (.getfield 31, 3) := by decide +kernel
theorem dX4_goOn_181 : decode cX4_goOn 181 = .ok (.invokevirtual 129, 3) := by decide +kernel
theorem dX4_goOn_184 : decode cX4_goOn 184 = .ok (.ifCond .eq 31, 3) := by decide +kernel
theorem dX4_goOn_187 : decode cX4_goOn 187 = .ok (.aload_n 0, 1) := by decide +kernel
theorem dX4_goOn_188 : decode cX4_goOn 188 = .ok (.dup, 1) := by decide +kernel
theorem dX4_goOn_189 : decode cX4_goOn 189 = .ok (.getfield 31, 3) := by decide +kernel
theorem dX4_goOn_192 : decode cX4_goOn 192 = .ok (.iconst 1, 1) := by decide +kernel
theorem dX4_goOn_193 : decode cX4_goOn 193 = .ok (.iadd, 1) := by decide +kernel
theorem dX4_goOn_194 : decode cX4_goOn 194 = .ok (.putfield 31, 3) := by decide +kernel
theorem dX4_goOn_197 : decode cX4_goOn 197 = .ok (.goto (-32), 3) := by decide +kernel
theorem dX4_goOn_200 : decode cX4_goOn 200 = .ok (.aload_n 0, 1) := by decide +kernel
theorem dX4_goOn_201 : decode cX4_goOn 201 = .ok (.iconst 3, 1) := by decide +kernel
theorem dX4_goOn_202 : decode cX4_goOn 202 = .ok (.putfield 28, 3) := by decide +kernel
theorem dX4_goOn_205 : decode cX4_goOn 205 = .ok (.aload_n 0, 1) := by decide +kernel
theorem dX4_goOn_206 : decode cX4_goOn 206 = .ok (.dup, 1) := by decide +kernel
theorem dX4_goOn_207 : decode cX4_goOn 207 = .ok (.getfield 31, 3) := by decide +kernel
theorem dX4_goOn_210 : decode cX4_goOn 210 = .ok (.iconst 1, 1) := by decide +kernel
theorem dX4_goOn_211 : decode cX4_goOn 211 = .ok (.iadd, 1) := by decide +kernel
theorem dX4_goOn_212 : decode cX4_goOn 212 = .ok (.putfield 31, 3) := by decide +kernel
theorem dX4_goOn_215 : decode cX4_goOn 215 = .ok (.iload_n 2, 1) := by decide +kernel
theorem dX4_goOn_216 : decode cX4_goOn 216 = .ok (.ifCond .eq 23, 3) := by decide +kernel
theorem dX4_goOn_219 : decode cX4_goOn 219 = .ok (.aload_n 0, 1) := by decide +kernel
theorem dX4_goOn_220 : decode cX4_goOn 220 = .ok (.getfield 28, 3) := by decide +kernel
theorem dX4_goOn_223 : decode cX4_goOn 223 = .ok (.iconst 3, 1) := by decide +kernel
theorem dX4_goOn_224 : decode cX4_goOn 224 = .ok (.if_icmp .eq 15, 3) := by decide +kernel
theorem dX4_goOn_227 : decode cX4_goOn 227 = .ok (.aload_n 0, 1) := by decide +kernel
theorem dX4_goOn_228 : decode cX4_goOn 228 = .ok (.getfield 58, 3) := by decide +kernel
theorem dX4_goOn_231 : decode cX4_goOn 231 = .ok (.iload_n 1, 1) := by decide +kernel
theorem dX4_goOn_232 : decode cX4_goOn 232 = .ok (.if_icmp .ne 7, 3) := by decide +kernel
theorem dX4_goOn_235 : decode cX4_goOn 235 = .ok (.iconst 1, 1) := by decide +kernel
theorem dX4_goOn_236 : decode cX4_goOn 236 = .ok (.goto 4, 3) := by decide +kernel
theorem dX4_goOn_239 : decode cX4_goOn 239 = .ok (.iconst 0, 1) := by decide +kernel
theorem dX4_goOn_240 : decode cX4_goOn 240 = .ok (.istore_n 3, 1) := by decide +kernel
theorem dX4_goOn_241 : decode cX4_goOn 241 = .ok (.iload_n 3, 1) := by decide +kernel
theorem dX4_goOn_242 : decode cX4_goOn 242 = .ok (.ifCond .ne 24, 3) := by decide +kernel
theorem dX4_goOn_245 : decode cX4_goOn 245 = .ok (.aload_n 0, 1) := by decide +kernel
theorem dX4_goOn_246 : decode cX4_goOn 246 = .ok (.getfield 28, 3) := by decide +kernel
theorem dX4_goOn_249 : decode cX4_goOn 249 = .ok (.iconst 2, 1) := by decide +kernel
theorem dX4_goOn_250 : decode cX4_goOn 250 = .ok (.if_icmp .ne 21, 3) := by decide +kernel
theorem dX4_goOn_253 : decode cX4_goOn 253 = .ok (.aload_n 0, 1) := by decide +kernel
theorem dX4_goOn_254 : decode cX4_goOn 254 = .ok (.getfield 31, 3) := by decide +kernel
theorem dX4_goOn_257 : decode cX4_goOn 257 = .ok (.aload_n 0, 1) := by decide +kernel
theorem dX4_goOn_258 : decode cX4_goOn 258 = .ok (.getfield 58, 3) := by decide +kernel
theorem dX4_goOn_261 : decode cX4_goOn 261 = .ok (.isub, 1) := by decide +kernel
theorem dX4_goOn_262 : decode cX4_goOn 262 = .ok (.iconst 4, 1) := by decide +kernel
theorem dX4_goOn_263 : decode cX4_goOn 263 = .ok (.if_icmp .le 8, 3) := by decide +kernel
theorem dX4_goOn_266 : decode cX4_goOn 266 = .ok (.aload_n 0, 1) := by decide +kernel
theorem dX4_goOn_267 : decode cX4_goOn 267 = .ok (.iconst 4, 1) := by decide +kernel
theorem dX4_goOn_268 : decode cX4_goOn 268 = .ok (.putfield 28, 3) := by decide +kernel
theorem dX4_goOn_271 : decode cX4_goOn 271 = .ok (.return_, 1) := by decide +kernel
theorem dX4_isLetter_0 : decode cX4_isLetter 0 = .ok (.aload_n 0, 1) := by decide +kernel
theorem dX4_isLetter_1 : decode cX4_isLetter 1 = .ok (.getfield 9, 3) := by decide +kernel
theorem dX4_isLetter_4 : decode cX4_isLetter 4 = .ok (.iload_n 1, 1) := by decide +kernel
theorem dX4_isLetter_5 : decode cX4_isLetter 5 = .ok (.baload, 1) := by decide +kernel
theorem dX4_isLetter_6 : decode cX4_isLetter 6 = .ok (.bipush 97, 2) := by decide +kernel
theorem dX4_isLetter_8 : decode cX4_isLetter 8 = .ok (.if_icmp .lt 18, 3) := by decide +kernel
theorem dX4_isLetter_11 : decode cX4_isLetter 11 = .ok (.aload_n 0, 1) := by decide +kernel
theorem dX4_isLetter_12 : decode cX4_isLetter 12 = .ok (.getfield 9, 3) := by decide +kernel
theorem dX4_isLetter_15 : decode cX4_isLetter 15 = .ok (.iload_n 1, 1) := by decide +kernel
theorem dX4_isLetter_16 : decode cX4_isLetter 16 = .ok (.baload, 1) := by decide +kernel
theorem dX4_isLetter_17 : decode cX4_isLetter 17 = .ok (.bipush 122, 2) := by decide +kernel
theorem dX4_isLetter_19 : decode cX4_isLetter 19 = .ok (.if_icmp .gt 7, 3) := by decide +kernel
theorem dX4_isLetter_22 : decode cX4_isLetter 22 = .ok (.iconst 1, 1) := by decide +kernel
theorem dX4_isLetter_23 : decode cX4_isLetter 23 = .ok (.goto 4, 3) := by decide +kernel
theorem dX4_isLetter_26 : decode cX4_isLetter 26 = .ok (.iconst 0, 1) := by decide +kernel
theorem dX4_isLetter_27 : decode cX4_isLetter 27 = .ok (.ireturn, 1) := by decide +kernel
theorem dX4_isDigit_0 : decode cX4_isDigit 0 = .ok (.aload_n 0, 1) := by decide +kernel
theorem dX4_isDigit_1 : decode cX4_isDigit 1 = .ok (.getfield 9, 3) := by decide +kernel
theorem dX4_isDigit_4 : decode cX4_isDigit 4 = .ok (.iload_n 1, 1) := by decide +kernel
theorem dX4_isDigit_5 : decode cX4_isDigit 5 = .ok (.baload, 1) := by decide +kernel
theorem dX4_isDigit_6 : decode cX4_isDigit 6 = .ok (.bipush 48, 2) := by decide +kernel
theorem dX4_isDigit_8 : decode cX4_isDigit 8 = .ok (.if_icmp .lt 18, 3) := by decide +kernel
theorem dX4_isDigit_11 : decode cX4_isDigit 11 = .ok (.aload_n 0, 1) := by decide +kernel
theorem dX4_isDigit_12 : decode cX4_isDigit 12 = .ok (.getfield 9, 3) := by decide +kernel
theorem dX4_isDigit_15 : decode cX4_isDigit 15 = .ok (.iload_n 1, 1) := by decide +kernel
theorem dX4_isDigit_16 : decode cX4_isDigit 16 = .ok (.baload, 1) := by decide +kernel
theorem dX4_isDigit_17 : decode cX4_isDigit 17 = .ok (.bipush 57, 2) := by decide +kernel
theorem dX4_isDigit_19 : decode cX4_isDigit 19 = .ok (.if_icmp .gt 7, 3) := by decide +kernel
theorem dX4_isDigit_22 : decode cX4_isDigit 22 = .ok (.iconst 1, 1) := by decide +kernel
theorem dX4_isDigit_23 : decode cX4_isDigit 23 = .ok (.goto 4, 3) := by decide +kernel
theorem dX4_isDigit_26 : decode cX4_isDigit 26 = .ok (.iconst 0, 1) := by decide +kernel
theorem dX4_isDigit_27 : decode cX4_isDigit 27 = .ok (.ireturn, 1) := by decide +kernel
theorem dX5_init_0 : decode cX5_init 0 = .ok (.aload_n 0, 1) := by decide +kernel
theorem dX5_init_1 : decode cX5_init 1 = .ok (.invokespecial 3, 3) := by decide +kernel
theorem dX5_init_4 : decode cX5_init 4 = .ok (.aload_n 0, 1) := by decide +kernel
theorem dX5_init_5 : decode cX5_init 5 = .ok (.iconst (-1), 1) := by decide +kernel
theorem dX5_init_6 : decode cX5_init 6 = .ok (.putfield 9, 3) := by decide +kernel
theorem dX5_init_9 : decode cX5_init 9 = .ok (.aload_n 0, 1) := by decide +kernel
theorem dX5_init_10 : decode cX5_init 10 = .ok (.bipush 24, 2) := by decide +kernel
theorem dX5_init_12 : decode cX5_init 12 = .ok (.newarray .int, 2) := by decide +kernel
theorem dX5_init_14 : decode cX5_init 14 = .ok (.putfield 15, 3) := by decide +kernel
theorem dX5_init_17 : decode cX5_init 17 = .ok (.return_, 1) := by decide +kernel
theorem dX5_startAnew_0 : decode cX5_startAnew 0 = .ok (.aload_n 0, 1) := by decide +kernel
theorem dX5_startAnew_1 : decode cX5_startAnew 1 = .ok (.iload_n 1, 1) := by decide +kernel
theorem dX5_startAnew_2 : decode cX5_startAnew 2 = .ok (.putfield 9, 3) := by decide +kernel
theorem dX5_startAnew_5 : decode cX5_startAnew 5 = .ok (.aload_n 0, 1) := by decide +kernel
theorem dX5_startAnew_6 : decode cX5_startAnew 6 = .ok (.iload_n 2, 1) := by decide +kernel
theorem dX5_startAnew_7 : decode cX5_startAnew 7 = .ok (.putfield 19, 3) := by decide +kernel
theorem dX5_startAnew_10 : decode cX5_startAnew 10 = .ok (.iconst 0, 1) := by decide +kernel
theorem dX5_startAnew_11 : decode cX5_startAnew 11 = .ok (.istore_n 3, 1) := by decide +kernel
theorem dX5_startAnew_12 : decode cX5_startAnew 12 = .ok (.iload_n 3, 1) := by decide +kernel
theorem dX5_startAnew_13 : decode cX5_startAnew 13 = .ok (.iload_n 2, 1) := by decide +kernel
theorem dX5_startAnew_14 : decode cX5_startAnew 14 = .ok (.if_icmp .ge 16, 3) := by decide +kernel
theorem dX5_startAnew_17 : decode cX5_startAnew 17 = .ok (.aload_n 0, 1) := by decide +kernel
theorem dX5_startAnew_18 : decode cX5_startAnew 18 = .ok (.getfield 15, 3) := by decide +kernel
theorem dX5_startAnew_21 : decode cX5_startAnew 21 = .ok (.iload_n 3, 1) := by decide +kernel
theorem dX5_startAnew_22 : decode cX5_startAnew 22 = .ok (.iconst 0, 1) := by decide +kernel
theorem dX5_startAnew_23 : decode cX5_startAnew 23 = .ok (.iastore, 1) := by decide +kernel
theorem dX5_startAnew_24 : decode cX5_startAnew 24 = .ok (.iinc 3 1, 3) := by decide +kernel
theorem dX5_startAnew_27 : decode cX5_startAnew 27 = .ok (.goto (-15), 3) := by decide +kernel
theorem dX5_startAnew_30 : decode cX5_startAnew 30 = .ok (.return_, 1) := by decide +kernel
theorem dX5_becomes_0 : decode cX5_becomes 0 = .ok (.aload_n 0, 1) := by decide +kernel
theorem dX5_becomes_1 : decode cX5_becomes 1 = .ok (.aload_n 1, 1) := by decide +kernel
theorem dX5_becomes_2 : decode cX5_becomes 2 = .ok (.getfield 9, 3) := by decide +kernel
theorem dX5_becomes_5 : decode cX5_becomes 5 = .ok (.putfield 9, 3) := by decide +kernel
theorem dX5_becomes_8 : decode cX5_becomes 8 = .ok (.aload_n 0, 1) := by decide +kernel
theorem dX5_becomes_9 : decode cX5_becomes 9 = .ok (.aload_n 1, 1) := by decide +kernel
theorem dX5_becomes_10 : decode cX5_becomes 10 = .ok (.getfield 19, 3) := by decide +kernel
theorem dX5_becomes_13 : decode cX5_becomes 13 = .ok (.putfield 19, 3) := by decide +kernel
theorem dX5_becomes_16 : decode cX5_becomes 16 = .ok (.aload_n 1, 1) := by decide +kernel
theorem dX5_becomes_17 : decode cX5_becomes 17 = .ok (.getfield 15, 3) := by decide +kernel
theorem dX5_becomes_20 : decode cX5_becomes 20 = .ok (.iconst 0, 1) := by decide +kernel
theorem dX5_becomes_21 : decode cX5_becomes 21 = .ok (.aload_n 0, 1) := by decide +kernel
theorem dX5_becomes_22 : decode cX5_becomes 22 = .ok (.getfield 15, 3) := by decide +kernel
theorem dX5_becomes_25 : decode cX5_becomes 25 = .ok (.iconst 0, 1) := by decide +kernel
theorem dX5_becomes_26 : decode cX5_becomes 26 = .ok (.aload_n 0, 1) := by decide +kernel
theorem dX5_becomes_27 : decode cX5_becomes 27 = .ok (.getfield 19, 3) := by decide +kernel
theorem dX5_becomes_30 : decode cX5_becomes 30 = .ok (.invokestatic 22, 3) := by decide +kernel
theorem dX5_becomes_33 : decode cX5_becomes 33 = .ok (.return_, 1) := by decide +kernel
theorem dX5_isMissing_0 : decode cX5_isMissing 0 = .ok (.aload_n 0, 1) := by decide +kernel
theorem dX5_isMissing_1 : decode cX5_isMissing 1 = .ok (.getfield 9, 3) := by decide +kernel
theorem dX5_isMissing_4 : decode cX5_isMissing 4 = .ok (.iconst (-1), 1) := by decide +kernel
theorem dX5_isMissing_5 : decode cX5_isMissing 5 = .ok (.if_icmp .ne 7, 3) := by decide +kernel
theorem dX5_isMissing_8 : decode cX5_isMissing 8 = .ok (.iconst 1, 1) := by decide +kernel
theorem dX5_isMissing_9 : decode cX5_isMissing 9 = .ok (.goto 4, 3) := by decide +kernel
theorem dX5_isMissing_12 : decode cX5_isMissing 12 = .ok (.iconst 0, 1) := by decide +kernel
theorem dX5_isMissing_13 : decode cX5_isMissing 13 = .ok (.ireturn, 1) := by decide +kernel
theorem dX5_hasPlace_0 : decode cX5_hasPlace 0 = .ok (.iload_n 1, 1) := by decide +kernel
theorem dX5_hasPlace_1 : decode cX5_hasPlace 1 = .ok (.iconst 0, 1) := by decide +kernel
theorem dX5_hasPlace_2 : decode cX5_hasPlace 2 = .ok (.aload_n 0, 1) := by decide +kernel
theorem dX5_hasPlace_3 : decode cX5_hasPlace 3 = .ok (.getfield 19, 3) := by decide +kernel
theorem dX5_hasPlace_6 : decode cX5_hasPlace 6 = .ok (.iconst 1, 1) := by decide +kernel
theorem dX5_hasPlace_7 : decode cX5_hasPlace 7 = .ok (.isub, 1) := by decide +kernel
theorem dX5_hasPlace_8 : decode cX5_hasPlace 8 = .ok (.invokestatic 28, 3) := by decide +kernel
theorem dX5_hasPlace_11 : decode cX5_hasPlace 11 = .ok (.ireturn, 1) := by decide +kernel
theorem dX5_hasRun_0 : decode cX5_hasRun 0 = .ok (.iload_n 1, 1) := by decide +kernel
theorem dX5_hasRun_1 : decode cX5_hasRun 1 = .ok (.iconst 0, 1) := by decide +kernel
theorem dX5_hasRun_2 : decode cX5_hasRun 2 = .ok (.aload_n 0, 1) := by decide +kernel
theorem dX5_hasRun_3 : decode cX5_hasRun 3 = .ok (.getfield 19, 3) := by decide +kernel
theorem dX5_hasRun_6 : decode cX5_hasRun 6 = .ok (.invokestatic 28, 3) := by decide +kernel
theorem dX5_hasRun_9 : decode cX5_hasRun 9 = .ok (.ifCond .eq 21, 3) := by decide +kernel
theorem dX5_hasRun_12 : decode cX5_hasRun 12 = .ok (.iload_n 2, 1) := by decide +kernel
theorem dX5_hasRun_13 : decode cX5_hasRun 13 = .ok (.iconst 0, 1) := by decide +kernel
theorem dX5_hasRun_14 : decode cX5_hasRun 14 = .ok (.aload_n 0, 1) := by decide +kernel
theorem dX5_hasRun_15 : decode cX5_hasRun 15 = .ok (.getfield 19, 3) := by decide +kernel
theorem dX5_hasRun_18 : decode cX5_hasRun 18 = .ok (.iload_n 1, 1) := by decide +kernel
theorem dX5_hasRun_19 : decode cX5_hasRun 19 = .ok (.isub, 1) := by decide +kernel
theorem dX5_hasRun_20 : decode cX5_hasRun 20 = .ok (.invokestatic 28, 3) := by decide +kernel
theorem dX5_hasRun_23 : decode cX5_hasRun 23 = .ok (.ifCond .eq 7, 3) := by decide +kernel
theorem dX5_hasRun_26 : decode cX5_hasRun 26 = .ok (.iconst 1, 1) := by decide +kernel
theorem dX5_hasRun_27 : decode cX5_hasRun 27 = .ok (.goto 4, 3) := by decide +kernel
theorem dX5_hasRun_30 : decode cX5_hasRun 30 = .ok (.iconst 0, 1) := by decide +kernel
theorem dX5_hasRun_31 : decode cX5_hasRun 31 = .ok (.ireturn, 1) := by decide +kernel
theorem dX5_isNumber_0 : decode cX5_isNumber 0 = .ok (.aload_n 0, 1) := by decide +kernel
theorem dX5_isNumber_1 : decode cX5_isNumber 1 = .ok (.getfield 15, 3) := by decide +kernel
theorem dX5_isNumber_4 : decode cX5_isNumber 4 = .ok (.iload_n 1, 1) := by decide +kernel
theorem dX5_isNumber_5 : decode cX5_isNumber 5 = .ok (.iaload, 1) := by decide +kernel
theorem dX5_isNumber_6 : decode cX5_isNumber 6 = .ok (.ldc 32, 2) := by decide +kernel
theorem dX5_isNumber_8 : decode cX5_isNumber 8 = .ok (.if_icmp .eq 7, 3) := by decide +kernel
theorem dX5_isNumber_11 : decode cX5_isNumber 11 = .ok (.iconst 1, 1) := by decide +kernel
theorem dX5_isNumber_12 : decode cX5_isNumber 12 = .ok (.goto 4, 3) := by decide +kernel
theorem dX5_isNumber_15 : decode cX5_isNumber 15 = .ok (.iconst 0, 1) := by decide +kernel
theorem dX5_isNumber_16 : decode cX5_isNumber 16 = .ok (.ireturn, 1) := by decide +kernel
theorem dX6_init_0 : decode cX6_init 0 = .ok (.aload_n 0, 1) := by decide +kernel
theorem dX6_init_1 : decode cX6_init 1 = .ok (.invokespecial 3, 3) := by decide +kernel
theorem dX6_init_4 : decode cX6_init 4 = .ok (.aload_n 0, 1) := by decide +kernel
theorem dX6_init_5 : decode cX6_init 5 = .ok (.iconst 0, 1) := by decide +kernel
theorem dX6_init_6 : decode cX6_init 6 = .ok (.putfield 9, 3) := by decide +kernel
theorem dX6_init_9 : decode cX6_init 9 = .ok (.aload_n 0, 1) := by decide +kernel
theorem dX6_init_10 : decode cX6_init 10 = .ok (.new 15, 3) := by decide +kernel
theorem dX6_init_13 : decode cX6_init 13 = .ok (.dup, 1) := by decide +kernel
theorem dX6_init_14 : decode cX6_init 14 = .ok (.invokespecial 17, 3) := by decide +kernel
theorem dX6_init_17 : decode cX6_init 17 = .ok (.putfield 18, 3) := by decide +kernel
theorem dX6_init_20 : decode cX6_init 20 = .ok (.aload_n 0, 1) := by decide +kernel
theorem dX6_init_21 : decode cX6_init 21 = .ok (.new 22, 3) := by decide +kernel
theorem dX6_init_24 : decode cX6_init 24 = .ok (.dup, 1) := by decide +kernel
theorem dX6_init_25 : decode cX6_init 25 = .ok (.invokespecial 24, 3) := by decide +kernel
theorem dX6_init_28 : decode cX6_init 28 = .ok (.putfield 25, 3) := by decide +kernel
theorem dX6_init_31 : decode cX6_init 31 = .ok (.return_, 1) := by decide +kernel
