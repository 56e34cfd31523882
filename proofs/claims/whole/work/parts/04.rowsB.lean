theorem dX7_init_0 : decode cX7_init 0 = .ok (.aload_n 0, 1) := by decide +kernel
theorem dX7_init_1 : decode cX7_init 1 = .ok (.invokespecial 1, 3) := by decide +kernel
theorem dX7_init_4 : decode cX7_init 4 = .ok (.aload_n 0, 1) := by decide +kernel
theorem dX7_init_5 : decode cX7_init 5 = .ok (.new 7, 3) := by decide +kernel
theorem dX7_init_8 : decode cX7_init 8 = .ok (.dup, 1) := by decide +kernel
theorem dX7_init_9 : decode cX7_init 9 = .ok (.invokespecial 9, 3) := by decide +kernel
theorem dX7_init_12 : decode cX7_init 12 = .ok (.putfield 10, 3) := by decide +kernel
theorem dX7_init_15 : decode cX7_init 15 = .ok (.aload_n 0, 1) := by decide +kernel
theorem dX7_init_16 : decode cX7_init 16 = .ok (.new 16, 3) := by decide +kernel
theorem dX7_init_19 : decode cX7_init 19 = .ok (.dup, 1) := by decide +kernel
theorem dX7_init_20 : decode cX7_init 20 = .ok (.aload_n 0, 1) := by decide +kernel
theorem dX7_init_21 : decode cX7_init 21 = .ok (.getfield 10, 3) := by decide +kernel
theorem dX7_init_24 : decode cX7_init 24 = .ok (.invokespecial 18, 3) := by decide +kernel
theorem dX7_init_27 : decode cX7_init 27 = .ok (.putfield 21, 3) := by decide +kernel
theorem dX7_init_30 : decode cX7_init 30 = .ok (.aload_n 0, 1) := by decide +kernel
theorem dX7_init_31 : decode cX7_init 31 = .ok (.new 16, 3) := by decide +kernel
theorem dX7_init_34 : decode cX7_init 34 = .ok (.dup, 1) := by decide +kernel
theorem dX7_init_35 : decode cX7_init 35 = .ok (.aload_n 0, 1) := by decide +kernel
theorem dX7_init_36 : decode cX7_init 36 = .ok (.getfield 10, 3) := by decide +kernel
theorem dX7_init_39 : decode cX7_init 39 = .ok (.invokespecial 18, 3) := by decide +kernel
theorem dX7_init_42 : decode cX7_init 42 = .ok (.putfield 25, 3) := by decide +kernel
theorem dX7_init_45 : decode cX7_init 45 = .ok (.aload_n 0, 1) := by decide +kernel
theorem dX7_init_46 : decode cX7_init 46 = .ok (.new 16, 3) := by decide +kernel
theorem dX7_init_49 : decode cX7_init 49 = .ok (.dup, 1) := by decide +kernel
theorem dX7_init_50 : decode cX7_init 50 = .ok (.aload_n 0, 1) := by decide +kernel
theorem dX7_init_51 : decode cX7_init 51 = .ok (.getfield 10, 3) := by decide +kernel
theorem dX7_init_54 : decode cX7_init 54 = .ok (.invokespecial 18, 3) := by decide +kernel
theorem dX7_init_57 : decode cX7_init 57 = .ok (.putfield 28, 3) := by decide +kernel
theorem dX7_init_60 : decode cX7_init 60 = .ok (.aload_n 0, 1) := by decide +kernel
theorem dX7_init_61 : decode cX7_init 61 = .ok (.bipush 96, 2) := by decide +kernel
theorem dX7_init_63 : decode cX7_init 63 = .ok (.newarray .byte, 2) := by decide +kernel
theorem dX7_init_65 : decode cX7_init 65 = .ok (.putfield 31, 3) := by decide +kernel
theorem dX7_init_68 : decode cX7_init 68 = .ok (.aload_n 0, 1) := by decide +kernel
theorem dX7_init_69 : decode cX7_init 69 = .ok (.new 35, 3) := by decide +kernel
theorem dX7_init_72 : decode cX7_init 72 = .ok (.dup, 1) := by decide +kernel
theorem dX7_init_73 : decode cX7_init 73 = .ok (.aload_n 0, 1) := by decide +kernel
theorem dX7_init_74 : decode cX7_init 74 = .ok (.getfield 31, 3) := by decide +kernel
theorem dX7_init_77 : decode cX7_init 77 = .ok (.invokespecial 37, 3) := by decide +kernel
theorem dX7_init_80 : decode cX7_init 80 = .ok (.putfield 40, 3) := by decide +kernel
theorem dX7_init_83 : decode cX7_init 83 = .ok (.aload_n 0, 1) := by decide +kernel
theorem dX7_init_84 : decode cX7_init 84 = .ok (.bipush 60, 2) := by decide +kernel
theorem dX7_init_86 : decode cX7_init 86 = .ok (.newarray .int, 2) := by decide +kernel
theorem dX7_init_88 : decode cX7_init 88 = .ok (.putfield 44, 3) := by decide +kernel
theorem dX7_init_91 : decode cX7_init 91 = .ok (.aload_n 0, 1) := by decide +kernel
theorem dX7_init_92 : decode cX7_init 92 = .ok (.iconst 4, 1) := by decide +kernel
theorem dX7_init_93 : decode cX7_init 93 = .ok (.anewarray 48, 3) := by decide +kernel
theorem dX7_init_96 : decode cX7_init 96 = .ok (.putfield 50, 3) := by decide +kernel
theorem dX7_init_99 : decode cX7_init 99 = .ok (.iconst 0, 1) := by decide +kernel
theorem dX7_init_100 : decode cX7_init 100 = .ok (.istore_n 1, 1) := by decide +kernel
theorem dX7_init_101 : decode cX7_init 101 = .ok (.iload_n 1, 1) := by decide +kernel
theorem dX7_init_102 : decode cX7_init 102 = .ok (.iconst 4, 1) := by decide +kernel
theorem dX7_init_103 : decode cX7_init 103 = .ok (.if_icmp .ge 22, 3) := by decide +kernel
theorem dX7_init_106 : decode cX7_init 106 = .ok (.aload_n 0, 1) := by decide +kernel
theorem dX7_init_107 : decode cX7_init 107 = .ok (.getfield 50, 3) := by decide +kernel
theorem dX7_init_110 : decode cX7_init 110 = .ok (.iload_n 1, 1) := by decide +kernel
theorem dX7_init_111 : decode cX7_init 111 = .ok (.new 48, 3) := by decide +kernel
theorem dX7_init_114 : decode cX7_init 114 = .ok (.dup, 1) := by decide +kernel
theorem dX7_init_115 : decode cX7_init 115 = .ok (.invokespecial 54, 3) := by decide +kernel
theorem dX7_init_118 : decode cX7_init 118 = .ok (.aastore, 1) := by decide +kernel
theorem dX7_init_119 : decode cX7_init 119 = .ok (.iinc 1 1, 3) := by decide +kernel
theorem dX7_init_122 : decode cX7_init 122 = .ok (.goto (-21), 3) := by decide +kernel
theorem dX7_init_125 : decode cX7_init 125 = .ok (.aload_n 0, 1) := by decide +kernel
theorem dX7_init_126 : decode cX7_init 126 = .ok (.iconst 5, 1) := by decide +kernel
theorem dX7_init_127 : decode cX7_init 127 = .ok (.anewarray 55, 3) := by decide +kernel
theorem dX7_init_130 : decode cX7_init 130 = .ok (.putfield 57, 3) := by decide +kernel
theorem dX7_init_133 : decode cX7_init 133 = .ok (.iconst 0, 1) := by decide +kernel
theorem dX7_init_134 : decode cX7_init 134 = .ok (.istore_n 1, 1) := by decide +kernel
theorem dX7_init_135 : decode cX7_init 135 = .ok (.iload_n 1, 1) := by decide +kernel
theorem dX7_init_136 : decode cX7_init 136 = .ok (.iconst 5, 1) := by decide +kernel
theorem dX7_init_137 : decode cX7_init 137 = .ok (.if_icmp .ge 22, 3) := by decide +kernel
theorem dX7_init_140 : decode cX7_init 140 = .ok (.aload_n 0, 1) := by decide +kernel
theorem dX7_init_141 : decode cX7_init 141 = .ok (.getfield 57, 3) := by decide +kernel
theorem dX7_init_144 : decode cX7_init 144 = .ok (.iload_n 1, 1) := by decide +kernel
theorem dX7_init_145 : decode cX7_init 145 = .ok (.new 55, 3) := by decide +kernel
theorem dX7_init_148 : decode cX7_init 148 = .ok (.dup, 1) := by decide +kernel
theorem dX7_init_149 : decode cX7_init 149 = .ok (.invokespecial 61, 3) := by decide +kernel
theorem dX7_init_152 : decode cX7_init 152 = .ok (.aastore, 1) := by decide +kernel
theorem dX7_init_153 : decode cX7_init 153 = .ok (.iinc 1 1, 3) := by decide +kernel
theorem dX7_init_156 : decode cX7_init 156 = .ok (.goto (-21), 3) := by decide +kernel
theorem dX7_init_159 : decode cX7_init 159 = .ok (.return_, 1) := by decide +kernel
theorem dX7_person_0 : decode cX7_person 0 = .ok (.iload_n 1, 1) := by decide +kernel
theorem dX7_person_1 : decode cX7_person 1 = .ok (.iconst 0, 1) := by decide +kernel
theorem dX7_person_2 : decode cX7_person 2 = .ok (.iconst 5, 1) := by decide +kernel
theorem dX7_person_3 : decode cX7_person 3 = .ok (.invokestatic 62, 3) := by decide +kernel
theorem dX7_person_6 : decode cX7_person 6 = .ok (.ifCond .eq 23, 3) := by decide +kernel
theorem dX7_person_9 : decode cX7_person 9 = .ok (.iload_n 2, 1) := by decide +kernel
theorem dX7_person_10 : decode cX7_person 10 = .ok (.iconst 0, 1) := by decide +kernel
theorem dX7_person_11 : decode cX7_person 11 = .ok (.bipush 23, 2) := by decide +kernel
theorem dX7_person_13 : decode cX7_person 13 = .ok (.invokestatic 62, 3) := by decide +kernel
theorem dX7_person_16 : decode cX7_person 16 = .ok (.ifCond .eq 13, 3) := by decide +kernel
theorem dX7_person_19 : decode cX7_person 19 = .ok (.iload_n 3, 1) := by decide +kernel
theorem dX7_person_20 : decode cX7_person 20 = .ok (.iconst 0, 1) := by decide +kernel
theorem dX7_person_21 : decode cX7_person 21 = .ok (.bipush 99, 2) := by decide +kernel
theorem dX7_person_23 : decode cX7_person 23 = .ok (.invokestatic 62, 3) := by decide +kernel
theorem dX7_person_26 : decode cX7_person 26 = .ok (.ifCond .ne 6, 3) := by decide +kernel
theorem dX7_person_29 : decode cX7_person 29 = .ok (.ldc 66, 2) := by decide +kernel
theorem dX7_person_31 : decode cX7_person 31 = .ok (.ireturn, 1) := by decide +kernel
theorem dX7_person_32 : decode cX7_person 32 = .ok (.aload_n 0, 1) := by decide +kernel
theorem dX7_person_33 : decode cX7_person 33 = .ok (.getfield 21, 3) := by decide +kernel
theorem dX7_person_36 : decode cX7_person 36 = .ok (.getfield 67, 3) := by decide +kernel
theorem dX7_person_39 : decode cX7_person 39 = .ok (.bipush 10, 2) := by decide +kernel
theorem dX7_person_41 : decode cX7_person 41 = .ok (.if_icmp .lt 6, 3) := by decide +kernel
theorem dX7_person_44 : decode cX7_person 44 = .ok (.ldc 71, 2) := by decide +kernel
theorem dX7_person_46 : decode cX7_person 46 = .ok (.ireturn, 1) := by decide +kernel
theorem dX7_person_47 : decode cX7_person 47 = .ok (.aload_n 0, 1) := by decide +kernel
theorem dX7_person_48 : decode cX7_person 48 = .ok (.getfield 21, 3) := by decide +kernel
theorem dX7_person_51 : decode cX7_person 51 = .ok (.iload_n 1, 1) := by decide +kernel
theorem dX7_person_52 : decode cX7_person 52 = .ok (.iload_n 2, 1) := by decide +kernel
theorem dX7_person_53 : decode cX7_person 53 = .ok (.iload_n 3, 1) := by decide +kernel
theorem dX7_person_54 : decode cX7_person 54 = .ok (.invokevirtual 72, 3) := by decide +kernel
theorem dX7_person_57 : decode cX7_person 57 = .ok (.aload_n 0, 1) := by decide +kernel
theorem dX7_person_58 : decode cX7_person 58 = .ok (.getfield 21, 3) := by decide +kernel
theorem dX7_person_61 : decode cX7_person 61 = .ok (.getfield 67, 3) := by decide +kernel
theorem dX7_person_64 : decode cX7_person 64 = .ok (.iconst 1, 1) := by decide +kernel
theorem dX7_person_65 : decode cX7_person 65 = .ok (.isub, 1) := by decide +kernel
theorem dX7_person_66 : decode cX7_person 66 = .ok (.ireturn, 1) := by decide +kernel
theorem dX7_told_0 : decode cX7_told 0 = .ok (.aload_n 0, 1) := by decide +kernel
theorem dX7_told_1 : decode cX7_told 1 = .ok (.getfield 21, 3) := by decide +kernel
theorem dX7_told_4 : decode cX7_told 4 = .ok (.iload_n 1, 1) := by decide +kernel
theorem dX7_told_5 : decode cX7_told 5 = .ok (.invokevirtual 76, 3) := by decide +kernel
theorem dX7_told_8 : decode cX7_told 8 = .ok (.ifCond .ne 6, 3) := by decide +kernel
theorem dX7_told_11 : decode cX7_told 11 = .ok (.ldc 66, 2) := by decide +kernel
theorem dX7_told_13 : decode cX7_told 13 = .ok (.ireturn, 1) := by decide +kernel
theorem dX7_told_14 : decode cX7_told 14 = .ok (.aload_n 0, 1) := by decide +kernel
theorem dX7_told_15 : decode cX7_told 15 = .ok (.getfield 21, 3) := by decide +kernel
theorem dX7_told_18 : decode cX7_told 18 = .ok (.getfield 80, 3) := by decide +kernel
theorem dX7_told_21 : decode cX7_told 21 = .ok (.iload_n 1, 1) := by decide +kernel
theorem dX7_told_22 : decode cX7_told 22 = .ok (.aaload, 1) := by decide +kernel
theorem dX7_told_23 : decode cX7_told 23 = .ok (.astore_n 3, 1) := by decide +kernel
theorem dX7_told_24 : decode cX7_told 24 = .ok (.iload_n 2, 1) := by decide +kernel
theorem dX7_told_25 : decode cX7_told 25 = .ok (.tableswitch 104 0 8 #[51, 56, 61, 66, 71, 80, 89, 94, 99], 51) := by decide +kernel
theorem dX7_told_76 : decode cX7_told 76 = .ok (.aload_n 3, 1) := by decide +kernel
theorem dX7_told_77 : decode cX7_told 77 = .ok (.getfield 84, 3) := by decide +kernel
theorem dX7_told_80 : decode cX7_told 80 = .ok (.ireturn, 1) := by decide +kernel
theorem dX7_told_81 : decode cX7_told 81 = .ok (.aload_n 3, 1) := by decide +kernel
theorem dX7_told_82 : decode cX7_told 82 = .ok (.getfield 89, 3) := by decide +kernel
theorem dX7_told_85 : decode cX7_told 85 = .ok (.ireturn, 1) := by decide +kernel
theorem dX7_told_86 : decode cX7_told 86 = .ok (.aload_n 3, 1) := by decide +kernel
theorem dX7_told_87 : decode cX7_told 87 = .ok (.getfield 92, 3) := by decide +kernel
theorem dX7_told_90 : decode cX7_told 90 = .ok (.ireturn, 1) := by decide +kernel
theorem dX7_told_91 : decode cX7_told 91 = .ok (.aload_n 3, 1) := by decide +kernel
theorem dX7_told_92 : decode cX7_told 92 = .ok (.getfield 95, 3) := by decide +kernel
theorem dX7_told_95 : decode cX7_told 95 = .ok (.ireturn, 1) := by decide +kernel
theorem dX7_told_96 : decode cX7_told 96 = .ok (.aload_n 0, 1) := by decide +kernel
theorem dX7_told_97 : decode cX7_told 97 = .ok (.getfield 21, 3) := by decide +kernel
theorem dX7_told_100 : decode cX7_told 100 = .ok (.iload_n 1, 1) := by decide +kernel
theorem dX7_told_101 : decode cX7_told 101 = .ok (.invokevirtual 98, 3) := by decide +kernel
theorem dX7_told_104 : decode cX7_told 104 = .ok (.ireturn, 1) := by decide +kernel
theorem dX7_told_105 : decode cX7_told 105 = .ok (.aload_n 0, 1) := by decide +kernel
theorem dX7_told_106 : decode cX7_told 106 = .ok (.getfield 21, 3) := by decide +kernel
theorem dX7_told_109 : decode cX7_told 109 = .ok (.iload_n 1, 1) := by decide +kernel
theorem dX7_told_110 : decode cX7_told 110 = .ok (.invokevirtual 102, 3) := by decide +kernel
theorem dX7_told_113 : decode cX7_told 113 = .ok (.ireturn, 1) := by decide +kernel
theorem dX7_told_114 : decode cX7_told 114 = .ok (.aload_n 3, 1) := by decide +kernel
theorem dX7_told_115 : decode cX7_told 115 = .ok (.invokevirtual 105, 3) := by decide +kernel
theorem dX7_told_118 : decode cX7_told 118 = .ok (.ireturn, 1) := by decide +kernel
theorem dX7_told_119 : decode cX7_told 119 = .ok (.aload_n 3, 1) := by decide +kernel
theorem dX7_told_120 : decode cX7_told 120 = .ok (.invokevirtual 109, 3) := by decide +kernel
theorem dX7_told_123 : decode cX7_told 123 = .ok (.ireturn, 1) := by decide +kernel
theorem dX7_told_124 : decode cX7_told 124 = .ok (.aload_n 3, 1) := by decide +kernel
theorem dX7_told_125 : decode cX7_told 125 = .ok (.invokevirtual 112, 3) := by decide +kernel
theorem dX7_told_128 : decode cX7_told 128 = .ok (.ireturn, 1) := by decide +kernel
theorem dX7_told_129 : decode cX7_told 129 = .ok (.ldc 66, 2) := by decide +kernel
theorem dX7_told_131 : decode cX7_told 131 = .ok (.ireturn, 1) := by decide +kernel
theorem dX7_as_0 : decode cX7_as 0 = .ok (.aload_n 0, 1) := by decide +kernel
theorem dX7_as_1 : decode cX7_as 1 = .ok (.getfield 21, 3) := by decide +kernel
theorem dX7_as_4 : decode cX7_as 4 = .ok (.iload_n 1, 1) := by decide +kernel
theorem dX7_as_5 : decode cX7_as 5 = .ok (.invokevirtual 76, 3) := by decide +kernel
theorem dX7_as_8 : decode cX7_as 8 = .ok (.ifCond .eq 12, 3) := by decide +kernel
theorem dX7_as_11 : decode cX7_as 11 = .ok (.iload_n 2, 1) := by decide +kernel
theorem dX7_as_12 : decode cX7_as 12 = .ok (.iconst 0, 1) := by decide +kernel
theorem dX7_as_13 : decode cX7_as 13 = .ok (.iconst 5, 1) := by decide +kernel
theorem dX7_as_14 : decode cX7_as 14 = .ok (.invokestatic 62, 3) := by decide +kernel
theorem dX7_as_17 : decode cX7_as 17 = .ok (.ifCond .ne 6, 3) := by decide +kernel
theorem dX7_as_20 : decode cX7_as 20 = .ok (.ldc 66, 2) := by decide +kernel
theorem dX7_as_22 : decode cX7_as 22 = .ok (.ireturn, 1) := by decide +kernel
theorem dX7_as_23 : decode cX7_as 23 = .ok (.aload_n 0, 1) := by decide +kernel
theorem dX7_as_24 : decode cX7_as 24 = .ok (.getfield 21, 3) := by decide +kernel
theorem dX7_as_27 : decode cX7_as 27 = .ok (.getfield 80, 3) := by decide +kernel
theorem dX7_as_30 : decode cX7_as 30 = .ok (.iload_n 1, 1) := by decide +kernel
theorem dX7_as_31 : decode cX7_as 31 = .ok (.aaload, 1) := by decide +kernel
theorem dX7_as_32 : decode cX7_as 32 = .ok (.astore_n 3, 1) := by decide +kernel
theorem dX7_as_33 : decode cX7_as 33 = .ok (.aload_n 3, 1) := by decide +kernel
theorem dX7_as_34 : decode cX7_as 34 = .ok (.iload_n 2, 1) := by decide +kernel
theorem dX7_as_35 : decode cX7_as 35 = .ok (.invokevirtual 115, 3) := by decide +kernel
theorem dX7_as_38 : decode cX7_as 38 = .ok (.ifCond .eq 10, 3) := by decide +kernel
theorem dX7_as_41 : decode cX7_as 41 = .ok (.aload_n 3, 1) := by decide +kernel
theorem dX7_as_42 : decode cX7_as 42 = .ok (.getfield 92, 3) := by decide +kernel
theorem dX7_as_45 : decode cX7_as 45 = .ok (.goto 5, 3) := by decide +kernel
theorem dX7_as_48 : decode cX7_as 48 = .ok (.ldc 118, 2) := by decide +kernel
theorem dX7_as_50 : decode cX7_as 50 = .ok (.ireturn, 1) := by decide +kernel
theorem dX7_turns_0 : decode cX7_turns 0 = .ok (.aload_n 0, 1) := by decide +kernel
theorem dX7_turns_1 : decode cX7_turns 1 = .ok (.getfield 21, 3) := by decide +kernel
theorem dX7_turns_4 : decode cX7_turns 4 = .ok (.iload_n 1, 1) := by decide +kernel
theorem dX7_turns_5 : decode cX7_turns 5 = .ok (.invokevirtual 76, 3) := by decide +kernel
theorem dX7_turns_8 : decode cX7_turns 8 = .ok (.ifCond .eq 12, 3) := by decide +kernel
theorem dX7_turns_11 : decode cX7_turns 11 = .ok (.iload_n 2, 1) := by decide +kernel
theorem dX7_turns_12 : decode cX7_turns 12 = .ok (.iconst 0, 1) := by decide +kernel
theorem dX7_turns_13 : decode cX7_turns 13 = .ok (.iconst 5, 1) := by decide +kernel
theorem dX7_turns_14 : decode cX7_turns 14 = .ok (.invokestatic 62, 3) := by decide +kernel
theorem dX7_turns_17 : decode cX7_turns 17 = .ok (.ifCond .ne 6, 3) := by decide +kernel
theorem dX7_turns_20 : decode cX7_turns 20 = .ok (.ldc 66, 2) := by decide +kernel
theorem dX7_turns_22 : decode cX7_turns 22 = .ok (.ireturn, 1) := by decide +kernel
theorem dX7_turns_23 : decode cX7_turns 23 = .ok (.aload_n 0, 1) := by decide +kernel
theorem dX7_turns_24 : decode cX7_turns 24 = .ok (.getfield 21, 3) := by decide +kernel
theorem dX7_turns_27 : decode cX7_turns 27 = .ok (.getfield 80, 3) := by decide +kernel
theorem dX7_turns_30 : decode cX7_turns 30 = .ok (.iload_n 1, 1) := by decide +kernel
theorem dX7_turns_31 : decode cX7_turns 31 = .ok (.aaload, 1) := by decide +kernel
theorem dX7_turns_32 : decode cX7_turns 32 = .ok (.getfield 84, 3) := by decide +kernel
theorem dX7_turns_35 : decode cX7_turns 35 = .ok (.istore_n 3, 1) := by decide +kernel
theorem dX7_turns_36 : decode cX7_turns 36 = .ok (.aload_n 0, 1) := by decide +kernel
theorem dX7_turns_37 : decode cX7_turns 37 = .ok (.getfield 21, 3) := by decide +kernel
theorem dX7_turns_40 : decode cX7_turns 40 = .ok (.getfield 80, 3) := by decide +kernel
theorem dX7_turns_43 : decode cX7_turns 43 = .ok (.iload_n 1, 1) := by decide +kernel
theorem dX7_turns_44 : decode cX7_turns 44 = .ok (.aaload, 1) := by decide +kernel
theorem dX7_turns_45 : decode cX7_turns 45 = .ok (.iload_n 2, 1) := by decide +kernel
theorem dX7_turns_46 : decode cX7_turns 46 = .ok (.putfield 84, 3) := by decide +kernel
theorem dX7_turns_49 : decode cX7_turns 49 = .ok (.iload_n 3, 1) := by decide +kernel
theorem dX7_turns_50 : decode cX7_turns 50 = .ok (.ireturn, 1) := by decide +kernel
theorem dX7_set_0 : decode cX7_set 0 = .ok (.aload_n 0, 1) := by decide +kernel
theorem dX7_set_1 : decode cX7_set 1 = .ok (.getfield 21, 3) := by decide +kernel
theorem dX7_set_4 : decode cX7_set 4 = .ok (.iload_n 1, 1) := by decide +kernel
theorem dX7_set_5 : decode cX7_set 5 = .ok (.invokevirtual 76, 3) := by decide +kernel
theorem dX7_set_8 : decode cX7_set 8 = .ok (.ifCond .ne 6, 3) := by decide +kernel
theorem dX7_set_11 : decode cX7_set 11 = .ok (.ldc 66, 2) := by decide +kernel
theorem dX7_set_13 : decode cX7_set 13 = .ok (.ireturn, 1) := by decide +kernel
theorem dX7_set_14 : decode cX7_set 14 = .ok (.aload_n 0, 1) := by decide +kernel
theorem dX7_set_15 : decode cX7_set 15 = .ok (.getfield 21, 3) := by decide +kernel
theorem dX7_set_18 : decode cX7_set 18 = .ok (.getfield 80, 3) := by decide +kernel
theorem dX7_set_21 : decode cX7_set 21 = .ok (.iload_n 1, 1) := by decide +kernel
theorem dX7_set_22 : decode cX7_set 22 = .ok (.aaload, 1) := by decide +kernel
theorem dX7_set_23 : decode cX7_set 23 = .ok (.astore 4, 2) := by decide +kernel
theorem dX7_set_25 : decode cX7_set 25 = .ok (.iload_n 2, 1) := by decide +kernel
theorem dX7_set_26 : decode cX7_set 26 = .ok (.tableswitch 95 1 3 #[26, 48, 70], 26) := by decide +kernel
theorem dX7_set_52 : decode cX7_set 52 = .ok (.iload_n 3, 1) := by decide +kernel
theorem dX7_set_53 : decode cX7_set 53 = .ok (.iconst 0, 1) := by decide +kernel
theorem dX7_set_54 : decode cX7_set 54 = .ok (.bipush 23, 2) := by decide +kernel
theorem dX7_set_56 : decode cX7_set 56 = .ok (.invokestatic 62, 3) := by decide +kernel
theorem dX7_set_59 : decode cX7_set 59 = .ok (.ifCond .eq 12, 3) := by decide +kernel
theorem dX7_set_62 : decode cX7_set 62 = .ok (.aload 4, 2) := by decide +kernel
theorem dX7_set_64 : decode cX7_set 64 = .ok (.iload_n 3, 1) := by decide +kernel
theorem dX7_set_65 : decode cX7_set 65 = .ok (.invokevirtual 119, 3) := by decide +kernel
theorem dX7_set_68 : decode cX7_set 68 = .ok (.goto 5, 3) := by decide +kernel
theorem dX7_set_71 : decode cX7_set 71 = .ok (.ldc 66, 2) := by decide +kernel
theorem dX7_set_73 : decode cX7_set 73 = .ok (.ireturn, 1) := by decide +kernel
theorem dX7_set_74 : decode cX7_set 74 = .ok (.iload_n 3, 1) := by decide +kernel
theorem dX7_set_75 : decode cX7_set 75 = .ok (.iconst 0, 1) := by decide +kernel
theorem dX7_set_76 : decode cX7_set 76 = .ok (.bipush 99, 2) := by decide +kernel
theorem dX7_set_78 : decode cX7_set 78 = .ok (.invokestatic 62, 3) := by decide +kernel
theorem dX7_set_81 : decode cX7_set 81 = .ok (.ifCond .eq 12, 3) := by decide +kernel
theorem dX7_set_84 : decode cX7_set 84 = .ok (.aload 4, 2) := by decide +kernel
theorem dX7_set_86 : decode cX7_set 86 = .ok (.iload_n 3, 1) := by decide +kernel
theorem dX7_set_87 : decode cX7_set 87 = .ok (.invokevirtual 122, 3) := by decide +kernel
theorem dX7_set_90 : decode cX7_set 90 = .ok (.goto 5, 3) := by decide +kernel
theorem dX7_set_93 : decode cX7_set 93 = .ok (.ldc 66, 2) := by decide +kernel
theorem dX7_set_95 : decode cX7_set 95 = .ok (.ireturn, 1) := by decide +kernel
theorem dX7_set_96 : decode cX7_set 96 = .ok (.iload_n 3, 1) := by decide +kernel
theorem dX7_set_97 : decode cX7_set 97 = .ok (.sipush (-9999), 3) := by decide +kernel
theorem dX7_set_100 : decode cX7_set 100 = .ok (.sipush 9999, 3) := by decide +kernel
theorem dX7_set_103 : decode cX7_set 103 = .ok (.invokestatic 62, 3) := by decide +kernel
theorem dX7_set_106 : decode cX7_set 106 = .ok (.ifCond .eq 12, 3) := by decide +kernel
theorem dX7_set_109 : decode cX7_set 109 = .ok (.aload 4, 2) := by decide +kernel
theorem dX7_set_111 : decode cX7_set 111 = .ok (.iload_n 3, 1) := by decide +kernel
theorem dX7_set_112 : decode cX7_set 112 = .ok (.invokevirtual 125, 3) := by decide +kernel
theorem dX7_set_115 : decode cX7_set 115 = .ok (.goto 5, 3) := by decide +kernel
theorem dX7_set_118 : decode cX7_set 118 = .ok (.ldc 66, 2) := by decide +kernel
theorem dX7_set_120 : decode cX7_set 120 = .ok (.ireturn, 1) := by decide +kernel
theorem dX7_set_121 : decode cX7_set 121 = .ok (.ldc 66, 2) := by decide +kernel
theorem dX7_set_123 : decode cX7_set 123 = .ok (.ireturn, 1) := by decide +kernel
theorem dX7_vow_0 : decode cX7_vow 0 = .ok (.aload_n 0, 1) := by decide +kernel
theorem dX7_vow_1 : decode cX7_vow 1 = .ok (.getfield 21, 3) := by decide +kernel
theorem dX7_vow_4 : decode cX7_vow 4 = .ok (.iload_n 1, 1) := by decide +kernel
theorem dX7_vow_5 : decode cX7_vow 5 = .ok (.invokevirtual 76, 3) := by decide +kernel
theorem dX7_vow_8 : decode cX7_vow 8 = .ok (.ifCond .eq 28, 3) := by decide +kernel
theorem dX7_vow_11 : decode cX7_vow 11 = .ok (.aload_n 0, 1) := by decide +kernel
theorem dX7_vow_12 : decode cX7_vow 12 = .ok (.getfield 21, 3) := by decide +kernel
theorem dX7_vow_15 : decode cX7_vow 15 = .ok (.iload_n 2, 1) := by decide +kernel
theorem dX7_vow_16 : decode cX7_vow 16 = .ok (.invokevirtual 76, 3) := by decide +kernel
theorem dX7_vow_19 : decode cX7_vow 19 = .ok (.ifCond .eq 17, 3) := by decide +kernel
theorem dX7_vow_22 : decode cX7_vow 22 = .ok (.iload_n 1, 1) := by decide +kernel
theorem dX7_vow_23 : decode cX7_vow 23 = .ok (.iload_n 2, 1) := by decide +kernel
theorem dX7_vow_24 : decode cX7_vow 24 = .ok (.if_icmp .eq 12, 3) := by decide +kernel
theorem dX7_vow_27 : decode cX7_vow 27 = .ok (.iload_n 3, 1) := by decide +kernel
theorem dX7_vow_28 : decode cX7_vow 28 = .ok (.iconst 0, 1) := by decide +kernel
theorem dX7_vow_29 : decode cX7_vow 29 = .ok (.iconst 2, 1) := by decide +kernel
theorem dX7_vow_30 : decode cX7_vow 30 = .ok (.invokestatic 62, 3) := by decide +kernel
theorem dX7_vow_33 : decode cX7_vow 33 = .ok (.ifCond .ne 6, 3) := by decide +kernel
theorem dX7_vow_36 : decode cX7_vow 36 = .ok (.ldc 66, 2) := by decide +kernel
theorem dX7_vow_38 : decode cX7_vow 38 = .ok (.ireturn, 1) := by decide +kernel
theorem dX7_vow_39 : decode cX7_vow 39 = .ok (.aload_n 0, 1) := by decide +kernel
theorem dX7_vow_40 : decode cX7_vow 40 = .ok (.getfield 21, 3) := by decide +kernel
theorem dX7_vow_43 : decode cX7_vow 43 = .ok (.getfield 80, 3) := by decide +kernel
theorem dX7_vow_46 : decode cX7_vow 46 = .ok (.iload_n 1, 1) := by decide +kernel
theorem dX7_vow_47 : decode cX7_vow 47 = .ok (.aaload, 1) := by decide +kernel
theorem dX7_vow_48 : decode cX7_vow 48 = .ok (.astore 4, 2) := by decide +kernel
theorem dX7_vow_50 : decode cX7_vow 50 = .ok (.aload 4, 2) := by decide +kernel
theorem dX7_vow_52 : decode cX7_vow 52 = .ok (.getfield 84, 3) := by decide +kernel
theorem dX7_vow_55 : decode cX7_vow 55 = .ok (.iconst 5, 1) := by decide +kernel
theorem dX7_vow_56 : decode cX7_vow 56 = .ok (.if_icmp .ne 6, 3) := by decide +kernel
theorem dX7_vow_59 : decode cX7_vow 59 = .ok (.ldc 128, 2) := by decide +kernel
theorem dX7_vow_61 : decode cX7_vow 61 = .ok (.ireturn, 1) := by decide +kernel
theorem dX7_vow_62 : decode cX7_vow 62 = .ok (.aload 4, 2) := by decide +kernel
theorem dX7_vow_64 : decode cX7_vow 64 = .ok (.getfield 129, 3) := by decide +kernel
theorem dX7_vow_67 : decode cX7_vow 67 = .ok (.aload_n 0, 1) := by decide +kernel
theorem dX7_vow_68 : decode cX7_vow 68 = .ok (.getfield 21, 3) := by decide +kernel
theorem dX7_vow_71 : decode cX7_vow 71 = .ok (.getfield 132, 3) := by decide +kernel
theorem dX7_vow_74 : decode cX7_vow 74 = .ok (.if_icmp .ne 14, 3) := by decide +kernel
theorem dX7_vow_77 : decode cX7_vow 77 = .ok (.aload_n 0, 1) := by decide +kernel
theorem dX7_vow_78 : decode cX7_vow 78 = .ok (.getfield 21, 3) := by decide +kernel
theorem dX7_vow_81 : decode cX7_vow 81 = .ok (.iload_n 1, 1) := by decide +kernel
theorem dX7_vow_82 : decode cX7_vow 82 = .ok (.invokevirtual 135, 3) := by decide +kernel
theorem dX7_vow_85 : decode cX7_vow 85 = .ok (.ldc 139, 2) := by decide +kernel
theorem dX7_vow_87 : decode cX7_vow 87 = .ok (.ireturn, 1) := by decide +kernel
theorem dX7_vow_88 : decode cX7_vow 88 = .ok (.aload_n 0, 1) := by decide +kernel
theorem dX7_vow_89 : decode cX7_vow 89 = .ok (.getfield 21, 3) := by decide +kernel
theorem dX7_vow_92 : decode cX7_vow 92 = .ok (.getfield 140, 3) := by decide +kernel
theorem dX7_vow_95 : decode cX7_vow 95 = .ok (.bipush 16, 2) := by decide +kernel
theorem dX7_vow_97 : decode cX7_vow 97 = .ok (.if_icmp .lt 6, 3) := by decide +kernel
theorem dX7_vow_100 : decode cX7_vow 100 = .ok (.ldc 71, 2) := by decide +kernel
theorem dX7_vow_102 : decode cX7_vow 102 = .ok (.ireturn, 1) := by decide +kernel
theorem dX7_vow_103 : decode cX7_vow 103 = .ok (.aload 4, 2) := by decide +kernel
theorem dX7_vow_105 : decode cX7_vow 105 = .ok (.aload_n 0, 1) := by decide +kernel
theorem dX7_vow_106 : decode cX7_vow 106 = .ok (.getfield 21, 3) := by decide +kernel
theorem dX7_vow_109 : decode cX7_vow 109 = .ok (.getfield 132, 3) := by decide +kernel
theorem dX7_vow_112 : decode cX7_vow 112 = .ok (.putfield 129, 3) := by decide +kernel
theorem dX7_vow_115 : decode cX7_vow 115 = .ok (.aload_n 0, 1) := by decide +kernel
theorem dX7_vow_116 : decode cX7_vow 116 = .ok (.getfield 21, 3) := by decide +kernel
theorem dX7_vow_119 : decode cX7_vow 119 = .ok (.iload_n 1, 1) := by decide +kernel
theorem dX7_vow_120 : decode cX7_vow 120 = .ok (.iload_n 2, 1) := by decide +kernel
theorem dX7_vow_121 : decode cX7_vow 121 = .ok (.iload_n 3, 1) := by decide +kernel
theorem dX7_vow_122 : decode cX7_vow 122 = .ok (.invokevirtual 143, 3) := by decide +kernel
theorem dX7_vow_125 : decode cX7_vow 125 = .ok (.aload_n 0, 1) := by decide +kernel
theorem dX7_vow_126 : decode cX7_vow 126 = .ok (.getfield 21, 3) := by decide +kernel
theorem dX7_vow_129 : decode cX7_vow 129 = .ok (.getfield 140, 3) := by decide +kernel
theorem dX7_vow_132 : decode cX7_vow 132 = .ok (.iconst 1, 1) := by decide +kernel
theorem dX7_vow_133 : decode cX7_vow 133 = .ok (.isub, 1) := by decide +kernel
theorem dX7_vow_134 : decode cX7_vow 134 = .ok (.ireturn, 1) := by decide +kernel
theorem dX7_vowOf_0 : decode cX7_vowOf 0 = .ok (.aload_n 0, 1) := by decide +kernel
theorem dX7_vowOf_1 : decode cX7_vowOf 1 = .ok (.getfield 21, 3) := by decide +kernel
theorem dX7_vowOf_4 : decode cX7_vowOf 4 = .ok (.iload_n 1, 1) := by decide +kernel
theorem dX7_vowOf_5 : decode cX7_vowOf 5 = .ok (.invokevirtual 146, 3) := by decide +kernel
theorem dX7_vowOf_8 : decode cX7_vowOf 8 = .ok (.ifCond .ne 6, 3) := by decide +kernel
theorem dX7_vowOf_11 : decode cX7_vowOf 11 = .ok (.ldc 66, 2) := by decide +kernel
theorem dX7_vowOf_13 : decode cX7_vowOf 13 = .ok (.ireturn, 1) := by decide +kernel
theorem dX7_vowOf_14 : decode cX7_vowOf 14 = .ok (.iload_n 2, 1) := by decide +kernel
theorem dX7_vowOf_15 : decode cX7_vowOf 15 = .ok (.tableswitch 68 0 3 #[29, 39, 49, 59], 29) := by decide +kernel
theorem dX7_vowOf_44 : decode cX7_vowOf 44 = .ok (.aload_n 0, 1) := by decide +kernel
theorem dX7_vowOf_45 : decode cX7_vowOf 45 = .ok (.getfield 21, 3) := by decide +kernel
theorem dX7_vowOf_48 : decode cX7_vowOf 48 = .ok (.getfield 149, 3) := by decide +kernel
theorem dX7_vowOf_51 : decode cX7_vowOf 51 = .ok (.iload_n 1, 1) := by decide +kernel
theorem dX7_vowOf_52 : decode cX7_vowOf 52 = .ok (.iaload, 1) := by decide +kernel
theorem dX7_vowOf_53 : decode cX7_vowOf 53 = .ok (.ireturn, 1) := by decide +kernel
theorem dX7_vowOf_54 : decode cX7_vowOf 54 = .ok (.aload_n 0, 1) := by decide +kernel
theorem dX7_vowOf_55 : decode cX7_vowOf 55 = .ok (.getfield 21, 3) := by decide +kernel
theorem dX7_vowOf_58 : decode cX7_vowOf 58 = .ok (.getfield 152, 3) := by decide +kernel
theorem dX7_vowOf_61 : decode cX7_vowOf 61 = .ok (.iload_n 1, 1) := by decide +kernel
theorem dX7_vowOf_62 : decode cX7_vowOf 62 = .ok (.iaload, 1) := by decide +kernel
theorem dX7_vowOf_63 : decode cX7_vowOf 63 = .ok (.ireturn, 1) := by decide +kernel
theorem dX7_vowOf_64 : decode cX7_vowOf 64 = .ok (.aload_n 0, 1) := by decide +kernel
theorem dX7_vowOf_65 : decode cX7_vowOf 65 = .ok (.getfield 21, 3) := by decide +kernel
theorem dX7_vowOf_68 : decode cX7_vowOf 68 = .ok (.getfield 155, 3) := by decide +kernel
theorem dX7_vowOf_71 : decode cX7_vowOf 71 = .ok (.iload_n 1, 1) := by decide +kernel
theorem dX7_vowOf_72 : decode cX7_vowOf 72 = .ok (.iaload, 1) := by decide +kernel
theorem dX7_vowOf_73 : decode cX7_vowOf 73 = .ok (.ireturn, 1) := by decide +kernel
theorem dX7_vowOf_74 : decode cX7_vowOf 74 = .ok (.aload_n 0, 1) := by decide +kernel
theorem dX7_vowOf_75 : decode cX7_vowOf 75 = .ok (.getfield 21, 3) := by decide +kernel
theorem dX7_vowOf_78 : decode cX7_vowOf 78 = .ok (.iload_n 1, 1) := by decide +kernel
theorem dX7_vowOf_79 : decode cX7_vowOf 79 = .ok (.invokevirtual 158, 3) := by decide +kernel
theorem dX7_vowOf_82 : decode cX7_vowOf 82 = .ok (.ireturn, 1) := by decide +kernel
theorem dX7_vowOf_83 : decode cX7_vowOf 83 = .ok (.ldc 66, 2) := by decide +kernel
theorem dX7_vowOf_85 : decode cX7_vowOf 85 = .ok (.ireturn, 1) := by decide +kernel
theorem dX7_breaks_0 : decode cX7_breaks 0 = .ok (.aload_n 0, 1) := by decide +kernel
theorem dX7_breaks_1 : decode cX7_breaks 1 = .ok (.getfield 21, 3) := by decide +kernel
theorem dX7_breaks_4 : decode cX7_breaks 4 = .ok (.iload_n 1, 1) := by decide +kernel
theorem dX7_breaks_5 : decode cX7_breaks 5 = .ok (.invokevirtual 146, 3) := by decide +kernel
theorem dX7_breaks_8 : decode cX7_breaks 8 = .ok (.ifCond .ne 6, 3) := by decide +kernel
theorem dX7_breaks_11 : decode cX7_breaks 11 = .ok (.ldc 66, 2) := by decide +kernel
theorem dX7_breaks_13 : decode cX7_breaks 13 = .ok (.ireturn, 1) := by decide +kernel
theorem dX7_breaks_14 : decode cX7_breaks 14 = .ok (.aload_n 0, 1) := by decide +kernel
theorem dX7_breaks_15 : decode cX7_breaks 15 = .ok (.getfield 21, 3) := by decide +kernel
theorem dX7_breaks_18 : decode cX7_breaks 18 = .ok (.iload_n 1, 1) := by decide +kernel
theorem dX7_breaks_19 : decode cX7_breaks 19 = .ok (.invokevirtual 161, 3) := by decide +kernel
theorem dX7_breaks_22 : decode cX7_breaks 22 = .ok (.aload_n 0, 1) := by decide +kernel
theorem dX7_breaks_23 : decode cX7_breaks 23 = .ok (.getfield 21, 3) := by decide +kernel
theorem dX7_breaks_26 : decode cX7_breaks 26 = .ok (.getfield 140, 3) := by decide +kernel
theorem dX7_breaks_29 : decode cX7_breaks 29 = .ok (.ireturn, 1) := by decide +kernel
theorem dX7_eclipse_0 : decode cX7_eclipse 0 = .ok (.aload_n 0, 1) := by decide +kernel
theorem dX7_eclipse_1 : decode cX7_eclipse 1 = .ok (.getfield 21, 3) := by decide +kernel
theorem dX7_eclipse_4 : decode cX7_eclipse 4 = .ok (.getfield 140, 3) := by decide +kernel
theorem dX7_eclipse_7 : decode cX7_eclipse 7 = .ok (.istore_n 1, 1) := by decide +kernel
theorem dX7_eclipse_8 : decode cX7_eclipse 8 = .ok (.aload_n 0, 1) := by decide +kernel
theorem dX7_eclipse_9 : decode cX7_eclipse 9 = .ok (.getfield 21, 3) := by decide +kernel
theorem dX7_eclipse_12 : decode cX7_eclipse 12 = .ok (.dup, 1) := by decide +kernel
theorem dX7_eclipse_13 : decode cX7_eclipse 13 = .ok (.getfield 164, 3) := by decide +kernel
theorem dX7_eclipse_16 : decode cX7_eclipse 16 = .ok (.iload_n 1, 1) := by decide +kernel
theorem dX7_eclipse_17 : decode cX7_eclipse 17 = .ok (.iadd, 1) := by decide +kernel
theorem dX7_eclipse_18 : decode cX7_eclipse 18 = .ok (.putfield 164, 3) := by decide +kernel
theorem dX7_eclipse_21 : decode cX7_eclipse 21 = .ok (.aload_n 0, 1) := by decide +kernel
theorem dX7_eclipse_22 : decode cX7_eclipse 22 = .ok (.getfield 21, 3) := by decide +kernel
theorem dX7_eclipse_25 : decode cX7_eclipse 25 = .ok (.iconst 0, 1) := by decide +kernel
theorem dX7_eclipse_26 : decode cX7_eclipse 26 = .ok (.putfield 140, 3) := by decide +kernel
theorem dX7_eclipse_29 : decode cX7_eclipse 29 = .ok (.iload_n 1, 1) := by decide +kernel
theorem dX7_eclipse_30 : decode cX7_eclipse 30 = .ok (.ireturn, 1) := by decide +kernel
theorem dX7_deal_0 : decode cX7_deal 0 = .ok (.iload_n 1, 1) := by decide +kernel
theorem dX7_deal_1 : decode cX7_deal 1 = .ok (.iconst 1, 1) := by decide +kernel
theorem dX7_deal_2 : decode cX7_deal 2 = .ok (.bipush 10, 2) := by decide +kernel
theorem dX7_deal_4 : decode cX7_deal 4 = .ok (.invokestatic 62, 3) := by decide +kernel
theorem dX7_deal_7 : decode cX7_deal 7 = .ok (.ifCond .ne 6, 3) := by decide +kernel
theorem dX7_deal_10 : decode cX7_deal 10 = .ok (.ldc 66, 2) := by decide +kernel
theorem dX7_deal_12 : decode cX7_deal 12 = .ok (.ireturn, 1) := by decide +kernel
theorem dX7_deal_13 : decode cX7_deal 13 = .ok (.iload_n 1, 1) := by decide +kernel
theorem dX7_deal_14 : decode cX7_deal 14 = .ok (.bipush 10, 2) := by decide +kernel
theorem dX7_deal_16 : decode cX7_deal 16 = .ok (.aload_n 0, 1) := by decide +kernel
theorem dX7_deal_17 : decode cX7_deal 17 = .ok (.getfield 21, 3) := by decide +kernel
theorem dX7_deal_20 : decode cX7_deal 20 = .ok (.getfield 67, 3) := by decide +kernel
theorem dX7_deal_23 : decode cX7_deal 23 = .ok (.isub, 1) := by decide +kernel
theorem dX7_deal_24 : decode cX7_deal 24 = .ok (.invokestatic 167, 3) := by decide +kernel
theorem dX7_deal_27 : decode cX7_deal 27 = .ok (.istore_n 2, 1) := by decide +kernel
theorem dX7_deal_28 : decode cX7_deal 28 = .ok (.iconst 0, 1) := by decide +kernel
theorem dX7_deal_29 : decode cX7_deal 29 = .ok (.istore_n 3, 1) := by decide +kernel
theorem dX7_deal_30 : decode cX7_deal 30 = .ok (.iload_n 3, 1) := by decide +kernel
theorem dX7_deal_31 : decode cX7_deal 31 = .ok (.iload_n 2, 1) := by decide +kernel
theorem dX7_deal_32 : decode cX7_deal 32 = .ok (.if_icmp .ge 16, 3) := by decide +kernel
theorem dX7_deal_35 : decode cX7_deal 35 = .ok (.aload_n 0, 1) := by decide +kernel
theorem dX7_deal_36 : decode cX7_deal 36 = .ok (.getfield 21, 3) := by decide +kernel
theorem dX7_deal_39 : decode cX7_deal 39 = .ok (.invokevirtual 173, 3) := by decide +kernel
theorem dX7_deal_42 : decode cX7_deal 42 = .ok (.iinc 3 1, 3) := by decide +kernel
theorem dX7_deal_45 : decode cX7_deal 45 = .ok (.goto (-15), 3) := by decide +kernel
theorem dX7_deal_48 : decode cX7_deal 48 = .ok (.iload_n 2, 1) := by decide +kernel
theorem dX7_deal_49 : decode cX7_deal 49 = .ok (.ireturn, 1) := by decide +kernel
theorem dX7_seed_0 : decode cX7_seed 0 = .ok (.aload_n 0, 1) := by decide +kernel
theorem dX7_seed_1 : decode cX7_seed 1 = .ok (.getfield 21, 3) := by decide +kernel
theorem dX7_seed_4 : decode cX7_seed 4 = .ok (.getfield 176, 3) := by decide +kernel
theorem dX7_seed_7 : decode cX7_seed 7 = .ok (.istore_n 2, 1) := by decide +kernel
theorem dX7_seed_8 : decode cX7_seed 8 = .ok (.aload_n 0, 1) := by decide +kernel
theorem dX7_seed_9 : decode cX7_seed 9 = .ok (.getfield 21, 3) := by decide +kernel
theorem dX7_seed_12 : decode cX7_seed 12 = .ok (.iload_n 1, 1) := by decide +kernel
theorem dX7_seed_13 : decode cX7_seed 13 = .ok (.putfield 176, 3) := by decide +kernel
theorem dX7_seed_16 : decode cX7_seed 16 = .ok (.iload_n 2, 1) := by decide +kernel
theorem dX7_seed_17 : decode cX7_seed 17 = .ok (.ireturn, 1) := by decide +kernel
theorem dX7_hours_0 : decode cX7_hours 0 = .ok (.iload_n 1, 1) := by decide +kernel
theorem dX7_hours_1 : decode cX7_hours 1 = .ok (.iconst 1, 1) := by decide +kernel
theorem dX7_hours_2 : decode cX7_hours 2 = .ok (.bipush 100, 2) := by decide +kernel
theorem dX7_hours_4 : decode cX7_hours 4 = .ok (.invokestatic 62, 3) := by decide +kernel
theorem dX7_hours_7 : decode cX7_hours 7 = .ok (.ifCond .ne 6, 3) := by decide +kernel
theorem dX7_hours_10 : decode cX7_hours 10 = .ok (.ldc 66, 2) := by decide +kernel
theorem dX7_hours_12 : decode cX7_hours 12 = .ok (.ireturn, 1) := by decide +kernel
theorem dX7_hours_13 : decode cX7_hours 13 = .ok (.aload_n 0, 1) := by decide +kernel
theorem dX7_hours_14 : decode cX7_hours 14 = .ok (.getfield 21, 3) := by decide +kernel
theorem dX7_hours_17 : decode cX7_hours 17 = .ok (.getfield 164, 3) := by decide +kernel
theorem dX7_hours_20 : decode cX7_hours 20 = .ok (.istore_n 2, 1) := by decide +kernel
theorem dX7_hours_21 : decode cX7_hours 21 = .ok (.aload_n 0, 1) := by decide +kernel
theorem dX7_hours_22 : decode cX7_hours 22 = .ok (.getfield 21, 3) := by decide +kernel
theorem dX7_hours_25 : decode cX7_hours 25 = .ok (.iload_n 1, 1) := by decide +kernel
theorem dX7_hours_26 : decode cX7_hours 26 = .ok (.sipush 9999, 3) := by decide +kernel
theorem dX7_hours_29 : decode cX7_hours 29 = .ok (.aload_n 0, 1) := by decide +kernel
theorem dX7_hours_30 : decode cX7_hours 30 = .ok (.getfield 21, 3) := by decide +kernel
theorem dX7_hours_33 : decode cX7_hours 33 = .ok (.getfield 132, 3) := by decide +kernel
theorem dX7_hours_36 : decode cX7_hours 36 = .ok (.isub, 1) := by decide +kernel
theorem dX7_hours_37 : decode cX7_hours 37 = .ok (.invokestatic 167, 3) := by decide +kernel
theorem dX7_hours_40 : decode cX7_hours 40 = .ok (.invokevirtual 179, 3) := by decide +kernel
theorem dX7_hours_43 : decode cX7_hours 43 = .ok (.aload_n 0, 1) := by decide +kernel
theorem dX7_hours_44 : decode cX7_hours 44 = .ok (.getfield 21, 3) := by decide +kernel
theorem dX7_hours_47 : decode cX7_hours 47 = .ok (.getfield 164, 3) := by decide +kernel
theorem dX7_hours_50 : decode cX7_hours 50 = .ok (.iload_n 2, 1) := by decide +kernel
theorem dX7_hours_51 : decode cX7_hours 51 = .ok (.isub, 1) := by decide +kernel
theorem dX7_hours_52 : decode cX7_hours 52 = .ok (.ireturn, 1) := by decide +kernel
theorem dX7_land_0 : decode cX7_land 0 = .ok (.iload_n 1, 1) := by decide +kernel
theorem dX7_land_1 : decode cX7_land 1 = .ok (.tableswitch 87 0 5 #[39, 47, 55, 63, 71, 79], 39) := by decide +kernel
theorem dX7_land_40 : decode cX7_land 40 = .ok (.aload_n 0, 1) := by decide +kernel
theorem dX7_land_41 : decode cX7_land 41 = .ok (.getfield 21, 3) := by decide +kernel
theorem dX7_land_44 : decode cX7_land 44 = .ok (.getfield 140, 3) := by decide +kernel
theorem dX7_land_47 : decode cX7_land 47 = .ok (.ireturn, 1) := by decide +kernel
theorem dX7_land_48 : decode cX7_land 48 = .ok (.aload_n 0, 1) := by decide +kernel
theorem dX7_land_49 : decode cX7_land 49 = .ok (.getfield 21, 3) := by decide +kernel
theorem dX7_land_52 : decode cX7_land 52 = .ok (.getfield 182, 3) := by decide +kernel
theorem dX7_land_55 : decode cX7_land 55 = .ok (.ireturn, 1) := by decide +kernel
theorem dX7_land_56 : decode cX7_land 56 = .ok (.aload_n 0, 1) := by decide +kernel
theorem dX7_land_57 : decode cX7_land 57 = .ok (.getfield 21, 3) := by decide +kernel
theorem dX7_land_60 : decode cX7_land 60 = .ok (.getfield 164, 3) := by decide +kernel
theorem dX7_land_63 : decode cX7_land 63 = .ok (.ireturn, 1) := by decide +kernel
theorem dX7_land_64 : decode cX7_land 64 = .ok (.aload_n 0, 1) := by decide +kernel
theorem dX7_land_65 : decode cX7_land 65 = .ok (.getfield 21, 3) := by decide +kernel
theorem dX7_land_68 : decode cX7_land 68 = .ok (.invokevirtual 185, 3) := by decide +kernel
theorem dX7_land_71 : decode cX7_land 71 = .ok (.ireturn, 1) := by decide +kernel
theorem dX7_land_72 : decode cX7_land 72 = .ok (.aload_n 0, 1) := by decide +kernel
theorem dX7_land_73 : decode cX7_land 73 = .ok (.getfield 21, 3) := by decide +kernel
theorem dX7_land_76 : decode cX7_land 76 = .ok (.invokevirtual 188, 3) := by decide +kernel
theorem dX7_land_79 : decode cX7_land 79 = .ok (.ireturn, 1) := by decide +kernel
theorem dX7_land_80 : decode cX7_land 80 = .ok (.aload_n 0, 1) := by decide +kernel
theorem dX7_land_81 : decode cX7_land 81 = .ok (.getfield 21, 3) := by decide +kernel
theorem dX7_land_84 : decode cX7_land 84 = .ok (.invokevirtual 191, 3) := by decide +kernel
theorem dX7_land_87 : decode cX7_land 87 = .ok (.ireturn, 1) := by decide +kernel
theorem dX7_land_88 : decode cX7_land 88 = .ok (.ldc 66, 2) := by decide +kernel
theorem dX7_land_90 : decode cX7_land 90 = .ok (.ireturn, 1) := by decide +kernel
theorem dX7_reaches_0 : decode cX7_reaches 0 = .ok (.aload_n 0, 1) := by decide +kernel
theorem dX7_reaches_1 : decode cX7_reaches 1 = .ok (.getfield 21, 3) := by decide +kernel
theorem dX7_reaches_4 : decode cX7_reaches 4 = .ok (.iload_n 1, 1) := by decide +kernel
theorem dX7_reaches_5 : decode cX7_reaches 5 = .ok (.invokevirtual 76, 3) := by decide +kernel
theorem dX7_reaches_8 : decode cX7_reaches 8 = .ok (.ifCond .eq 14, 3) := by decide +kernel
theorem dX7_reaches_11 : decode cX7_reaches 11 = .ok (.aload_n 0, 1) := by decide +kernel
theorem dX7_reaches_12 : decode cX7_reaches 12 = .ok (.getfield 21, 3) := by decide +kernel
theorem dX7_reaches_15 : decode cX7_reaches 15 = .ok (.iload_n 2, 1) := by decide +kernel
theorem dX7_reaches_16 : decode cX7_reaches 16 = .ok (.invokevirtual 76, 3) := by decide +kernel
theorem dX7_reaches_19 : decode cX7_reaches 19 = .ok (.ifCond .ne 6, 3) := by decide +kernel
theorem dX7_reaches_22 : decode cX7_reaches 22 = .ok (.ldc 66, 2) := by decide +kernel
theorem dX7_reaches_24 : decode cX7_reaches 24 = .ok (.ireturn, 1) := by decide +kernel
theorem dX7_reaches_25 : decode cX7_reaches 25 = .ok (.aload_n 0, 1) := by decide +kernel
theorem dX7_reaches_26 : decode cX7_reaches 26 = .ok (.getfield 21, 3) := by decide +kernel
theorem dX7_reaches_29 : decode cX7_reaches 29 = .ok (.iload_n 1, 1) := by decide +kernel
theorem dX7_reaches_30 : decode cX7_reaches 30 = .ok (.iload_n 2, 1) := by decide +kernel
theorem dX7_reaches_31 : decode cX7_reaches 31 = .ok (.invokevirtual 194, 3) := by decide +kernel
theorem dX7_reaches_34 : decode cX7_reaches 34 = .ok (.ireturn, 1) := by decide +kernel
theorem dX7_behind_0 : decode cX7_behind 0 = .ok (.iload_n 1, 1) := by decide +kernel
theorem dX7_behind_1 : decode cX7_behind 1 = .ok (.iconst 0, 1) := by decide +kernel
theorem dX7_behind_2 : decode cX7_behind 2 = .ok (.bipush 100, 2) := by decide +kernel
theorem dX7_behind_4 : decode cX7_behind 4 = .ok (.invokestatic 62, 3) := by decide +kernel
theorem dX7_behind_7 : decode cX7_behind 7 = .ok (.ifCond .eq 20, 3) := by decide +kernel
theorem dX7_behind_10 : decode cX7_behind 10 = .ok (.iload_n 2, 1) := by decide +kernel
theorem dX7_behind_11 : decode cX7_behind 11 = .ok (.iconst 0, 1) := by decide +kernel
theorem dX7_behind_12 : decode cX7_behind 12 = .ok (.iconst 2, 1) := by decide +kernel
theorem dX7_behind_13 : decode cX7_behind 13 = .ok (.aload_n 0, 1) := by decide +kernel
theorem dX7_behind_14 : decode cX7_behind 14 = .ok (.getfield 21, 3) := by decide +kernel
theorem dX7_behind_17 : decode cX7_behind 17 = .ok (.getfield 67, 3) := by decide +kernel
theorem dX7_behind_20 : decode cX7_behind 20 = .ok (.iadd, 1) := by decide +kernel
theorem dX7_behind_21 : decode cX7_behind 21 = .ok (.invokestatic 62, 3) := by decide +kernel
theorem dX7_behind_24 : decode cX7_behind 24 = .ok (.ifCond .ne 6, 3) := by decide +kernel
theorem dX7_behind_27 : decode cX7_behind 27 = .ok (.ldc 66, 2) := by decide +kernel
theorem dX7_behind_29 : decode cX7_behind 29 = .ok (.ireturn, 1) := by decide +kernel
theorem dX7_behind_30 : decode cX7_behind 30 = .ok (.aload_n 0, 1) := by decide +kernel
theorem dX7_behind_31 : decode cX7_behind 31 = .ok (.getfield 28, 3) := by decide +kernel
theorem dX7_behind_34 : decode cX7_behind 34 = .ok (.aload_n 0, 1) := by decide +kernel
theorem dX7_behind_35 : decode cX7_behind 35 = .ok (.getfield 21, 3) := by decide +kernel
theorem dX7_behind_38 : decode cX7_behind 38 = .ok (.invokevirtual 197, 3) := by decide +kernel
theorem dX7_behind_41 : decode cX7_behind 41 = .ok (.aload_n 0, 1) := by decide +kernel
theorem dX7_behind_42 : decode cX7_behind 42 = .ok (.getfield 28, 3) := by decide +kernel
theorem dX7_behind_45 : decode cX7_behind 45 = .ok (.iload_n 1, 1) := by decide +kernel
theorem dX7_behind_46 : decode cX7_behind 46 = .ok (.invokevirtual 179, 3) := by decide +kernel
theorem dX7_behind_49 : decode cX7_behind 49 = .ok (.iload_n 2, 1) := by decide +kernel
theorem dX7_behind_50 : decode cX7_behind 50 = .ok (.tableswitch 50 0 2 #[26, 34, 42], 26) := by decide +kernel
theorem dX7_behind_76 : decode cX7_behind 76 = .ok (.aload_n 0, 1) := by decide +kernel
theorem dX7_behind_77 : decode cX7_behind 77 = .ok (.getfield 28, 3) := by decide +kernel
theorem dX7_behind_80 : decode cX7_behind 80 = .ok (.getfield 140, 3) := by decide +kernel
theorem dX7_behind_83 : decode cX7_behind 83 = .ok (.ireturn, 1) := by decide +kernel
theorem dX7_behind_84 : decode cX7_behind 84 = .ok (.aload_n 0, 1) := by decide +kernel
theorem dX7_behind_85 : decode cX7_behind 85 = .ok (.getfield 28, 3) := by decide +kernel
theorem dX7_behind_88 : decode cX7_behind 88 = .ok (.getfield 182, 3) := by decide +kernel
theorem dX7_behind_91 : decode cX7_behind 91 = .ok (.ireturn, 1) := by decide +kernel
theorem dX7_behind_92 : decode cX7_behind 92 = .ok (.aload_n 0, 1) := by decide +kernel
theorem dX7_behind_93 : decode cX7_behind 93 = .ok (.getfield 28, 3) := by decide +kernel
theorem dX7_behind_96 : decode cX7_behind 96 = .ok (.getfield 164, 3) := by decide +kernel
theorem dX7_behind_99 : decode cX7_behind 99 = .ok (.ireturn, 1) := by decide +kernel
theorem dX7_behind_100 : decode cX7_behind 100 = .ok (.aload_n 0, 1) := by decide +kernel
theorem dX7_behind_101 : decode cX7_behind 101 = .ok (.getfield 28, 3) := by decide +kernel
theorem dX7_behind_104 : decode cX7_behind 104 = .ok (.getfield 80, 3) := by decide +kernel
theorem dX7_behind_107 : decode cX7_behind 107 = .ok (.iload_n 2, 1) := by decide +kernel
theorem dX7_behind_108 : decode cX7_behind 108 = .ok (.iconst 3, 1) := by decide +kernel
theorem dX7_behind_109 : decode cX7_behind 109 = .ok (.isub, 1) := by decide +kernel
theorem dX7_behind_110 : decode cX7_behind 110 = .ok (.aaload, 1) := by decide +kernel
theorem dX7_behind_111 : decode cX7_behind 111 = .ok (.getfield 95, 3) := by decide +kernel
theorem dX7_behind_114 : decode cX7_behind 114 = .ok (.ireturn, 1) := by decide +kernel
theorem dX7_free_0 : decode cX7_free 0 = .ok (.aload_n 0, 1) := by decide +kernel
theorem dX7_free_1 : decode cX7_free 1 = .ok (.getfield 28, 3) := by decide +kernel
theorem dX7_free_4 : decode cX7_free 4 = .ok (.aload_n 0, 1) := by decide +kernel
theorem dX7_free_5 : decode cX7_free 5 = .ok (.getfield 21, 3) := by decide +kernel
theorem dX7_free_8 : decode cX7_free 8 = .ok (.invokevirtual 197, 3) := by decide +kernel
theorem dX7_free_11 : decode cX7_free 11 = .ok (.iconst 0, 1) := by decide +kernel
theorem dX7_free_12 : decode cX7_free 12 = .ok (.istore_n 1, 1) := by decide +kernel
theorem dX7_free_13 : decode cX7_free 13 = .ok (.iload_n 1, 1) := by decide +kernel
theorem dX7_free_14 : decode cX7_free 14 = .ok (.sipush 300, 3) := by decide +kernel
theorem dX7_free_17 : decode cX7_free 17 = .ok (.if_icmp .gt 28, 3) := by decide +kernel
theorem dX7_free_20 : decode cX7_free 20 = .ok (.aload_n 0, 1) := by decide +kernel
theorem dX7_free_21 : decode cX7_free 21 = .ok (.getfield 28, 3) := by decide +kernel
theorem dX7_free_24 : decode cX7_free 24 = .ok (.getfield 140, 3) := by decide +kernel
theorem dX7_free_27 : decode cX7_free 27 = .ok (.ifCond .ne 5, 3) := by decide +kernel
theorem dX7_free_30 : decode cX7_free 30 = .ok (.iload_n 1, 1) := by decide +kernel
theorem dX7_free_31 : decode cX7_free 31 = .ok (.ireturn, 1) := by decide +kernel
theorem dX7_free_32 : decode cX7_free 32 = .ok (.aload_n 0, 1) := by decide +kernel
theorem dX7_free_33 : decode cX7_free 33 = .ok (.getfield 28, 3) := by decide +kernel
theorem dX7_free_36 : decode cX7_free 36 = .ok (.invokevirtual 201, 3) := by decide +kernel
theorem dX7_free_39 : decode cX7_free 39 = .ok (.iinc 1 1, 3) := by decide +kernel
theorem dX7_free_42 : decode cX7_free 42 = .ok (.goto (-29), 3) := by decide +kernel
theorem dX7_free_45 : decode cX7_free 45 = .ok (.ldc 139, 2) := by decide +kernel
theorem dX7_free_47 : decode cX7_free 47 = .ok (.ireturn, 1) := by decide +kernel
theorem dX7_sworn_0 : decode cX7_sworn 0 = .ok (.iload_n 1, 1) := by decide +kernel
theorem dX7_sworn_1 : decode cX7_sworn 1 = .ok (.iconst 1, 1) := by decide +kernel
theorem dX7_sworn_2 : decode cX7_sworn 2 = .ok (.bipush 40, 2) := by decide +kernel
theorem dX7_sworn_4 : decode cX7_sworn 4 = .ok (.invokestatic 62, 3) := by decide +kernel
theorem dX7_sworn_7 : decode cX7_sworn 7 = .ok (.ifCond .eq 12, 3) := by decide +kernel
theorem dX7_sworn_10 : decode cX7_sworn 10 = .ok (.iload_n 2, 1) := by decide +kernel
theorem dX7_sworn_11 : decode cX7_sworn 11 = .ok (.iconst 0, 1) := by decide +kernel
theorem dX7_sworn_12 : decode cX7_sworn 12 = .ok (.iconst 1, 1) := by decide +kernel
theorem dX7_sworn_13 : decode cX7_sworn 13 = .ok (.invokestatic 62, 3) := by decide +kernel
theorem dX7_sworn_16 : decode cX7_sworn 16 = .ok (.ifCond .ne 6, 3) := by decide +kernel
theorem dX7_sworn_19 : decode cX7_sworn 19 = .ok (.ldc 66, 2) := by decide +kernel
theorem dX7_sworn_21 : decode cX7_sworn 21 = .ok (.ireturn, 1) := by decide +kernel
theorem dX7_sworn_22 : decode cX7_sworn 22 = .ok (.aload_n 0, 1) := by decide +kernel
theorem dX7_sworn_23 : decode cX7_sworn 23 = .ok (.getfield 21, 3) := by decide +kernel
theorem dX7_sworn_26 : decode cX7_sworn 26 = .ok (.getfield 67, 3) := by decide +kernel
theorem dX7_sworn_29 : decode cX7_sworn 29 = .ok (.iconst 2, 1) := by decide +kernel
theorem dX7_sworn_30 : decode cX7_sworn 30 = .ok (.if_icmp .ge 6, 3) := by decide +kernel
theorem dX7_sworn_33 : decode cX7_sworn 33 = .ok (.ldc 139, 2) := by decide +kernel
theorem dX7_sworn_35 : decode cX7_sworn 35 = .ok (.ireturn, 1) := by decide +kernel
theorem dX7_sworn_36 : decode cX7_sworn 36 = .ok (.iconst (-1), 1) := by decide +kernel
theorem dX7_sworn_37 : decode cX7_sworn 37 = .ok (.istore_n 3, 1) := by decide +kernel
theorem dX7_sworn_38 : decode cX7_sworn 38 = .ok (.iconst (-1), 1) := by decide +kernel
theorem dX7_sworn_39 : decode cX7_sworn 39 = .ok (.istore 4, 2) := by decide +kernel
theorem dX7_sworn_41 : decode cX7_sworn 41 = .ok (.iconst 0, 1) := by decide +kernel
theorem dX7_sworn_42 : decode cX7_sworn 42 = .ok (.istore 5, 2) := by decide +kernel
theorem dX7_sworn_44 : decode cX7_sworn 44 = .ok (.iload 5, 2) := by decide +kernel
theorem dX7_sworn_46 : decode cX7_sworn 46 = .ok (.aload_n 0, 1) := by decide +kernel
theorem dX7_sworn_47 : decode cX7_sworn 47 = .ok (.getfield 21, 3) := by decide +kernel
theorem dX7_sworn_50 : decode cX7_sworn 50 = .ok (.getfield 67, 3) := by decide +kernel
theorem dX7_sworn_53 : decode cX7_sworn 53 = .ok (.if_icmp .ge 82, 3) := by decide +kernel
theorem dX7_sworn_56 : decode cX7_sworn 56 = .ok (.iload 5, 2) := by decide +kernel
theorem dX7_sworn_58 : decode cX7_sworn 58 = .ok (.ifCond .ne 7, 3) := by decide +kernel
theorem dX7_sworn_61 : decode cX7_sworn 61 = .ok (.iconst 1, 1) := by decide +kernel
theorem dX7_sworn_62 : decode cX7_sworn 62 = .ok (.goto 4, 3) := by decide +kernel
theorem dX7_sworn_65 : decode cX7_sworn 65 = .ok (.iconst 0, 1) := by decide +kernel
theorem dX7_sworn_66 : decode cX7_sworn 66 = .ok (.istore 6, 2) := by decide +kernel
theorem dX7_sworn_68 : decode cX7_sworn 68 = .ok (.aload_n 0, 1) := by decide +kernel
theorem dX7_sworn_69 : decode cX7_sworn 69 = .ok (.getfield 28, 3) := by decide +kernel
theorem dX7_sworn_72 : decode cX7_sworn 72 = .ok (.aload_n 0, 1) := by decide +kernel
theorem dX7_sworn_73 : decode cX7_sworn 73 = .ok (.getfield 21, 3) := by decide +kernel
theorem dX7_sworn_76 : decode cX7_sworn 76 = .ok (.invokevirtual 197, 3) := by decide +kernel
theorem dX7_sworn_79 : decode cX7_sworn 79 = .ok (.aload_n 0, 1) := by decide +kernel
theorem dX7_sworn_80 : decode cX7_sworn 80 = .ok (.getfield 28, 3) := by decide +kernel
theorem dX7_sworn_83 : decode cX7_sworn 83 = .ok (.iload 5, 2) := by decide +kernel
theorem dX7_sworn_85 : decode cX7_sworn 85 = .ok (.iload 6, 2) := by decide +kernel
theorem dX7_sworn_87 : decode cX7_sworn 87 = .ok (.iconst 0, 1) := by decide +kernel
theorem dX7_sworn_88 : decode cX7_sworn 88 = .ok (.invokevirtual 143, 3) := by decide +kernel
theorem dX7_sworn_91 : decode cX7_sworn 91 = .ok (.aload_n 0, 1) := by decide +kernel
theorem dX7_sworn_92 : decode cX7_sworn 92 = .ok (.getfield 28, 3) := by decide +kernel
theorem dX7_sworn_95 : decode cX7_sworn 95 = .ok (.iload_n 1, 1) := by decide +kernel
theorem dX7_sworn_96 : decode cX7_sworn 96 = .ok (.invokevirtual 179, 3) := by decide +kernel
theorem dX7_sworn_99 : decode cX7_sworn 99 = .ok (.aload_n 0, 1) := by decide +kernel
theorem dX7_sworn_100 : decode cX7_sworn 100 = .ok (.getfield 28, 3) := by decide +kernel
theorem dX7_sworn_103 : decode cX7_sworn 103 = .ok (.getfield 140, 3) := by decide +kernel
theorem dX7_sworn_106 : decode cX7_sworn 106 = .ok (.iload 4, 2) := by decide +kernel
theorem dX7_sworn_108 : decode cX7_sworn 108 = .ok (.if_icmp .le 21, 3) := by decide +kernel
theorem dX7_sworn_111 : decode cX7_sworn 111 = .ok (.aload_n 0, 1) := by decide +kernel
theorem dX7_sworn_112 : decode cX7_sworn 112 = .ok (.getfield 28, 3) := by decide +kernel
theorem dX7_sworn_115 : decode cX7_sworn 115 = .ok (.getfield 140, 3) := by decide +kernel
theorem dX7_sworn_118 : decode cX7_sworn 118 = .ok (.istore 4, 2) := by decide +kernel
theorem dX7_sworn_120 : decode cX7_sworn 120 = .ok (.bipush 10, 2) := by decide +kernel
theorem dX7_sworn_122 : decode cX7_sworn 122 = .ok (.iload 5, 2) := by decide +kernel
theorem dX7_sworn_124 : decode cX7_sworn 124 = .ok (.imul, 1) := by decide +kernel
theorem dX7_sworn_125 : decode cX7_sworn 125 = .ok (.iload 6, 2) := by decide +kernel
theorem dX7_sworn_127 : decode cX7_sworn 127 = .ok (.iadd, 1) := by decide +kernel
theorem dX7_sworn_128 : decode cX7_sworn 128 = .ok (.istore_n 3, 1) := by decide +kernel
theorem dX7_sworn_129 : decode cX7_sworn 129 = .ok (.iinc 5 1, 3) := by decide +kernel
theorem dX7_sworn_132 : decode cX7_sworn 132 = .ok (.goto (-88), 3) := by decide +kernel
theorem dX7_sworn_135 : decode cX7_sworn 135 = .ok (.iload_n 2, 1) := by decide +kernel
theorem dX7_sworn_136 : decode cX7_sworn 136 = .ok (.ifCond .ne 7, 3) := by decide +kernel
theorem dX7_sworn_139 : decode cX7_sworn 139 = .ok (.iload_n 3, 1) := by decide +kernel
theorem dX7_sworn_140 : decode cX7_sworn 140 = .ok (.goto 5, 3) := by decide +kernel
theorem dX7_sworn_143 : decode cX7_sworn 143 = .ok (.iload 4, 2) := by decide +kernel
theorem dX7_sworn_145 : decode cX7_sworn 145 = .ok (.ireturn, 1) := by decide +kernel
theorem dX7_trust_0 : decode cX7_trust 0 = .ok (.iload_n 1, 1) := by decide +kernel
theorem dX7_trust_1 : decode cX7_trust 1 = .ok (.iconst 1, 1) := by decide +kernel
theorem dX7_trust_2 : decode cX7_trust 2 = .ok (.bipush 60, 2) := by decide +kernel
theorem dX7_trust_4 : decode cX7_trust 4 = .ok (.invokestatic 62, 3) := by decide +kernel
theorem dX7_trust_7 : decode cX7_trust 7 = .ok (.ifCond .eq 12, 3) := by decide +kernel
theorem dX7_trust_10 : decode cX7_trust 10 = .ok (.iload_n 2, 1) := by decide +kernel
theorem dX7_trust_11 : decode cX7_trust 11 = .ok (.iconst 0, 1) := by decide +kernel
theorem dX7_trust_12 : decode cX7_trust 12 = .ok (.iconst 1, 1) := by decide +kernel
theorem dX7_trust_13 : decode cX7_trust 13 = .ok (.invokestatic 62, 3) := by decide +kernel
theorem dX7_trust_16 : decode cX7_trust 16 = .ok (.ifCond .ne 6, 3) := by decide +kernel
theorem dX7_trust_19 : decode cX7_trust 19 = .ok (.ldc 66, 2) := by decide +kernel
theorem dX7_trust_21 : decode cX7_trust 21 = .ok (.ireturn, 1) := by decide +kernel
theorem dX7_trust_22 : decode cX7_trust 22 = .ok (.ldc 139, 2) := by decide +kernel
theorem dX7_trust_24 : decode cX7_trust 24 = .ok (.istore_n 3, 1) := by decide +kernel
theorem dX7_trust_25 : decode cX7_trust 25 = .ok (.iconst (-1), 1) := by decide +kernel
theorem dX7_trust_26 : decode cX7_trust 26 = .ok (.istore 4, 2) := by decide +kernel
theorem dX7_trust_28 : decode cX7_trust 28 = .ok (.iconst 0, 1) := by decide +kernel
theorem dX7_trust_29 : decode cX7_trust 29 = .ok (.istore 5, 2) := by decide +kernel
theorem dX7_trust_31 : decode cX7_trust 31 = .ok (.iload 5, 2) := by decide +kernel
theorem dX7_trust_33 : decode cX7_trust 33 = .ok (.aload_n 0, 1) := by decide +kernel
theorem dX7_trust_34 : decode cX7_trust 34 = .ok (.getfield 21, 3) := by decide +kernel
theorem dX7_trust_37 : decode cX7_trust 37 = .ok (.getfield 67, 3) := by decide +kernel
theorem dX7_trust_40 : decode cX7_trust 40 = .ok (.if_icmp .ge 67, 3) := by decide +kernel
theorem dX7_trust_43 : decode cX7_trust 43 = .ok (.aload_n 0, 1) := by decide +kernel
theorem dX7_trust_44 : decode cX7_trust 44 = .ok (.getfield 28, 3) := by decide +kernel
theorem dX7_trust_47 : decode cX7_trust 47 = .ok (.aload_n 0, 1) := by decide +kernel
theorem dX7_trust_48 : decode cX7_trust 48 = .ok (.getfield 21, 3) := by decide +kernel
theorem dX7_trust_51 : decode cX7_trust 51 = .ok (.invokevirtual 197, 3) := by decide +kernel
theorem dX7_trust_54 : decode cX7_trust 54 = .ok (.aload_n 0, 1) := by decide +kernel
theorem dX7_trust_55 : decode cX7_trust 55 = .ok (.getfield 28, 3) := by decide +kernel
theorem dX7_trust_58 : decode cX7_trust 58 = .ok (.getfield 80, 3) := by decide +kernel
theorem dX7_trust_61 : decode cX7_trust 61 = .ok (.iload 5, 2) := by decide +kernel
theorem dX7_trust_63 : decode cX7_trust 63 = .ok (.aaload, 1) := by decide +kernel
theorem dX7_trust_64 : decode cX7_trust 64 = .ok (.bipush 99, 2) := by decide +kernel
theorem dX7_trust_66 : decode cX7_trust 66 = .ok (.putfield 92, 3) := by decide +kernel
theorem dX7_trust_69 : decode cX7_trust 69 = .ok (.aload_n 0, 1) := by decide +kernel
theorem dX7_trust_70 : decode cX7_trust 70 = .ok (.getfield 28, 3) := by decide +kernel
theorem dX7_trust_73 : decode cX7_trust 73 = .ok (.iload_n 1, 1) := by decide +kernel
theorem dX7_trust_74 : decode cX7_trust 74 = .ok (.invokevirtual 179, 3) := by decide +kernel
theorem dX7_trust_77 : decode cX7_trust 77 = .ok (.aload_n 0, 1) := by decide +kernel
theorem dX7_trust_78 : decode cX7_trust 78 = .ok (.getfield 28, 3) := by decide +kernel
theorem dX7_trust_81 : decode cX7_trust 81 = .ok (.getfield 140, 3) := by decide +kernel
theorem dX7_trust_84 : decode cX7_trust 84 = .ok (.iload 4, 2) := by decide +kernel
theorem dX7_trust_86 : decode cX7_trust 86 = .ok (.if_icmp .le 15, 3) := by decide +kernel
theorem dX7_trust_89 : decode cX7_trust 89 = .ok (.aload_n 0, 1) := by decide +kernel
theorem dX7_trust_90 : decode cX7_trust 90 = .ok (.getfield 28, 3) := by decide +kernel
theorem dX7_trust_93 : decode cX7_trust 93 = .ok (.getfield 140, 3) := by decide +kernel
theorem dX7_trust_96 : decode cX7_trust 96 = .ok (.istore 4, 2) := by decide +kernel
theorem dX7_trust_98 : decode cX7_trust 98 = .ok (.iload 5, 2) := by decide +kernel
theorem dX7_trust_100 : decode cX7_trust 100 = .ok (.istore_n 3, 1) := by decide +kernel
theorem dX7_trust_101 : decode cX7_trust 101 = .ok (.iinc 5 1, 3) := by decide +kernel
theorem dX7_trust_104 : decode cX7_trust 104 = .ok (.goto (-73), 3) := by decide +kernel
theorem dX7_trust_107 : decode cX7_trust 107 = .ok (.iload_n 2, 1) := by decide +kernel
theorem dX7_trust_108 : decode cX7_trust 108 = .ok (.ifCond .eq 9, 3) := by decide +kernel
theorem dX7_trust_111 : decode cX7_trust 111 = .ok (.iload_n 3, 1) := by decide +kernel
theorem dX7_trust_112 : decode cX7_trust 112 = .ok (.ldc 139, 2) := by decide +kernel
theorem dX7_trust_114 : decode cX7_trust 114 = .ok (.if_icmp .ne 7, 3) := by decide +kernel
theorem dX7_trust_117 : decode cX7_trust 117 = .ok (.iload_n 3, 1) := by decide +kernel
theorem dX7_trust_118 : decode cX7_trust 118 = .ok (.goto 5, 3) := by decide +kernel
theorem dX7_trust_121 : decode cX7_trust 121 = .ok (.iload 4, 2) := by decide +kernel
theorem dX7_trust_123 : decode cX7_trust 123 = .ok (.ireturn, 1) := by decide +kernel
theorem dX7_debtor_0 : decode cX7_debtor 0 = .ok (.iload_n 1, 1) := by decide +kernel
theorem dX7_debtor_1 : decode cX7_debtor 1 = .ok (.iconst 1, 1) := by decide +kernel
theorem dX7_debtor_2 : decode cX7_debtor 2 = .ok (.bipush 60, 2) := by decide +kernel
theorem dX7_debtor_4 : decode cX7_debtor 4 = .ok (.invokestatic 62, 3) := by decide +kernel
theorem dX7_debtor_7 : decode cX7_debtor 7 = .ok (.ifCond .eq 12, 3) := by decide +kernel
theorem dX7_debtor_10 : decode cX7_debtor 10 = .ok (.iload_n 2, 1) := by decide +kernel
theorem dX7_debtor_11 : decode cX7_debtor 11 = .ok (.iconst 0, 1) := by decide +kernel
theorem dX7_debtor_12 : decode cX7_debtor 12 = .ok (.iconst 1, 1) := by decide +kernel
theorem dX7_debtor_13 : decode cX7_debtor 13 = .ok (.invokestatic 62, 3) := by decide +kernel
theorem dX7_debtor_16 : decode cX7_debtor 16 = .ok (.ifCond .ne 6, 3) := by decide +kernel
theorem dX7_debtor_19 : decode cX7_debtor 19 = .ok (.ldc 66, 2) := by decide +kernel
theorem dX7_debtor_21 : decode cX7_debtor 21 = .ok (.ireturn, 1) := by decide +kernel
theorem dX7_debtor_22 : decode cX7_debtor 22 = .ok (.aload_n 0, 1) := by decide +kernel
theorem dX7_debtor_23 : decode cX7_debtor 23 = .ok (.getfield 28, 3) := by decide +kernel
theorem dX7_debtor_26 : decode cX7_debtor 26 = .ok (.aload_n 0, 1) := by decide +kernel
theorem dX7_debtor_27 : decode cX7_debtor 27 = .ok (.getfield 21, 3) := by decide +kernel
theorem dX7_debtor_30 : decode cX7_debtor 30 = .ok (.invokevirtual 197, 3) := by decide +kernel
theorem dX7_debtor_33 : decode cX7_debtor 33 = .ok (.aload_n 0, 1) := by decide +kernel
theorem dX7_debtor_34 : decode cX7_debtor 34 = .ok (.getfield 28, 3) := by decide +kernel
theorem dX7_debtor_37 : decode cX7_debtor 37 = .ok (.iload_n 1, 1) := by decide +kernel
theorem dX7_debtor_38 : decode cX7_debtor 38 = .ok (.invokevirtual 179, 3) := by decide +kernel
theorem dX7_debtor_41 : decode cX7_debtor 41 = .ok (.ldc 139, 2) := by decide +kernel
theorem dX7_debtor_43 : decode cX7_debtor 43 = .ok (.istore_n 3, 1) := by decide +kernel
theorem dX7_debtor_44 : decode cX7_debtor 44 = .ok (.iconst 0, 1) := by decide +kernel
theorem dX7_debtor_45 : decode cX7_debtor 45 = .ok (.istore 4, 2) := by decide +kernel
theorem dX7_debtor_47 : decode cX7_debtor 47 = .ok (.iconst 0, 1) := by decide +kernel
theorem dX7_debtor_48 : decode cX7_debtor 48 = .ok (.istore 5, 2) := by decide +kernel
theorem dX7_debtor_50 : decode cX7_debtor 50 = .ok (.iload 5, 2) := by decide +kernel
theorem dX7_debtor_52 : decode cX7_debtor 52 = .ok (.aload_n 0, 1) := by decide +kernel
theorem dX7_debtor_53 : decode cX7_debtor 53 = .ok (.getfield 21, 3) := by decide +kernel
theorem dX7_debtor_56 : decode cX7_debtor 56 = .ok (.getfield 67, 3) := by decide +kernel
theorem dX7_debtor_59 : decode cX7_debtor 59 = .ok (.if_icmp .ge 58, 3) := by decide +kernel
theorem dX7_debtor_62 : decode cX7_debtor 62 = .ok (.aload_n 0, 1) := by decide +kernel
theorem dX7_debtor_63 : decode cX7_debtor 63 = .ok (.getfield 21, 3) := by decide +kernel
theorem dX7_debtor_66 : decode cX7_debtor 66 = .ok (.getfield 80, 3) := by decide +kernel
theorem dX7_debtor_69 : decode cX7_debtor 69 = .ok (.iload 5, 2) := by decide +kernel
theorem dX7_debtor_71 : decode cX7_debtor 71 = .ok (.aaload, 1) := by decide +kernel
theorem dX7_debtor_72 : decode cX7_debtor 72 = .ok (.getfield 95, 3) := by decide +kernel
theorem dX7_debtor_75 : decode cX7_debtor 75 = .ok (.aload_n 0, 1) := by decide +kernel
theorem dX7_debtor_76 : decode cX7_debtor 76 = .ok (.getfield 28, 3) := by decide +kernel
theorem dX7_debtor_79 : decode cX7_debtor 79 = .ok (.getfield 80, 3) := by decide +kernel
theorem dX7_debtor_82 : decode cX7_debtor 82 = .ok (.iload 5, 2) := by decide +kernel
theorem dX7_debtor_84 : decode cX7_debtor 84 = .ok (.aaload, 1) := by decide +kernel
theorem dX7_debtor_85 : decode cX7_debtor 85 = .ok (.getfield 95, 3) := by decide +kernel
theorem dX7_debtor_88 : decode cX7_debtor 88 = .ok (.isub, 1) := by decide +kernel
theorem dX7_debtor_89 : decode cX7_debtor 89 = .ok (.istore 6, 2) := by decide +kernel
theorem dX7_debtor_91 : decode cX7_debtor 91 = .ok (.iload_n 3, 1) := by decide +kernel
theorem dX7_debtor_92 : decode cX7_debtor 92 = .ok (.ldc 139, 2) := by decide +kernel
theorem dX7_debtor_94 : decode cX7_debtor 94 = .ok (.if_icmp .eq 10, 3) := by decide +kernel
theorem dX7_debtor_97 : decode cX7_debtor 97 = .ok (.iload 6, 2) := by decide +kernel
theorem dX7_debtor_99 : decode cX7_debtor 99 = .ok (.iload 4, 2) := by decide +kernel
theorem dX7_debtor_101 : decode cX7_debtor 101 = .ok (.if_icmp .le 10, 3) := by decide +kernel
theorem dX7_debtor_104 : decode cX7_debtor 104 = .ok (.iload 6, 2) := by decide +kernel
theorem dX7_debtor_106 : decode cX7_debtor 106 = .ok (.istore 4, 2) := by decide +kernel
theorem dX7_debtor_108 : decode cX7_debtor 108 = .ok (.iload 5, 2) := by decide +kernel
theorem dX7_debtor_110 : decode cX7_debtor 110 = .ok (.istore_n 3, 1) := by decide +kernel
theorem dX7_debtor_111 : decode cX7_debtor 111 = .ok (.iinc 5 1, 3) := by decide +kernel
theorem dX7_debtor_114 : decode cX7_debtor 114 = .ok (.goto (-64), 3) := by decide +kernel
theorem dX7_debtor_117 : decode cX7_debtor 117 = .ok (.iload_n 2, 1) := by decide +kernel
theorem dX7_debtor_118 : decode cX7_debtor 118 = .ok (.ifCond .eq 9, 3) := by decide +kernel
theorem dX7_debtor_121 : decode cX7_debtor 121 = .ok (.iload_n 3, 1) := by decide +kernel
theorem dX7_debtor_122 : decode cX7_debtor 122 = .ok (.ldc 139, 2) := by decide +kernel
theorem dX7_debtor_124 : decode cX7_debtor 124 = .ok (.if_icmp .ne 7, 3) := by decide +kernel
theorem dX7_debtor_127 : decode cX7_debtor 127 = .ok (.iload_n 3, 1) := by decide +kernel
theorem dX7_debtor_128 : decode cX7_debtor 128 = .ok (.goto 5, 3) := by decide +kernel
theorem dX7_debtor_131 : decode cX7_debtor 131 = .ok (.iload 4, 2) := by decide +kernel
theorem dX7_debtor_133 : decode cX7_debtor 133 = .ok (.ireturn, 1) := by decide +kernel
theorem dX7_clock_0 : decode cX7_clock 0 = .ok (.iload_n 1, 1) := by decide +kernel
theorem dX7_clock_1 : decode cX7_clock 1 = .ok (.iconst 0, 1) := by decide +kernel
theorem dX7_clock_2 : decode cX7_clock 2 = .ok (.iconst 3, 1) := by decide +kernel
theorem dX7_clock_3 : decode cX7_clock 3 = .ok (.invokestatic 62, 3) := by decide +kernel
theorem dX7_clock_6 : decode cX7_clock 6 = .ok (.ifCond .eq 23, 3) := by decide +kernel
theorem dX7_clock_9 : decode cX7_clock 9 = .ok (.aload_n 0, 1) := by decide +kernel
theorem dX7_clock_10 : decode cX7_clock 10 = .ok (.getfield 21, 3) := by decide +kernel
theorem dX7_clock_13 : decode cX7_clock 13 = .ok (.iload_n 2, 1) := by decide +kernel
theorem dX7_clock_14 : decode cX7_clock 14 = .ok (.invokevirtual 76, 3) := by decide +kernel
theorem dX7_clock_17 : decode cX7_clock 17 = .ok (.ifCond .eq 12, 3) := by decide +kernel
theorem dX7_clock_20 : decode cX7_clock 20 = .ok (.iload_n 3, 1) := by decide +kernel
theorem dX7_clock_21 : decode cX7_clock 21 = .ok (.iconst 0, 1) := by decide +kernel
theorem dX7_clock_22 : decode cX7_clock 22 = .ok (.iconst 1, 1) := by decide +kernel
theorem dX7_clock_23 : decode cX7_clock 23 = .ok (.invokestatic 62, 3) := by decide +kernel
theorem dX7_clock_26 : decode cX7_clock 26 = .ok (.ifCond .ne 6, 3) := by decide +kernel
theorem dX7_clock_29 : decode cX7_clock 29 = .ok (.ldc 66, 2) := by decide +kernel
theorem dX7_clock_31 : decode cX7_clock 31 = .ok (.ireturn, 1) := by decide +kernel
theorem dX7_clock_32 : decode cX7_clock 32 = .ok (.aload_n 0, 1) := by decide +kernel
theorem dX7_clock_33 : decode cX7_clock 33 = .ok (.getfield 50, 3) := by decide +kernel
theorem dX7_clock_36 : decode cX7_clock 36 = .ok (.iload_n 1, 1) := by decide +kernel
theorem dX7_clock_37 : decode cX7_clock 37 = .ok (.aaload, 1) := by decide +kernel
theorem dX7_clock_38 : decode cX7_clock 38 = .ok (.invokevirtual 204, 3) := by decide +kernel
theorem dX7_clock_41 : decode cX7_clock 41 = .ok (.ifCond .eq 6, 3) := by decide +kernel
theorem dX7_clock_44 : decode cX7_clock 44 = .ok (.ldc 208, 2) := by decide +kernel
theorem dX7_clock_46 : decode cX7_clock 46 = .ok (.ireturn, 1) := by decide +kernel
theorem dX7_clock_47 : decode cX7_clock 47 = .ok (.iconst 0, 1) := by decide +kernel
theorem dX7_clock_48 : decode cX7_clock 48 = .ok (.istore 4, 2) := by decide +kernel
theorem dX7_clock_50 : decode cX7_clock 50 = .ok (.aload_n 0, 1) := by decide +kernel
theorem dX7_clock_51 : decode cX7_clock 51 = .ok (.aload_n 0, 1) := by decide +kernel
theorem dX7_clock_52 : decode cX7_clock 52 = .ok (.getfield 50, 3) := by decide +kernel
theorem dX7_clock_55 : decode cX7_clock 55 = .ok (.iload_n 1, 1) := by decide +kernel
theorem dX7_clock_56 : decode cX7_clock 56 = .ok (.aaload, 1) := by decide +kernel
theorem dX7_clock_57 : decode cX7_clock 57 = .ok (.iload_n 2, 1) := by decide +kernel
theorem dX7_clock_58 : decode cX7_clock 58 = .ok (.iconst 0, 1) := by decide +kernel
theorem dX7_clock_59 : decode cX7_clock 59 = .ok (.invokevirtual 209, 3) := by decide +kernel
theorem dX7_clock_62 : decode cX7_clock 62 = .ok (.istore 5, 2) := by decide +kernel
theorem dX7_clock_64 : decode cX7_clock 64 = .ok (.iconst 1, 1) := by decide +kernel
theorem dX7_clock_65 : decode cX7_clock 65 = .ok (.istore 6, 2) := by decide +kernel
theorem dX7_clock_67 : decode cX7_clock 67 = .ok (.iload 6, 2) := by decide +kernel
theorem dX7_clock_69 : decode cX7_clock 69 = .ok (.bipush 24, 2) := by decide +kernel
theorem dX7_clock_71 : decode cX7_clock 71 = .ok (.if_icmp .ge 39, 3) := by decide +kernel
theorem dX7_clock_74 : decode cX7_clock 74 = .ok (.aload_n 0, 1) := by decide +kernel
theorem dX7_clock_75 : decode cX7_clock 75 = .ok (.aload_n 0, 1) := by decide +kernel
theorem dX7_clock_76 : decode cX7_clock 76 = .ok (.getfield 50, 3) := by decide +kernel
theorem dX7_clock_79 : decode cX7_clock 79 = .ok (.iload_n 1, 1) := by decide +kernel
theorem dX7_clock_80 : decode cX7_clock 80 = .ok (.aaload, 1) := by decide +kernel
theorem dX7_clock_81 : decode cX7_clock 81 = .ok (.iload_n 2, 1) := by decide +kernel
theorem dX7_clock_82 : decode cX7_clock 82 = .ok (.iload 6, 2) := by decide +kernel
theorem dX7_clock_84 : decode cX7_clock 84 = .ok (.invokevirtual 209, 3) := by decide +kernel
theorem dX7_clock_87 : decode cX7_clock 87 = .ok (.istore 7, 2) := by decide +kernel
theorem dX7_clock_89 : decode cX7_clock 89 = .ok (.iload 7, 2) := by decide +kernel
theorem dX7_clock_91 : decode cX7_clock 91 = .ok (.iload 5, 2) := by decide +kernel
theorem dX7_clock_93 : decode cX7_clock 93 = .ok (.if_icmp .ge 11, 3) := by decide +kernel
theorem dX7_clock_96 : decode cX7_clock 96 = .ok (.iload 7, 2) := by decide +kernel
theorem dX7_clock_98 : decode cX7_clock 98 = .ok (.istore 5, 2) := by decide +kernel
theorem dX7_clock_100 : decode cX7_clock 100 = .ok (.iload 6, 2) := by decide +kernel
theorem dX7_clock_102 : decode cX7_clock 102 = .ok (.istore 4, 2) := by decide +kernel
theorem dX7_clock_104 : decode cX7_clock 104 = .ok (.iinc 6 1, 3) := by decide +kernel
theorem dX7_clock_107 : decode cX7_clock 107 = .ok (.goto (-40), 3) := by decide +kernel
theorem dX7_clock_110 : decode cX7_clock 110 = .ok (.iload_n 3, 1) := by decide +kernel
theorem dX7_clock_111 : decode cX7_clock 111 = .ok (.ifCond .ne 8, 3) := by decide +kernel
theorem dX7_clock_114 : decode cX7_clock 114 = .ok (.iload 4, 2) := by decide +kernel
theorem dX7_clock_116 : decode cX7_clock 116 = .ok (.goto 5, 3) := by decide +kernel
theorem dX7_clock_119 : decode cX7_clock 119 = .ok (.iload 5, 2) := by decide +kernel
theorem dX7_clock_121 : decode cX7_clock 121 = .ok (.ireturn, 1) := by decide +kernel
theorem dX7_differencesWithEast_0 : decode cX7_differencesWithEast 0 = .ok (.aload_n 0, 1) := by decide +kernel
theorem dX7_differencesWithEast_1 : decode cX7_differencesWithEast 1 = .ok (.getfield 28, 3) := by decide +kernel
theorem dX7_differencesWithEast_4 : decode cX7_differencesWithEast 4 = .ok (.aload_n 0, 1) := by decide +kernel
theorem dX7_differencesWithEast_5 : decode cX7_differencesWithEast 5 = .ok (.getfield 21, 3) := by decide +kernel
theorem dX7_differencesWithEast_8 : decode cX7_differencesWithEast 8 = .ok (.invokevirtual 197, 3) := by decide +kernel
theorem dX7_differencesWithEast_11 : decode cX7_differencesWithEast 11 = .ok (.aload_n 0, 1) := by decide +kernel
theorem dX7_differencesWithEast_12 : decode cX7_differencesWithEast 12 = .ok (.getfield 28, 3) := by decide +kernel
theorem dX7_differencesWithEast_15 : decode cX7_differencesWithEast 15 = .ok (.getfield 80, 3) := by decide +kernel
theorem dX7_differencesWithEast_18 : decode cX7_differencesWithEast 18 = .ok (.iload_n 2, 1) := by decide +kernel
theorem dX7_differencesWithEast_19 : decode cX7_differencesWithEast 19 = .ok (.aaload, 1) := by decide +kernel
theorem dX7_differencesWithEast_20 : decode cX7_differencesWithEast 20 = .ok (.iload_n 3, 1) := by decide +kernel
theorem dX7_differencesWithEast_21 : decode cX7_differencesWithEast 21 = .ok (.putfield 89, 3) := by decide +kernel
theorem dX7_differencesWithEast_24 : decode cX7_differencesWithEast 24 = .ok (.iconst 0, 1) := by decide +kernel
theorem dX7_differencesWithEast_25 : decode cX7_differencesWithEast 25 = .ok (.istore 4, 2) := by decide +kernel
theorem dX7_differencesWithEast_27 : decode cX7_differencesWithEast 27 = .ok (.iconst 0, 1) := by decide +kernel
theorem dX7_differencesWithEast_28 : decode cX7_differencesWithEast 28 = .ok (.istore 5, 2) := by decide +kernel
theorem dX7_differencesWithEast_30 : decode cX7_differencesWithEast 30 = .ok (.iload 5, 2) := by decide +kernel
theorem dX7_differencesWithEast_32 : decode cX7_differencesWithEast 32 = .ok (.aload_n 1, 1) := by decide +kernel
theorem dX7_differencesWithEast_33 : decode cX7_differencesWithEast 33 = .ok (.getfield 213, 3) := by decide +kernel
theorem dX7_differencesWithEast_36 : decode cX7_differencesWithEast 36 = .ok (.if_icmp .ge 49, 3) := by decide +kernel
theorem dX7_differencesWithEast_39 : decode cX7_differencesWithEast 39 = .ok (.aload_n 1, 1) := by decide +kernel
theorem dX7_differencesWithEast_40 : decode cX7_differencesWithEast 40 = .ok (.iload 5, 2) := by decide +kernel
theorem dX7_differencesWithEast_42 : decode cX7_differencesWithEast 42 = .ok (.invokevirtual 216, 3) := by decide +kernel
theorem dX7_differencesWithEast_45 : decode cX7_differencesWithEast 45 = .ok (.ifCond .eq 27, 3) := by decide +kernel
theorem dX7_differencesWithEast_48 : decode cX7_differencesWithEast 48 = .ok (.iload 4, 2) := by decide +kernel
theorem dX7_differencesWithEast_50 : decode cX7_differencesWithEast 50 = .ok (.aload_n 0, 1) := by decide +kernel
theorem dX7_differencesWithEast_51 : decode cX7_differencesWithEast 51 = .ok (.getfield 28, 3) := by decide +kernel
theorem dX7_differencesWithEast_54 : decode cX7_differencesWithEast 54 = .ok (.iload_n 2, 1) := by decide +kernel
theorem dX7_differencesWithEast_55 : decode cX7_differencesWithEast 55 = .ok (.invokevirtual 98, 3) := by decide +kernel
theorem dX7_differencesWithEast_58 : decode cX7_differencesWithEast 58 = .ok (.aload_n 1, 1) := by decide +kernel
theorem dX7_differencesWithEast_59 : decode cX7_differencesWithEast 59 = .ok (.getfield 219, 3) := by decide +kernel
theorem dX7_differencesWithEast_62 : decode cX7_differencesWithEast 62 = .ok (.iload 5, 2) := by decide +kernel
theorem dX7_differencesWithEast_64 : decode cX7_differencesWithEast 64 = .ok (.iaload, 1) := by decide +kernel
theorem dX7_differencesWithEast_65 : decode cX7_differencesWithEast 65 = .ok (.isub, 1) := by decide +kernel
theorem dX7_differencesWithEast_66 : decode cX7_differencesWithEast 66 = .ok (.invokestatic 222, 3) := by decide +kernel
theorem dX7_differencesWithEast_69 : decode cX7_differencesWithEast 69 = .ok (.iadd, 1) := by decide +kernel
theorem dX7_differencesWithEast_70 : decode cX7_differencesWithEast 70 = .ok (.istore 4, 2) := by decide +kernel
theorem dX7_differencesWithEast_72 : decode cX7_differencesWithEast 72 = .ok (.aload_n 0, 1) := by decide +kernel
theorem dX7_differencesWithEast_73 : decode cX7_differencesWithEast 73 = .ok (.getfield 28, 3) := by decide +kernel
theorem dX7_differencesWithEast_76 : decode cX7_differencesWithEast 76 = .ok (.invokevirtual 201, 3) := by decide +kernel
theorem dX7_differencesWithEast_79 : decode cX7_differencesWithEast 79 = .ok (.iinc 5 1, 3) := by decide +kernel
theorem dX7_differencesWithEast_82 : decode cX7_differencesWithEast 82 = .ok (.goto (-52), 3) := by decide +kernel
theorem dX7_differencesWithEast_85 : decode cX7_differencesWithEast 85 = .ok (.iload 4, 2) := by decide +kernel
theorem dX7_differencesWithEast_87 : decode cX7_differencesWithEast 87 = .ok (.ireturn, 1) := by decide +kernel
theorem dX7_fee_0 : decode cX7_fee 0 = .ok (.aload_n 0, 1) := by decide +kernel
theorem dX7_fee_1 : decode cX7_fee 1 = .ok (.getfield 21, 3) := by decide +kernel
theorem dX7_fee_4 : decode cX7_fee 4 = .ok (.getfield 225, 3) := by decide +kernel
theorem dX7_fee_7 : decode cX7_fee 7 = .ok (.iconst 1, 1) := by decide +kernel
theorem dX7_fee_8 : decode cX7_fee 8 = .ok (.iaload, 1) := by decide +kernel
theorem dX7_fee_9 : decode cX7_fee 9 = .ok (.istore_n 1, 1) := by decide +kernel
theorem dX7_fee_10 : decode cX7_fee 10 = .ok (.iload_n 1, 1) := by decide +kernel
theorem dX7_fee_11 : decode cX7_fee 11 = .ok (.ifCond .ge 13, 3) := by decide +kernel
theorem dX7_fee_14 : decode cX7_fee 14 = .ok (.aload_n 0, 1) := by decide +kernel
theorem dX7_fee_15 : decode cX7_fee 15 = .ok (.getfield 21, 3) := by decide +kernel
theorem dX7_fee_18 : decode cX7_fee 18 = .ok (.getfield 164, 3) := by decide +kernel
theorem dX7_fee_21 : decode cX7_fee 21 = .ok (.goto 26, 3) := by decide +kernel
theorem dX7_fee_24 : decode cX7_fee 24 = .ok (.aload_n 0, 1) := by decide +kernel
theorem dX7_fee_25 : decode cX7_fee 25 = .ok (.getfield 10, 3) := by decide +kernel
theorem dX7_fee_28 : decode cX7_fee 28 = .ok (.iload_n 1, 1) := by decide +kernel
theorem dX7_fee_29 : decode cX7_fee 29 = .ok (.aload_n 0, 1) := by decide +kernel
theorem dX7_fee_30 : decode cX7_fee 30 = .ok (.getfield 21, 3) := by decide +kernel
theorem dX7_fee_33 : decode cX7_fee 33 = .ok (.getfield 182, 3) := by decide +kernel
theorem dX7_fee_36 : decode cX7_fee 36 = .ok (.aload_n 0, 1) := by decide +kernel
theorem dX7_fee_37 : decode cX7_fee 37 = .ok (.getfield 21, 3) := by decide +kernel
theorem dX7_fee_40 : decode cX7_fee 40 = .ok (.getfield 164, 3) := by decide +kernel
theorem dX7_fee_43 : decode cX7_fee 43 = .ok (.iconst 0, 1) := by decide +kernel
theorem dX7_fee_44 : decode cX7_fee 44 = .ok (.invokevirtual 228, 3) := by decide +kernel
theorem dX7_fee_47 : decode cX7_fee 47 = .ok (.ireturn, 1) := by decide +kernel
theorem dX7_fine_0 : decode cX7_fine 0 = .ok (.aload_n 0, 1) := by decide +kernel
theorem dX7_fine_1 : decode cX7_fine 1 = .ok (.getfield 21, 3) := by decide +kernel
theorem dX7_fine_4 : decode cX7_fine 4 = .ok (.iload_n 1, 1) := by decide +kernel
theorem dX7_fine_5 : decode cX7_fine 5 = .ok (.invokevirtual 76, 3) := by decide +kernel
theorem dX7_fine_8 : decode cX7_fine 8 = .ok (.ifCond .ne 6, 3) := by decide +kernel
theorem dX7_fine_11 : decode cX7_fine 11 = .ok (.ldc 66, 2) := by decide +kernel
theorem dX7_fine_13 : decode cX7_fine 13 = .ok (.ireturn, 1) := by decide +kernel
theorem dX7_fine_14 : decode cX7_fine 14 = .ok (.aload_n 0, 1) := by decide +kernel
theorem dX7_fine_15 : decode cX7_fine 15 = .ok (.getfield 21, 3) := by decide +kernel
theorem dX7_fine_18 : decode cX7_fine 18 = .ok (.getfield 80, 3) := by decide +kernel
theorem dX7_fine_21 : decode cX7_fine 21 = .ok (.iload_n 1, 1) := by decide +kernel
theorem dX7_fine_22 : decode cX7_fine 22 = .ok (.aaload, 1) := by decide +kernel
theorem dX7_fine_23 : decode cX7_fine 23 = .ok (.astore_n 2, 1) := by decide +kernel
theorem dX7_fine_24 : decode cX7_fine 24 = .ok (.aload_n 0, 1) := by decide +kernel
theorem dX7_fine_25 : decode cX7_fine 25 = .ok (.getfield 21, 3) := by decide +kernel
theorem dX7_fine_28 : decode cX7_fine 28 = .ok (.getfield 225, 3) := by decide +kernel
theorem dX7_fine_31 : decode cX7_fine 31 = .ok (.iconst 2, 1) := by decide +kernel
theorem dX7_fine_32 : decode cX7_fine 32 = .ok (.iaload, 1) := by decide +kernel
theorem dX7_fine_33 : decode cX7_fine 33 = .ok (.istore_n 3, 1) := by decide +kernel
theorem dX7_fine_34 : decode cX7_fine 34 = .ok (.iload_n 3, 1) := by decide +kernel
theorem dX7_fine_35 : decode cX7_fine 35 = .ok (.ifCond .ge 10, 3) := by decide +kernel
theorem dX7_fine_38 : decode cX7_fine 38 = .ok (.aload_n 2, 1) := by decide +kernel
theorem dX7_fine_39 : decode cX7_fine 39 = .ok (.getfield 95, 3) := by decide +kernel
theorem dX7_fine_42 : decode cX7_fine 42 = .ok (.goto 20, 3) := by decide +kernel
theorem dX7_fine_45 : decode cX7_fine 45 = .ok (.aload_n 0, 1) := by decide +kernel
theorem dX7_fine_46 : decode cX7_fine 46 = .ok (.getfield 10, 3) := by decide +kernel
theorem dX7_fine_49 : decode cX7_fine 49 = .ok (.iload_n 3, 1) := by decide +kernel
theorem dX7_fine_50 : decode cX7_fine 50 = .ok (.aload_n 2, 1) := by decide +kernel
theorem dX7_fine_51 : decode cX7_fine 51 = .ok (.getfield 95, 3) := by decide +kernel
theorem dX7_fine_54 : decode cX7_fine 54 = .ok (.aload_n 2, 1) := by decide +kernel
theorem dX7_fine_55 : decode cX7_fine 55 = .ok (.getfield 89, 3) := by decide +kernel
theorem dX7_fine_58 : decode cX7_fine 58 = .ok (.iconst 0, 1) := by decide +kernel
theorem dX7_fine_59 : decode cX7_fine 59 = .ok (.invokevirtual 228, 3) := by decide +kernel
theorem dX7_fine_62 : decode cX7_fine 62 = .ok (.ireturn, 1) := by decide +kernel
theorem dX7_feed_0 : decode cX7_feed 0 = .ok (.aload_n 0, 1) := by decide +kernel
theorem dX7_feed_1 : decode cX7_feed 1 = .ok (.getfield 232, 3) := by decide +kernel
theorem dX7_feed_4 : decode cX7_feed 4 = .ok (.bipush 84, 2) := by decide +kernel
theorem dX7_feed_6 : decode cX7_feed 6 = .ok (.if_icmp .le 6, 3) := by decide +kernel
theorem dX7_feed_9 : decode cX7_feed 9 = .ok (.ldc 71, 2) := by decide +kernel
theorem dX7_feed_11 : decode cX7_feed 11 = .ok (.ireturn, 1) := by decide +kernel
theorem dX7_feed_12 : decode cX7_feed 12 = .ok (.aload_n 0, 1) := by decide +kernel
theorem dX7_feed_13 : decode cX7_feed 13 = .ok (.iload_n 1, 1) := by decide +kernel
theorem dX7_feed_14 : decode cX7_feed 14 = .ok (.invokevirtual 235, 3) := by decide +kernel
theorem dX7_feed_17 : decode cX7_feed 17 = .ok (.aload_n 0, 1) := by decide +kernel
theorem dX7_feed_18 : decode cX7_feed 18 = .ok (.iload_n 2, 1) := by decide +kernel
theorem dX7_feed_19 : decode cX7_feed 19 = .ok (.invokevirtual 235, 3) := by decide +kernel
theorem dX7_feed_22 : decode cX7_feed 22 = .ok (.aload_n 0, 1) := by decide +kernel
theorem dX7_feed_23 : decode cX7_feed 23 = .ok (.iload_n 3, 1) := by decide +kernel
theorem dX7_feed_24 : decode cX7_feed 24 = .ok (.invokevirtual 235, 3) := by decide +kernel
theorem dX7_feed_27 : decode cX7_feed 27 = .ok (.aload_n 0, 1) := by decide +kernel
theorem dX7_feed_28 : decode cX7_feed 28 = .ok (.getfield 232, 3) := by decide +kernel
theorem dX7_feed_31 : decode cX7_feed 31 = .ok (.ireturn, 1) := by decide +kernel
theorem dX7_putBytes_0 : decode cX7_putBytes 0 = .ok (.bipush 24, 2) := by decide +kernel
theorem dX7_putBytes_2 : decode cX7_putBytes 2 = .ok (.istore_n 2, 1) := by decide +kernel
theorem dX7_putBytes_3 : decode cX7_putBytes 3 = .ok (.iload_n 2, 1) := by decide +kernel
theorem dX7_putBytes_4 : decode cX7_putBytes 4 = .ok (.ifCond .lt 32, 3) := by decide +kernel
theorem dX7_putBytes_7 : decode cX7_putBytes 7 = .ok (.aload_n 0, 1) := by decide +kernel
theorem dX7_putBytes_8 : decode cX7_putBytes 8 = .ok (.getfield 31, 3) := by decide +kernel
theorem dX7_putBytes_11 : decode cX7_putBytes 11 = .ok (.aload_n 0, 1) := by decide +kernel
theorem dX7_putBytes_12 : decode cX7_putBytes 12 = .ok (.getfield 232, 3) := by decide +kernel
theorem dX7_putBytes_15 : decode cX7_putBytes 15 = .ok (.iload_n 1, 1) := by decide +kernel
theorem dX7_putBytes_16 : decode cX7_putBytes 16 = .ok (.iload_n 2, 1) := by decide +kernel
theorem dX7_putBytes_17 : decode cX7_putBytes 17 = .ok (.ishr, 1) := by decide +kernel
theorem dX7_putBytes_18 : decode cX7_putBytes 18 = .ok (.i2b, 1) := by decide +kernel
theorem dX7_putBytes_19 : decode cX7_putBytes 19 = .ok (.bastore, 1) := by decide +kernel
theorem dX7_putBytes_20 : decode cX7_putBytes 20 = .ok (.aload_n 0, 1) := by decide +kernel
theorem dX7_putBytes_21 : decode cX7_putBytes 21 = .ok (.dup, 1) := by decide +kernel
theorem dX7_putBytes_22 : decode cX7_putBytes 22 = .ok (.getfield 232, 3) := by decide +kernel
theorem dX7_putBytes_25 : decode cX7_putBytes 25 = .ok (.iconst 1, 1) := by decide +kernel
theorem dX7_putBytes_26 : decode cX7_putBytes 26 = .ok (.iadd, 1) := by decide +kernel
theorem dX7_putBytes_27 : decode cX7_putBytes 27 = .ok (.putfield 232, 3) := by decide +kernel
theorem dX7_putBytes_30 : decode cX7_putBytes 30 = .ok (.iinc 2 (-8), 3) := by decide +kernel
theorem dX7_putBytes_33 : decode cX7_putBytes 33 = .ok (.goto (-30), 3) := by decide +kernel
theorem dX7_putBytes_36 : decode cX7_putBytes 36 = .ok (.return_, 1) := by decide +kernel
theorem dX7_trim_0 : decode cX7_trim 0 = .ok (.iload_n 1, 1) := by decide +kernel
theorem dX7_trim_1 : decode cX7_trim 1 = .ok (.iconst 0, 1) := by decide +kernel
theorem dX7_trim_2 : decode cX7_trim 2 = .ok (.aload_n 0, 1) := by decide +kernel
theorem dX7_trim_3 : decode cX7_trim 3 = .ok (.getfield 232, 3) := by decide +kernel
theorem dX7_trim_6 : decode cX7_trim 6 = .ok (.invokestatic 62, 3) := by decide +kernel
theorem dX7_trim_9 : decode cX7_trim 9 = .ok (.ifCond .ne 6, 3) := by decide +kernel
theorem dX7_trim_12 : decode cX7_trim 12 = .ok (.ldc 66, 2) := by decide +kernel
theorem dX7_trim_14 : decode cX7_trim 14 = .ok (.ireturn, 1) := by decide +kernel
theorem dX7_trim_15 : decode cX7_trim 15 = .ok (.aload_n 0, 1) := by decide +kernel
theorem dX7_trim_16 : decode cX7_trim 16 = .ok (.iload_n 1, 1) := by decide +kernel
theorem dX7_trim_17 : decode cX7_trim 17 = .ok (.putfield 232, 3) := by decide +kernel
theorem dX7_trim_20 : decode cX7_trim 20 = .ok (.iload_n 1, 1) := by decide +kernel
theorem dX7_trim_21 : decode cX7_trim 21 = .ok (.ireturn, 1) := by decide +kernel
theorem dX7_text_0 : decode cX7_text 0 = .ok (.aload_n 0, 1) := by decide +kernel
theorem dX7_text_1 : decode cX7_text 1 = .ok (.getfield 21, 3) := by decide +kernel
theorem dX7_text_4 : decode cX7_text 4 = .ok (.getfield 238, 3) := by decide +kernel
theorem dX7_text_7 : decode cX7_text 7 = .ok (.istore_n 1, 1) := by decide +kernel
theorem dX7_text_8 : decode cX7_text 8 = .ok (.aload_n 0, 1) := by decide +kernel
theorem dX7_text_9 : decode cX7_text 9 = .ok (.getfield 10, 3) := by decide +kernel
theorem dX7_text_12 : decode cX7_text 12 = .ok (.getfield 241, 3) := by decide +kernel
theorem dX7_text_15 : decode cX7_text 15 = .ok (.iload_n 1, 1) := by decide +kernel
theorem dX7_text_16 : decode cX7_text 16 = .ok (.aaload, 1) := by decide +kernel
theorem dX7_text_17 : decode cX7_text 17 = .ok (.astore_n 2, 1) := by decide +kernel
theorem dX7_text_18 : decode cX7_text 18 = .ok (.aload_n 0, 1) := by decide +kernel
theorem dX7_text_19 : decode cX7_text 19 = .ok (.getfield 40, 3) := by decide +kernel
theorem dX7_text_22 : decode cX7_text 22 = .ok (.aload_n 0, 1) := by decide +kernel
theorem dX7_text_23 : decode cX7_text 23 = .ok (.getfield 232, 3) := by decide +kernel
theorem dX7_text_26 : decode cX7_text 26 = .ok (.aload_n 2, 1) := by decide +kernel
theorem dX7_text_27 : decode cX7_text 27 = .ok (.invokevirtual 245, 3) := by decide +kernel
theorem dX7_text_30 : decode cX7_text 30 = .ok (.istore_n 3, 1) := by decide +kernel
theorem dX7_text_31 : decode cX7_text 31 = .ok (.aload_n 0, 1) := by decide +kernel
theorem dX7_text_32 : decode cX7_text 32 = .ok (.iconst 0, 1) := by decide +kernel
theorem dX7_text_33 : decode cX7_text 33 = .ok (.putfield 232, 3) := by decide +kernel
theorem dX7_text_36 : decode cX7_text 36 = .ok (.iload_n 3, 1) := by decide +kernel
theorem dX7_text_37 : decode cX7_text 37 = .ok (.ifCond .ne 14, 3) := by decide +kernel
theorem dX7_text_40 : decode cX7_text 40 = .ok (.bipush (-100), 2) := by decide +kernel
theorem dX7_text_42 : decode cX7_text 42 = .ok (.aload_n 0, 1) := by decide +kernel
theorem dX7_text_43 : decode cX7_text 43 = .ok (.getfield 40, 3) := by decide +kernel
theorem dX7_text_46 : decode cX7_text 46 = .ok (.getfield 249, 3) := by decide +kernel
theorem dX7_text_49 : decode cX7_text 49 = .ok (.isub, 1) := by decide +kernel
theorem dX7_text_50 : decode cX7_text 50 = .ok (.ireturn, 1) := by decide +kernel
theorem dX7_text_51 : decode cX7_text 51 = .ok (.iload_n 1, 1) := by decide +kernel
theorem dX7_text_52 : decode cX7_text 52 = .ok (.bipush 14, 2) := by decide +kernel
theorem dX7_text_54 : decode cX7_text 54 = .ok (.if_icmp .lt 6, 3) := by decide +kernel
theorem dX7_text_57 : decode cX7_text 57 = .ok (.ldc 71, 2) := by decide +kernel
theorem dX7_text_59 : decode cX7_text 59 = .ok (.ireturn, 1) := by decide +kernel
theorem dX7_text_60 : decode cX7_text 60 = .ok (.aload_n 0, 1) := by decide +kernel
theorem dX7_text_61 : decode cX7_text 61 = .ok (.getfield 21, 3) := by decide +kernel
theorem dX7_text_64 : decode cX7_text 64 = .ok (.dup, 1) := by decide +kernel
theorem dX7_text_65 : decode cX7_text 65 = .ok (.getfield 238, 3) := by decide +kernel
theorem dX7_text_68 : decode cX7_text 68 = .ok (.iconst 1, 1) := by decide +kernel
theorem dX7_text_69 : decode cX7_text 69 = .ok (.iadd, 1) := by decide +kernel
theorem dX7_text_70 : decode cX7_text 70 = .ok (.putfield 238, 3) := by decide +kernel
theorem dX7_text_73 : decode cX7_text 73 = .ok (.aload_n 0, 1) := by decide +kernel
theorem dX7_text_74 : decode cX7_text 74 = .ok (.getfield 21, 3) := by decide +kernel
theorem dX7_text_77 : decode cX7_text 77 = .ok (.getfield 225, 3) := by decide +kernel
theorem dX7_text_80 : decode cX7_text 80 = .ok (.aload_n 2, 1) := by decide +kernel
theorem dX7_text_81 : decode cX7_text 81 = .ok (.getfield 252, 3) := by decide +kernel
theorem dX7_text_84 : decode cX7_text 84 = .ok (.iload_n 1, 1) := by decide +kernel
theorem dX7_text_85 : decode cX7_text 85 = .ok (.iastore, 1) := by decide +kernel
theorem dX7_text_86 : decode cX7_text 86 = .ok (.iload_n 1, 1) := by decide +kernel
theorem dX7_text_87 : decode cX7_text 87 = .ok (.ireturn, 1) := by decide +kernel
theorem dX7_textTold_0 : decode cX7_textTold 0 = .ok (.iload_n 1, 1) := by decide +kernel
theorem dX7_textTold_1 : decode cX7_textTold 1 = .ok (.iconst 0, 1) := by decide +kernel
theorem dX7_textTold_2 : decode cX7_textTold 2 = .ok (.aload_n 0, 1) := by decide +kernel
theorem dX7_textTold_3 : decode cX7_textTold 3 = .ok (.getfield 21, 3) := by decide +kernel
theorem dX7_textTold_6 : decode cX7_textTold 6 = .ok (.getfield 238, 3) := by decide +kernel
theorem dX7_textTold_9 : decode cX7_textTold 9 = .ok (.iconst 1, 1) := by decide +kernel
theorem dX7_textTold_10 : decode cX7_textTold 10 = .ok (.isub, 1) := by decide +kernel
theorem dX7_textTold_11 : decode cX7_textTold 11 = .ok (.invokestatic 62, 3) := by decide +kernel
theorem dX7_textTold_14 : decode cX7_textTold 14 = .ok (.ifCond .ne 6, 3) := by decide +kernel
theorem dX7_textTold_17 : decode cX7_textTold 17 = .ok (.ldc 66, 2) := by decide +kernel
theorem dX7_textTold_19 : decode cX7_textTold 19 = .ok (.ireturn, 1) := by decide +kernel
theorem dX7_textTold_20 : decode cX7_textTold 20 = .ok (.iload_n 2, 1) := by decide +kernel
theorem dX7_textTold_21 : decode cX7_textTold 21 = .ok (.lookupswitch 53 #[(0, 27), (1, 40)], 27) := by decide +kernel
theorem dX7_textTold_48 : decode cX7_textTold 48 = .ok (.aload_n 0, 1) := by decide +kernel
theorem dX7_textTold_49 : decode cX7_textTold 49 = .ok (.getfield 10, 3) := by decide +kernel
theorem dX7_textTold_52 : decode cX7_textTold 52 = .ok (.getfield 241, 3) := by decide +kernel
theorem dX7_textTold_55 : decode cX7_textTold 55 = .ok (.iload_n 1, 1) := by decide +kernel
theorem dX7_textTold_56 : decode cX7_textTold 56 = .ok (.aaload, 1) := by decide +kernel
theorem dX7_textTold_57 : decode cX7_textTold 57 = .ok (.getfield 252, 3) := by decide +kernel
theorem dX7_textTold_60 : decode cX7_textTold 60 = .ok (.ireturn, 1) := by decide +kernel
theorem dX7_textTold_61 : decode cX7_textTold 61 = .ok (.aload_n 0, 1) := by decide +kernel
theorem dX7_textTold_62 : decode cX7_textTold 62 = .ok (.getfield 10, 3) := by decide +kernel
theorem dX7_textTold_65 : decode cX7_textTold 65 = .ok (.getfield 241, 3) := by decide +kernel
theorem dX7_textTold_68 : decode cX7_textTold 68 = .ok (.iload_n 1, 1) := by decide +kernel
theorem dX7_textTold_69 : decode cX7_textTold 69 = .ok (.aaload, 1) := by decide +kernel
theorem dX7_textTold_70 : decode cX7_textTold 70 = .ok (.getfield 257, 3) := by decide +kernel
theorem dX7_textTold_73 : decode cX7_textTold 73 = .ok (.ireturn, 1) := by decide +kernel
theorem dX7_textTold_74 : decode cX7_textTold 74 = .ok (.ldc 66, 2) := by decide +kernel
theorem dX7_textTold_76 : decode cX7_textTold 76 = .ok (.ireturn, 1) := by decide +kernel
theorem dX7_why_0 : decode cX7_why 0 = .ok (.iload_n 1, 1) := by decide +kernel
theorem dX7_why_1 : decode cX7_why 1 = .ok (.iconst 0, 1) := by decide +kernel
theorem dX7_why_2 : decode cX7_why 2 = .ok (.iconst 2, 1) := by decide +kernel
theorem dX7_why_3 : decode cX7_why 3 = .ok (.invokestatic 62, 3) := by decide +kernel
theorem dX7_why_6 : decode cX7_why 6 = .ok (.ifCond .ne 6, 3) := by decide +kernel
theorem dX7_why_9 : decode cX7_why 9 = .ok (.ldc 66, 2) := by decide +kernel
theorem dX7_why_11 : decode cX7_why 11 = .ok (.ireturn, 1) := by decide +kernel
theorem dX7_why_12 : decode cX7_why 12 = .ok (.aload_n 0, 1) := by decide +kernel
theorem dX7_why_13 : decode cX7_why 13 = .ok (.getfield 21, 3) := by decide +kernel
theorem dX7_why_16 : decode cX7_why 16 = .ok (.getfield 225, 3) := by decide +kernel
theorem dX7_why_19 : decode cX7_why 19 = .ok (.iload_n 1, 1) := by decide +kernel
theorem dX7_why_20 : decode cX7_why 20 = .ok (.iaload, 1) := by decide +kernel
theorem dX7_why_21 : decode cX7_why 21 = .ok (.ifCond .ge 8, 3) := by decide +kernel
theorem dX7_why_24 : decode cX7_why 24 = .ok (.ldc 139, 2) := by decide +kernel
theorem dX7_why_26 : decode cX7_why 26 = .ok (.goto 12, 3) := by decide +kernel
theorem dX7_why_29 : decode cX7_why 29 = .ok (.aload_n 0, 1) := by decide +kernel
theorem dX7_why_30 : decode cX7_why 30 = .ok (.getfield 21, 3) := by decide +kernel
theorem dX7_why_33 : decode cX7_why 33 = .ok (.getfield 225, 3) := by decide +kernel
theorem dX7_why_36 : decode cX7_why 36 = .ok (.iload_n 1, 1) := by decide +kernel
theorem dX7_why_37 : decode cX7_why 37 = .ok (.iaload, 1) := by decide +kernel
theorem dX7_why_38 : decode cX7_why 38 = .ok (.ireturn, 1) := by decide +kernel
theorem dX7_sheet_0 : decode cX7_sheet 0 = .ok (.iload_n 1, 1) := by decide +kernel
theorem dX7_sheet_1 : decode cX7_sheet 1 = .ok (.iconst 0, 1) := by decide +kernel
theorem dX7_sheet_2 : decode cX7_sheet 2 = .ok (.iconst 3, 1) := by decide +kernel
theorem dX7_sheet_3 : decode cX7_sheet 3 = .ok (.invokestatic 62, 3) := by decide +kernel
theorem dX7_sheet_6 : decode cX7_sheet 6 = .ok (.ifCond .eq 12, 3) := by decide +kernel
theorem dX7_sheet_9 : decode cX7_sheet 9 = .ok (.iload_n 2, 1) := by decide +kernel
theorem dX7_sheet_10 : decode cX7_sheet 10 = .ok (.iconst (-1), 1) := by decide +kernel
theorem dX7_sheet_11 : decode cX7_sheet 11 = .ok (.iconst 1, 1) := by decide +kernel
theorem dX7_sheet_12 : decode cX7_sheet 12 = .ok (.invokestatic 62, 3) := by decide +kernel
theorem dX7_sheet_15 : decode cX7_sheet 15 = .ok (.ifCond .ne 6, 3) := by decide +kernel
theorem dX7_sheet_18 : decode cX7_sheet 18 = .ok (.ldc 66, 2) := by decide +kernel
theorem dX7_sheet_20 : decode cX7_sheet 20 = .ok (.ireturn, 1) := by decide +kernel
theorem dX7_sheet_21 : decode cX7_sheet 21 = .ok (.iload_n 2, 1) := by decide +kernel
theorem dX7_sheet_22 : decode cX7_sheet 22 = .ok (.iconst (-1), 1) := by decide +kernel
theorem dX7_sheet_23 : decode cX7_sheet 23 = .ok (.if_icmp .ne 16, 3) := by decide +kernel
theorem dX7_sheet_26 : decode cX7_sheet 26 = .ok (.aload_n 0, 1) := by decide +kernel
theorem dX7_sheet_27 : decode cX7_sheet 27 = .ok (.getfield 50, 3) := by decide +kernel
theorem dX7_sheet_30 : decode cX7_sheet 30 = .ok (.iload_n 1, 1) := by decide +kernel
theorem dX7_sheet_31 : decode cX7_sheet 31 = .ok (.aaload, 1) := by decide +kernel
theorem dX7_sheet_32 : decode cX7_sheet 32 = .ok (.iconst (-1), 1) := by decide +kernel
theorem dX7_sheet_33 : decode cX7_sheet 33 = .ok (.iconst 0, 1) := by decide +kernel
theorem dX7_sheet_34 : decode cX7_sheet 34 = .ok (.invokevirtual 260, 3) := by decide +kernel
theorem dX7_sheet_37 : decode cX7_sheet 37 = .ok (.iconst 0, 1) := by decide +kernel
theorem dX7_sheet_38 : decode cX7_sheet 38 = .ok (.ireturn, 1) := by decide +kernel
theorem dX7_sheet_39 : decode cX7_sheet 39 = .ok (.iload_n 3, 1) := by decide +kernel
theorem dX7_sheet_40 : decode cX7_sheet 40 = .ok (.bipush 24, 2) := by decide +kernel
theorem dX7_sheet_42 : decode cX7_sheet 42 = .ok (.if_icmp .le 6, 3) := by decide +kernel
theorem dX7_sheet_45 : decode cX7_sheet 45 = .ok (.ldc 66, 2) := by decide +kernel
theorem dX7_sheet_47 : decode cX7_sheet 47 = .ok (.ireturn, 1) := by decide +kernel
theorem dX7_sheet_48 : decode cX7_sheet 48 = .ok (.iload_n 3, 1) := by decide +kernel
theorem dX7_sheet_49 : decode cX7_sheet 49 = .ok (.ifCond .ge 7, 3) := by decide +kernel
theorem dX7_sheet_52 : decode cX7_sheet 52 = .ok (.ldc_w 264, 3) := by decide +kernel
theorem dX7_sheet_55 : decode cX7_sheet 55 = .ok (.ireturn, 1) := by decide +kernel
theorem dX7_sheet_56 : decode cX7_sheet 56 = .ok (.aload_n 0, 1) := by decide +kernel
theorem dX7_sheet_57 : decode cX7_sheet 57 = .ok (.getfield 50, 3) := by decide +kernel
theorem dX7_sheet_60 : decode cX7_sheet 60 = .ok (.iload_n 1, 1) := by decide +kernel
theorem dX7_sheet_61 : decode cX7_sheet 61 = .ok (.aaload, 1) := by decide +kernel
theorem dX7_sheet_62 : decode cX7_sheet 62 = .ok (.iload_n 2, 1) := by decide +kernel
theorem dX7_sheet_63 : decode cX7_sheet 63 = .ok (.iload_n 3, 1) := by decide +kernel
theorem dX7_sheet_64 : decode cX7_sheet 64 = .ok (.invokevirtual 260, 3) := by decide +kernel
theorem dX7_sheet_67 : decode cX7_sheet 67 = .ok (.iload_n 3, 1) := by decide +kernel
theorem dX7_sheet_68 : decode cX7_sheet 68 = .ok (.ireturn, 1) := by decide +kernel
theorem dX7_mark_0 : decode cX7_mark 0 = .ok (.iload_n 1, 1) := by decide +kernel
theorem dX7_mark_1 : decode cX7_mark 1 = .ok (.iconst 0, 1) := by decide +kernel
theorem dX7_mark_2 : decode cX7_mark 2 = .ok (.iconst 3, 1) := by decide +kernel
theorem dX7_mark_3 : decode cX7_mark 3 = .ok (.invokestatic 62, 3) := by decide +kernel
theorem dX7_mark_6 : decode cX7_mark 6 = .ok (.ifCond .ne 6, 3) := by decide +kernel
theorem dX7_mark_9 : decode cX7_mark 9 = .ok (.ldc 66, 2) := by decide +kernel
theorem dX7_mark_11 : decode cX7_mark 11 = .ok (.ireturn, 1) := by decide +kernel
theorem dX7_mark_12 : decode cX7_mark 12 = .ok (.aload_n 0, 1) := by decide +kernel
theorem dX7_mark_13 : decode cX7_mark 13 = .ok (.getfield 50, 3) := by decide +kernel
theorem dX7_mark_16 : decode cX7_mark 16 = .ok (.iload_n 1, 1) := by decide +kernel
theorem dX7_mark_17 : decode cX7_mark 17 = .ok (.aaload, 1) := by decide +kernel
theorem dX7_mark_18 : decode cX7_mark 18 = .ok (.astore 4, 2) := by decide +kernel
theorem dX7_mark_20 : decode cX7_mark 20 = .ok (.aload 4, 2) := by decide +kernel
theorem dX7_mark_22 : decode cX7_mark 22 = .ok (.invokevirtual 204, 3) := by decide +kernel
theorem dX7_mark_25 : decode cX7_mark 25 = .ok (.ifCond .eq 6, 3) := by decide +kernel
theorem dX7_mark_28 : decode cX7_mark 28 = .ok (.ldc 208, 2) := by decide +kernel
theorem dX7_mark_30 : decode cX7_mark 30 = .ok (.ireturn, 1) := by decide +kernel
theorem dX7_mark_31 : decode cX7_mark 31 = .ok (.aload 4, 2) := by decide +kernel
theorem dX7_mark_33 : decode cX7_mark 33 = .ok (.iload_n 2, 1) := by decide +kernel
theorem dX7_mark_34 : decode cX7_mark 34 = .ok (.invokevirtual 265, 3) := by decide +kernel
theorem dX7_mark_37 : decode cX7_mark 37 = .ok (.ifCond .ne 7, 3) := by decide +kernel
theorem dX7_mark_40 : decode cX7_mark 40 = .ok (.ldc_w 268, 3) := by decide +kernel
theorem dX7_mark_43 : decode cX7_mark 43 = .ok (.ireturn, 1) := by decide +kernel
theorem dX7_mark_44 : decode cX7_mark 44 = .ok (.aload 4, 2) := by decide +kernel
theorem dX7_mark_46 : decode cX7_mark 46 = .ok (.getfield 269, 3) := by decide +kernel
theorem dX7_mark_49 : decode cX7_mark 49 = .ok (.ifCond .ne 23, 3) := by decide +kernel
theorem dX7_mark_52 : decode cX7_mark 52 = .ok (.iload_n 3, 1) := by decide +kernel
theorem dX7_mark_53 : decode cX7_mark 53 = .ok (.ldc 139, 2) := by decide +kernel
theorem dX7_mark_55 : decode cX7_mark 55 = .ok (.if_icmp .ne 6, 3) := by decide +kernel
theorem dX7_mark_58 : decode cX7_mark 58 = .ok (.ldc 118, 2) := by decide +kernel
theorem dX7_mark_60 : decode cX7_mark 60 = .ok (.ireturn, 1) := by decide +kernel
theorem dX7_mark_61 : decode cX7_mark 61 = .ok (.aload 4, 2) := by decide +kernel
theorem dX7_mark_63 : decode cX7_mark 63 = .ok (.getfield 219, 3) := by decide +kernel
theorem dX7_mark_66 : decode cX7_mark 66 = .ok (.iload_n 2, 1) := by decide +kernel
theorem dX7_mark_67 : decode cX7_mark 67 = .ok (.iload_n 3, 1) := by decide +kernel
theorem dX7_mark_68 : decode cX7_mark 68 = .ok (.i2s, 1) := by decide +kernel
theorem dX7_mark_69 : decode cX7_mark 69 = .ok (.iastore, 1) := by decide +kernel
theorem dX7_mark_70 : decode cX7_mark 70 = .ok (.iconst 1, 1) := by decide +kernel
theorem dX7_mark_71 : decode cX7_mark 71 = .ok (.ireturn, 1) := by decide +kernel
theorem dX7_mark_72 : decode cX7_mark 72 = .ok (.iload_n 3, 1) := by decide +kernel
theorem dX7_mark_73 : decode cX7_mark 73 = .ok (.ldc 139, 2) := by decide +kernel
theorem dX7_mark_75 : decode cX7_mark 75 = .ok (.if_icmp .eq 19, 3) := by decide +kernel
theorem dX7_mark_78 : decode cX7_mark 78 = .ok (.iload_n 3, 1) := by decide +kernel
theorem dX7_mark_79 : decode cX7_mark 79 = .ok (.ldc_w 272, 3) := by decide +kernel
theorem dX7_mark_82 : decode cX7_mark 82 = .ok (.ldc_w 273, 3) := by decide +kernel
theorem dX7_mark_85 : decode cX7_mark 85 = .ok (.invokestatic 62, 3) := by decide +kernel
theorem dX7_mark_88 : decode cX7_mark 88 = .ok (.ifCond .ne 6, 3) := by decide +kernel
theorem dX7_mark_91 : decode cX7_mark 91 = .ok (.ldc 66, 2) := by decide +kernel
theorem dX7_mark_93 : decode cX7_mark 93 = .ok (.ireturn, 1) := by decide +kernel
theorem dX7_mark_94 : decode cX7_mark 94 = .ok (.aload 4, 2) := by decide +kernel
theorem dX7_mark_96 : decode cX7_mark 96 = .ok (.getfield 219, 3) := by decide +kernel
theorem dX7_mark_99 : decode cX7_mark 99 = .ok (.iload_n 2, 1) := by decide +kernel
theorem dX7_mark_100 : decode cX7_mark 100 = .ok (.iload_n 3, 1) := by decide +kernel
theorem dX7_mark_101 : decode cX7_mark 101 = .ok (.iastore, 1) := by decide +kernel
theorem dX7_mark_102 : decode cX7_mark 102 = .ok (.iconst 1, 1) := by decide +kernel
theorem dX7_mark_103 : decode cX7_mark 103 = .ok (.ireturn, 1) := by decide +kernel
theorem dX7_pour_0 : decode cX7_pour 0 = .ok (.iload_n 1, 1) := by decide +kernel
theorem dX7_pour_1 : decode cX7_pour 1 = .ok (.iconst 0, 1) := by decide +kernel
theorem dX7_pour_2 : decode cX7_pour 2 = .ok (.iconst 3, 1) := by decide +kernel
theorem dX7_pour_3 : decode cX7_pour 3 = .ok (.invokestatic 62, 3) := by decide +kernel
theorem dX7_pour_6 : decode cX7_pour 6 = .ok (.ifCond .ne 6, 3) := by decide +kernel
theorem dX7_pour_9 : decode cX7_pour 9 = .ok (.ldc 66, 2) := by decide +kernel
theorem dX7_pour_11 : decode cX7_pour 11 = .ok (.ireturn, 1) := by decide +kernel
theorem dX7_pour_12 : decode cX7_pour 12 = .ok (.aload_n 0, 1) := by decide +kernel
theorem dX7_pour_13 : decode cX7_pour 13 = .ok (.getfield 50, 3) := by decide +kernel
theorem dX7_pour_16 : decode cX7_pour 16 = .ok (.iload_n 1, 1) := by decide +kernel
theorem dX7_pour_17 : decode cX7_pour 17 = .ok (.aaload, 1) := by decide +kernel
theorem dX7_pour_18 : decode cX7_pour 18 = .ok (.astore_n 2, 1) := by decide +kernel
theorem dX7_pour_19 : decode cX7_pour 19 = .ok (.aload_n 2, 1) := by decide +kernel
theorem dX7_pour_20 : decode cX7_pour 20 = .ok (.invokevirtual 204, 3) := by decide +kernel
theorem dX7_pour_23 : decode cX7_pour 23 = .ok (.ifCond .eq 6, 3) := by decide +kernel
theorem dX7_pour_26 : decode cX7_pour 26 = .ok (.ldc 208, 2) := by decide +kernel
theorem dX7_pour_28 : decode cX7_pour 28 = .ok (.ireturn, 1) := by decide +kernel
theorem dX7_pour_29 : decode cX7_pour 29 = .ok (.iconst 0, 1) := by decide +kernel
theorem dX7_pour_30 : decode cX7_pour 30 = .ok (.istore_n 3, 1) := by decide +kernel
theorem dX7_pour_31 : decode cX7_pour 31 = .ok (.aload_n 2, 1) := by decide +kernel
theorem dX7_pour_32 : decode cX7_pour 32 = .ok (.getfield 213, 3) := by decide +kernel
theorem dX7_pour_35 : decode cX7_pour 35 = .ok (.aload_n 0, 1) := by decide +kernel
theorem dX7_pour_36 : decode cX7_pour 36 = .ok (.getfield 21, 3) := by decide +kernel
theorem dX7_pour_39 : decode cX7_pour 39 = .ok (.getfield 67, 3) := by decide +kernel
theorem dX7_pour_42 : decode cX7_pour 42 = .ok (.invokestatic 167, 3) := by decide +kernel
theorem dX7_pour_45 : decode cX7_pour 45 = .ok (.istore 4, 2) := by decide +kernel
theorem dX7_pour_47 : decode cX7_pour 47 = .ok (.iconst 0, 1) := by decide +kernel
theorem dX7_pour_48 : decode cX7_pour 48 = .ok (.istore 5, 2) := by decide +kernel
theorem dX7_pour_50 : decode cX7_pour 50 = .ok (.iload 5, 2) := by decide +kernel
theorem dX7_pour_52 : decode cX7_pour 52 = .ok (.iload 4, 2) := by decide +kernel
theorem dX7_pour_54 : decode cX7_pour 54 = .ok (.if_icmp .ge 56, 3) := by decide +kernel
theorem dX7_pour_57 : decode cX7_pour 57 = .ok (.aload_n 2, 1) := by decide +kernel
theorem dX7_pour_58 : decode cX7_pour 58 = .ok (.iload 5, 2) := by decide +kernel
theorem dX7_pour_60 : decode cX7_pour 60 = .ok (.invokevirtual 216, 3) := by decide +kernel
theorem dX7_pour_63 : decode cX7_pour 63 = .ok (.ifCond .eq 41, 3) := by decide +kernel
theorem dX7_pour_66 : decode cX7_pour 66 = .ok (.aload_n 2, 1) := by decide +kernel
theorem dX7_pour_67 : decode cX7_pour 67 = .ok (.getfield 219, 3) := by decide +kernel
theorem dX7_pour_70 : decode cX7_pour 70 = .ok (.iload 5, 2) := by decide +kernel
theorem dX7_pour_72 : decode cX7_pour 72 = .ok (.iaload, 1) := by decide +kernel
theorem dX7_pour_73 : decode cX7_pour 73 = .ok (.iconst 0, 1) := by decide +kernel
theorem dX7_pour_74 : decode cX7_pour 74 = .ok (.bipush 99, 2) := by decide +kernel
theorem dX7_pour_76 : decode cX7_pour 76 = .ok (.invokestatic 274, 3) := by decide +kernel
theorem dX7_pour_79 : decode cX7_pour 79 = .ok (.istore 6, 2) := by decide +kernel
theorem dX7_pour_81 : decode cX7_pour 81 = .ok (.aload_n 0, 1) := by decide +kernel
theorem dX7_pour_82 : decode cX7_pour 82 = .ok (.getfield 21, 3) := by decide +kernel
theorem dX7_pour_85 : decode cX7_pour 85 = .ok (.getfield 80, 3) := by decide +kernel
theorem dX7_pour_88 : decode cX7_pour 88 = .ok (.iload 5, 2) := by decide +kernel
theorem dX7_pour_90 : decode cX7_pour 90 = .ok (.aaload, 1) := by decide +kernel
theorem dX7_pour_91 : decode cX7_pour 91 = .ok (.iload 6, 2) := by decide +kernel
theorem dX7_pour_93 : decode cX7_pour 93 = .ok (.invokevirtual 122, 3) := by decide +kernel
theorem dX7_pour_96 : decode cX7_pour 96 = .ok (.iload 6, 2) := by decide +kernel
theorem dX7_pour_98 : decode cX7_pour 98 = .ok (.if_icmp .eq 6, 3) := by decide +kernel
theorem dX7_pour_101 : decode cX7_pour 101 = .ok (.iinc 3 1, 3) := by decide +kernel
theorem dX7_pour_104 : decode cX7_pour 104 = .ok (.iinc 5 1, 3) := by decide +kernel
theorem dX7_pour_107 : decode cX7_pour 107 = .ok (.goto (-57), 3) := by decide +kernel
theorem dX7_pour_110 : decode cX7_pour 110 = .ok (.iload_n 3, 1) := by decide +kernel
theorem dX7_pour_111 : decode cX7_pour 111 = .ok (.ireturn, 1) := by decide +kernel
theorem dX7_reads_0 : decode cX7_reads 0 = .ok (.iload_n 1, 1) := by decide +kernel
theorem dX7_reads_1 : decode cX7_reads 1 = .ok (.iconst 0, 1) := by decide +kernel
theorem dX7_reads_2 : decode cX7_reads 2 = .ok (.iconst 3, 1) := by decide +kernel
theorem dX7_reads_3 : decode cX7_reads 3 = .ok (.invokestatic 62, 3) := by decide +kernel
theorem dX7_reads_6 : decode cX7_reads 6 = .ok (.ifCond .ne 6, 3) := by decide +kernel
theorem dX7_reads_9 : decode cX7_reads 9 = .ok (.ldc 66, 2) := by decide +kernel
theorem dX7_reads_11 : decode cX7_reads 11 = .ok (.ireturn, 1) := by decide +kernel
theorem dX7_reads_12 : decode cX7_reads 12 = .ok (.aload_n 0, 1) := by decide +kernel
theorem dX7_reads_13 : decode cX7_reads 13 = .ok (.getfield 50, 3) := by decide +kernel
theorem dX7_reads_16 : decode cX7_reads 16 = .ok (.iload_n 1, 1) := by decide +kernel
theorem dX7_reads_17 : decode cX7_reads 17 = .ok (.aaload, 1) := by decide +kernel
theorem dX7_reads_18 : decode cX7_reads 18 = .ok (.astore_n 2, 1) := by decide +kernel
theorem dX7_reads_19 : decode cX7_reads 19 = .ok (.aload_n 2, 1) := by decide +kernel
theorem dX7_reads_20 : decode cX7_reads 20 = .ok (.invokevirtual 204, 3) := by decide +kernel
theorem dX7_reads_23 : decode cX7_reads 23 = .ok (.ifCond .eq 6, 3) := by decide +kernel
theorem dX7_reads_26 : decode cX7_reads 26 = .ok (.ldc 208, 2) := by decide +kernel
theorem dX7_reads_28 : decode cX7_reads 28 = .ok (.ireturn, 1) := by decide +kernel
theorem dX7_reads_29 : decode cX7_reads 29 = .ok (.iconst 0, 1) := by decide +kernel
theorem dX7_reads_30 : decode cX7_reads 30 = .ok (.istore_n 3, 1) := by decide +kernel
theorem dX7_reads_31 : decode cX7_reads 31 = .ok (.iload_n 3, 1) := by decide +kernel
theorem dX7_reads_32 : decode cX7_reads 32 = .ok (.aload_n 2, 1) := by decide +kernel
theorem dX7_reads_33 : decode cX7_reads 33 = .ok (.getfield 213, 3) := by decide +kernel
theorem dX7_reads_36 : decode cX7_reads 36 = .ok (.if_icmp .ge 51, 3) := by decide +kernel
theorem dX7_reads_39 : decode cX7_reads 39 = .ok (.aload_n 2, 1) := by decide +kernel
theorem dX7_reads_40 : decode cX7_reads 40 = .ok (.iload_n 3, 1) := by decide +kernel
theorem dX7_reads_41 : decode cX7_reads 41 = .ok (.invokevirtual 216, 3) := by decide +kernel
theorem dX7_reads_44 : decode cX7_reads 44 = .ok (.ifCond .eq 37, 3) := by decide +kernel
theorem dX7_reads_47 : decode cX7_reads 47 = .ok (.aload_n 0, 1) := by decide +kernel
theorem dX7_reads_48 : decode cX7_reads 48 = .ok (.getfield 21, 3) := by decide +kernel
theorem dX7_reads_51 : decode cX7_reads 51 = .ok (.iload_n 3, 1) := by decide +kernel
theorem dX7_reads_52 : decode cX7_reads 52 = .ok (.invokevirtual 76, 3) := by decide +kernel
theorem dX7_reads_55 : decode cX7_reads 55 = .ok (.ifCond .eq 24, 3) := by decide +kernel
theorem dX7_reads_58 : decode cX7_reads 58 = .ok (.aload_n 2, 1) := by decide +kernel
theorem dX7_reads_59 : decode cX7_reads 59 = .ok (.getfield 219, 3) := by decide +kernel
theorem dX7_reads_62 : decode cX7_reads 62 = .ok (.iload_n 3, 1) := by decide +kernel
theorem dX7_reads_63 : decode cX7_reads 63 = .ok (.iaload, 1) := by decide +kernel
theorem dX7_reads_64 : decode cX7_reads 64 = .ok (.aload_n 0, 1) := by decide +kernel
theorem dX7_reads_65 : decode cX7_reads 65 = .ok (.getfield 21, 3) := by decide +kernel
theorem dX7_reads_68 : decode cX7_reads 68 = .ok (.getfield 80, 3) := by decide +kernel
theorem dX7_reads_71 : decode cX7_reads 71 = .ok (.iload_n 3, 1) := by decide +kernel
theorem dX7_reads_72 : decode cX7_reads 72 = .ok (.aaload, 1) := by decide +kernel
theorem dX7_reads_73 : decode cX7_reads 73 = .ok (.invokevirtual 105, 3) := by decide +kernel
theorem dX7_reads_76 : decode cX7_reads 76 = .ok (.if_icmp .eq 5, 3) := by decide +kernel
theorem dX7_reads_79 : decode cX7_reads 79 = .ok (.iload_n 3, 1) := by decide +kernel
theorem dX7_reads_80 : decode cX7_reads 80 = .ok (.ireturn, 1) := by decide +kernel
theorem dX7_reads_81 : decode cX7_reads 81 = .ok (.iinc 3 1, 3) := by decide +kernel
theorem dX7_reads_84 : decode cX7_reads 84 = .ok (.goto (-53), 3) := by decide +kernel
theorem dX7_reads_87 : decode cX7_reads 87 = .ok (.ldc 139, 2) := by decide +kernel
theorem dX7_reads_89 : decode cX7_reads 89 = .ok (.ireturn, 1) := by decide +kernel
theorem dX7_copy_0 : decode cX7_copy 0 = .ok (.iload_n 1, 1) := by decide +kernel
theorem dX7_copy_1 : decode cX7_copy 1 = .ok (.iconst 0, 1) := by decide +kernel
theorem dX7_copy_2 : decode cX7_copy 2 = .ok (.iconst 3, 1) := by decide +kernel
theorem dX7_copy_3 : decode cX7_copy 3 = .ok (.invokestatic 62, 3) := by decide +kernel
theorem dX7_copy_6 : decode cX7_copy 6 = .ok (.ifCond .eq 12, 3) := by decide +kernel
theorem dX7_copy_9 : decode cX7_copy 9 = .ok (.iload_n 3, 1) := by decide +kernel
theorem dX7_copy_10 : decode cX7_copy 10 = .ok (.iconst 0, 1) := by decide +kernel
theorem dX7_copy_11 : decode cX7_copy 11 = .ok (.iconst 3, 1) := by decide +kernel
theorem dX7_copy_12 : decode cX7_copy 12 = .ok (.invokestatic 62, 3) := by decide +kernel
theorem dX7_copy_15 : decode cX7_copy 15 = .ok (.ifCond .ne 6, 3) := by decide +kernel
theorem dX7_copy_18 : decode cX7_copy 18 = .ok (.ldc 66, 2) := by decide +kernel
theorem dX7_copy_20 : decode cX7_copy 20 = .ok (.ireturn, 1) := by decide +kernel
theorem dX7_copy_21 : decode cX7_copy 21 = .ok (.aload_n 0, 1) := by decide +kernel
theorem dX7_copy_22 : decode cX7_copy 22 = .ok (.getfield 50, 3) := by decide +kernel
theorem dX7_copy_25 : decode cX7_copy 25 = .ok (.iload_n 1, 1) := by decide +kernel
theorem dX7_copy_26 : decode cX7_copy 26 = .ok (.aaload, 1) := by decide +kernel
theorem dX7_copy_27 : decode cX7_copy 27 = .ok (.astore 6, 2) := by decide +kernel
theorem dX7_copy_29 : decode cX7_copy 29 = .ok (.aload_n 0, 1) := by decide +kernel
theorem dX7_copy_30 : decode cX7_copy 30 = .ok (.getfield 50, 3) := by decide +kernel
theorem dX7_copy_33 : decode cX7_copy 33 = .ok (.iload_n 3, 1) := by decide +kernel
theorem dX7_copy_34 : decode cX7_copy 34 = .ok (.aaload, 1) := by decide +kernel
theorem dX7_copy_35 : decode cX7_copy 35 = .ok (.astore 7, 2) := by decide +kernel
theorem dX7_copy_37 : decode cX7_copy 37 = .ok (.aload 6, 2) := by decide +kernel
theorem dX7_copy_39 : decode cX7_copy 39 = .ok (.invokevirtual 204, 3) := by decide +kernel
theorem dX7_copy_42 : decode cX7_copy 42 = .ok (.ifCond .ne 11, 3) := by decide +kernel
theorem dX7_copy_45 : decode cX7_copy 45 = .ok (.aload 7, 2) := by decide +kernel
theorem dX7_copy_47 : decode cX7_copy 47 = .ok (.invokevirtual 204, 3) := by decide +kernel
theorem dX7_copy_50 : decode cX7_copy 50 = .ok (.ifCond .eq 6, 3) := by decide +kernel
theorem dX7_copy_53 : decode cX7_copy 53 = .ok (.ldc 208, 2) := by decide +kernel
theorem dX7_copy_55 : decode cX7_copy 55 = .ok (.ireturn, 1) := by decide +kernel
theorem dX7_copy_56 : decode cX7_copy 56 = .ok (.aload 6, 2) := by decide +kernel
theorem dX7_copy_58 : decode cX7_copy 58 = .ok (.getfield 269, 3) := by decide +kernel
theorem dX7_copy_61 : decode cX7_copy 61 = .ok (.aload 7, 2) := by decide +kernel
theorem dX7_copy_63 : decode cX7_copy 63 = .ok (.getfield 269, 3) := by decide +kernel
theorem dX7_copy_66 : decode cX7_copy 66 = .ok (.if_icmp .eq 6, 3) := by decide +kernel
theorem dX7_copy_69 : decode cX7_copy 69 = .ok (.ldc 118, 2) := by decide +kernel
theorem dX7_copy_71 : decode cX7_copy 71 = .ok (.ireturn, 1) := by decide +kernel
theorem dX7_copy_72 : decode cX7_copy 72 = .ok (.aload 6, 2) := by decide +kernel
theorem dX7_copy_74 : decode cX7_copy 74 = .ok (.iload_n 2, 1) := by decide +kernel
theorem dX7_copy_75 : decode cX7_copy 75 = .ok (.iload 5, 2) := by decide +kernel
theorem dX7_copy_77 : decode cX7_copy 77 = .ok (.invokevirtual 278, 3) := by decide +kernel
theorem dX7_copy_80 : decode cX7_copy 80 = .ok (.ifCond .eq 15, 3) := by decide +kernel
theorem dX7_copy_83 : decode cX7_copy 83 = .ok (.aload 7, 2) := by decide +kernel
theorem dX7_copy_85 : decode cX7_copy 85 = .ok (.iload 4, 2) := by decide +kernel
theorem dX7_copy_87 : decode cX7_copy 87 = .ok (.iload 5, 2) := by decide +kernel
theorem dX7_copy_89 : decode cX7_copy 89 = .ok (.invokevirtual 278, 3) := by decide +kernel
theorem dX7_copy_92 : decode cX7_copy 92 = .ok (.ifCond .ne 7, 3) := by decide +kernel
theorem dX7_copy_95 : decode cX7_copy 95 = .ok (.ldc_w 268, 3) := by decide +kernel
theorem dX7_copy_98 : decode cX7_copy 98 = .ok (.ireturn, 1) := by decide +kernel
theorem dX7_copy_99 : decode cX7_copy 99 = .ok (.aload 6, 2) := by decide +kernel
theorem dX7_copy_101 : decode cX7_copy 101 = .ok (.getfield 219, 3) := by decide +kernel
theorem dX7_copy_104 : decode cX7_copy 104 = .ok (.iload_n 2, 1) := by decide +kernel
theorem dX7_copy_105 : decode cX7_copy 105 = .ok (.aload 7, 2) := by decide +kernel
theorem dX7_copy_107 : decode cX7_copy 107 = .ok (.getfield 219, 3) := by decide +kernel
theorem dX7_copy_110 : decode cX7_copy 110 = .ok (.iload 4, 2) := by decide +kernel
theorem dX7_copy_112 : decode cX7_copy 112 = .ok (.iload 5, 2) := by decide +kernel
theorem dX7_copy_114 : decode cX7_copy 114 = .ok (.invokestatic 282, 3) := by decide +kernel
theorem dX7_copy_117 : decode cX7_copy 117 = .ok (.iload 5, 2) := by decide +kernel
theorem dX7_copy_119 : decode cX7_copy 119 = .ok (.ireturn, 1) := by decide +kernel
theorem dX7_lay_0 : decode cX7_lay 0 = .ok (.iload_n 1, 1) := by decide +kernel
theorem dX7_lay_1 : decode cX7_lay 1 = .ok (.iconst 0, 1) := by decide +kernel
theorem dX7_lay_2 : decode cX7_lay 2 = .ok (.iconst 4, 1) := by decide +kernel
theorem dX7_lay_3 : decode cX7_lay 3 = .ok (.invokestatic 62, 3) := by decide +kernel
theorem dX7_lay_6 : decode cX7_lay 6 = .ok (.ifCond .eq 12, 3) := by decide +kernel
theorem dX7_lay_9 : decode cX7_lay 9 = .ok (.iload_n 2, 1) := by decide +kernel
theorem dX7_lay_10 : decode cX7_lay 10 = .ok (.iconst 0, 1) := by decide +kernel
theorem dX7_lay_11 : decode cX7_lay 11 = .ok (.iconst 3, 1) := by decide +kernel
theorem dX7_lay_12 : decode cX7_lay 12 = .ok (.invokestatic 62, 3) := by decide +kernel
theorem dX7_lay_15 : decode cX7_lay 15 = .ok (.ifCond .ne 6, 3) := by decide +kernel
theorem dX7_lay_18 : decode cX7_lay 18 = .ok (.ldc 66, 2) := by decide +kernel
theorem dX7_lay_20 : decode cX7_lay 20 = .ok (.ireturn, 1) := by decide +kernel
theorem dX7_lay_21 : decode cX7_lay 21 = .ok (.iload_n 2, 1) := by decide +kernel
theorem dX7_lay_22 : decode cX7_lay 22 = .ok (.iconst 1, 1) := by decide +kernel
theorem dX7_lay_23 : decode cX7_lay 23 = .ok (.if_icmp .ne 17, 3) := by decide +kernel
theorem dX7_lay_26 : decode cX7_lay 26 = .ok (.aload_n 0, 1) := by decide +kernel
theorem dX7_lay_27 : decode cX7_lay 27 = .ok (.getfield 21, 3) := by decide +kernel
theorem dX7_lay_30 : decode cX7_lay 30 = .ok (.iload_n 3, 1) := by decide +kernel
theorem dX7_lay_31 : decode cX7_lay 31 = .ok (.invokevirtual 76, 3) := by decide +kernel
theorem dX7_lay_34 : decode cX7_lay 34 = .ok (.ifCond .ne 6, 3) := by decide +kernel
theorem dX7_lay_37 : decode cX7_lay 37 = .ok (.ldc 66, 2) := by decide +kernel
theorem dX7_lay_39 : decode cX7_lay 39 = .ok (.ireturn, 1) := by decide +kernel
theorem dX7_lay_40 : decode cX7_lay 40 = .ok (.iload_n 2, 1) := by decide +kernel
theorem dX7_lay_41 : decode cX7_lay 41 = .ok (.iconst 2, 1) := by decide +kernel
theorem dX7_lay_42 : decode cX7_lay 42 = .ok (.if_icmp .ne 15, 3) := by decide +kernel
theorem dX7_lay_45 : decode cX7_lay 45 = .ok (.iload_n 3, 1) := by decide +kernel
theorem dX7_lay_46 : decode cX7_lay 46 = .ok (.iconst 0, 1) := by decide +kernel
theorem dX7_lay_47 : decode cX7_lay 47 = .ok (.iconst 3, 1) := by decide +kernel
theorem dX7_lay_48 : decode cX7_lay 48 = .ok (.invokestatic 62, 3) := by decide +kernel
theorem dX7_lay_51 : decode cX7_lay 51 = .ok (.ifCond .ne 6, 3) := by decide +kernel
theorem dX7_lay_54 : decode cX7_lay 54 = .ok (.ldc 66, 2) := by decide +kernel
theorem dX7_lay_56 : decode cX7_lay 56 = .ok (.ireturn, 1) := by decide +kernel
theorem dX7_lay_57 : decode cX7_lay 57 = .ok (.iload_n 2, 1) := by decide +kernel
theorem dX7_lay_58 : decode cX7_lay 58 = .ok (.iconst 2, 1) := by decide +kernel
theorem dX7_lay_59 : decode cX7_lay 59 = .ok (.if_icmp .ne 18, 3) := by decide +kernel
theorem dX7_lay_62 : decode cX7_lay 62 = .ok (.aload_n 0, 1) := by decide +kernel
theorem dX7_lay_63 : decode cX7_lay 63 = .ok (.getfield 50, 3) := by decide +kernel
theorem dX7_lay_66 : decode cX7_lay 66 = .ok (.iload_n 3, 1) := by decide +kernel
theorem dX7_lay_67 : decode cX7_lay 67 = .ok (.aaload, 1) := by decide +kernel
theorem dX7_lay_68 : decode cX7_lay 68 = .ok (.invokevirtual 204, 3) := by decide +kernel
theorem dX7_lay_71 : decode cX7_lay 71 = .ok (.ifCond .eq 6, 3) := by decide +kernel
theorem dX7_lay_74 : decode cX7_lay 74 = .ok (.ldc 208, 2) := by decide +kernel
theorem dX7_lay_76 : decode cX7_lay 76 = .ok (.ireturn, 1) := by decide +kernel
theorem dX7_lay_77 : decode cX7_lay 77 = .ok (.aload_n 0, 1) := by decide +kernel
theorem dX7_lay_78 : decode cX7_lay 78 = .ok (.getfield 57, 3) := by decide +kernel
theorem dX7_lay_81 : decode cX7_lay 81 = .ok (.iload_n 1, 1) := by decide +kernel
theorem dX7_lay_82 : decode cX7_lay 82 = .ok (.aaload, 1) := by decide +kernel
theorem dX7_lay_83 : decode cX7_lay 83 = .ok (.astore 4, 2) := by decide +kernel
theorem dX7_lay_85 : decode cX7_lay 85 = .ok (.aload 4, 2) := by decide +kernel
theorem dX7_lay_87 : decode cX7_lay 87 = .ok (.getfield 288, 3) := by decide +kernel
theorem dX7_lay_90 : decode cX7_lay 90 = .ok (.istore 5, 2) := by decide +kernel
theorem dX7_lay_92 : decode cX7_lay 92 = .ok (.aload 4, 2) := by decide +kernel
theorem dX7_lay_94 : decode cX7_lay 94 = .ok (.iload_n 2, 1) := by decide +kernel
theorem dX7_lay_95 : decode cX7_lay 95 = .ok (.putfield 288, 3) := by decide +kernel
theorem dX7_lay_98 : decode cX7_lay 98 = .ok (.iload_n 2, 1) := by decide +kernel
theorem dX7_lay_99 : decode cX7_lay 99 = .ok (.tableswitch 71 1 3 #[25, 45, 62], 25) := by decide +kernel
theorem dX7_lay_124 : decode cX7_lay 124 = .ok (.aload 4, 2) := by decide +kernel
theorem dX7_lay_126 : decode cX7_lay 126 = .ok (.getfield 291, 3) := by decide +kernel
theorem dX7_lay_129 : decode cX7_lay 129 = .ok (.aload_n 0, 1) := by decide +kernel
theorem dX7_lay_130 : decode cX7_lay 130 = .ok (.getfield 21, 3) := by decide +kernel
theorem dX7_lay_133 : decode cX7_lay 133 = .ok (.getfield 80, 3) := by decide +kernel
theorem dX7_lay_136 : decode cX7_lay 136 = .ok (.iload_n 3, 1) := by decide +kernel
theorem dX7_lay_137 : decode cX7_lay 137 = .ok (.aaload, 1) := by decide +kernel
theorem dX7_lay_138 : decode cX7_lay 138 = .ok (.invokevirtual 295, 3) := by decide +kernel
theorem dX7_lay_141 : decode cX7_lay 141 = .ok (.goto 29, 3) := by decide +kernel
theorem dX7_lay_144 : decode cX7_lay 144 = .ok (.aload 4, 2) := by decide +kernel
theorem dX7_lay_146 : decode cX7_lay 146 = .ok (.getfield 298, 3) := by decide +kernel
theorem dX7_lay_149 : decode cX7_lay 149 = .ok (.aload_n 0, 1) := by decide +kernel
theorem dX7_lay_150 : decode cX7_lay 150 = .ok (.getfield 50, 3) := by decide +kernel
theorem dX7_lay_153 : decode cX7_lay 153 = .ok (.iload_n 3, 1) := by decide +kernel
theorem dX7_lay_154 : decode cX7_lay 154 = .ok (.aaload, 1) := by decide +kernel
theorem dX7_lay_155 : decode cX7_lay 155 = .ok (.invokevirtual 302, 3) := by decide +kernel
theorem dX7_lay_158 : decode cX7_lay 158 = .ok (.goto 12, 3) := by decide +kernel
theorem dX7_lay_161 : decode cX7_lay 161 = .ok (.aload 4, 2) := by decide +kernel
theorem dX7_lay_163 : decode cX7_lay 163 = .ok (.iload_n 3, 1) := by decide +kernel
theorem dX7_lay_164 : decode cX7_lay 164 = .ok (.putfield 305, 3) := by decide +kernel
theorem dX7_lay_167 : decode cX7_lay 167 = .ok (.goto 3, 3) := by decide +kernel
theorem dX7_lay_170 : decode cX7_lay 170 = .ok (.iload 5, 2) := by decide +kernel
theorem dX7_lay_172 : decode cX7_lay 172 = .ok (.ireturn, 1) := by decide +kernel
theorem dX7_ask_0 : decode cX7_ask 0 = .ok (.iload_n 1, 1) := by decide +kernel
theorem dX7_ask_1 : decode cX7_ask 1 = .ok (.iconst 0, 1) := by decide +kernel
theorem dX7_ask_2 : decode cX7_ask 2 = .ok (.iconst 4, 1) := by decide +kernel
theorem dX7_ask_3 : decode cX7_ask 3 = .ok (.invokestatic 62, 3) := by decide +kernel
theorem dX7_ask_6 : decode cX7_ask 6 = .ok (.ifCond .eq 12, 3) := by decide +kernel
theorem dX7_ask_9 : decode cX7_ask 9 = .ok (.iload_n 2, 1) := by decide +kernel
theorem dX7_ask_10 : decode cX7_ask 10 = .ok (.iconst 0, 1) := by decide +kernel
theorem dX7_ask_11 : decode cX7_ask 11 = .ok (.iconst 5, 1) := by decide +kernel
theorem dX7_ask_12 : decode cX7_ask 12 = .ok (.invokestatic 62, 3) := by decide +kernel
theorem dX7_ask_15 : decode cX7_ask 15 = .ok (.ifCond .ne 6, 3) := by decide +kernel
theorem dX7_ask_18 : decode cX7_ask 18 = .ok (.ldc 66, 2) := by decide +kernel
theorem dX7_ask_20 : decode cX7_ask 20 = .ok (.ireturn, 1) := by decide +kernel
theorem dX7_ask_21 : decode cX7_ask 21 = .ok (.aload_n 0, 1) := by decide +kernel
theorem dX7_ask_22 : decode cX7_ask 22 = .ok (.getfield 57, 3) := by decide +kernel
theorem dX7_ask_25 : decode cX7_ask 25 = .ok (.iload_n 1, 1) := by decide +kernel
theorem dX7_ask_26 : decode cX7_ask 26 = .ok (.aaload, 1) := by decide +kernel
theorem dX7_ask_27 : decode cX7_ask 27 = .ok (.astore_n 3, 1) := by decide +kernel
theorem dX7_ask_28 : decode cX7_ask 28 = .ok (.aload_n 3, 1) := by decide +kernel
theorem dX7_ask_29 : decode cX7_ask 29 = .ok (.getfield 288, 3) := by decide +kernel
theorem dX7_ask_32 : decode cX7_ask 32 = .ok (.ifCond .ne 6, 3) := by decide +kernel
theorem dX7_ask_35 : decode cX7_ask 35 = .ok (.ldc 208, 2) := by decide +kernel
theorem dX7_ask_37 : decode cX7_ask 37 = .ok (.ireturn, 1) := by decide +kernel
theorem dX7_ask_38 : decode cX7_ask 38 = .ok (.aload_n 3, 1) := by decide +kernel
theorem dX7_ask_39 : decode cX7_ask 39 = .ok (.getfield 288, 3) := by decide +kernel
theorem dX7_ask_42 : decode cX7_ask 42 = .ok (.iconst 1, 1) := by decide +kernel
theorem dX7_ask_43 : decode cX7_ask 43 = .ok (.if_icmp .ne 14, 3) := by decide +kernel
theorem dX7_ask_46 : decode cX7_ask 46 = .ok (.aload_n 3, 1) := by decide +kernel
theorem dX7_ask_47 : decode cX7_ask 47 = .ok (.getfield 291, 3) := by decide +kernel
theorem dX7_ask_50 : decode cX7_ask 50 = .ok (.iload_n 2, 1) := by decide +kernel
theorem dX7_ask_51 : decode cX7_ask 51 = .ok (.invokevirtual 115, 3) := by decide +kernel
theorem dX7_ask_54 : decode cX7_ask 54 = .ok (.ifCond .ne 6, 3) := by decide +kernel
theorem dX7_ask_57 : decode cX7_ask 57 = .ok (.ldc 118, 2) := by decide +kernel
theorem dX7_ask_59 : decode cX7_ask 59 = .ok (.ireturn, 1) := by decide +kernel
theorem dX7_ask_60 : decode cX7_ask 60 = .ok (.aload_n 3, 1) := by decide +kernel
theorem dX7_ask_61 : decode cX7_ask 61 = .ok (.getfield 291, 3) := by decide +kernel
theorem dX7_ask_64 : decode cX7_ask 64 = .ok (.invokevirtual 112, 3) := by decide +kernel
theorem dX7_ask_67 : decode cX7_ask 67 = .ok (.ireturn, 1) := by decide +kernel
theorem dX7_item_0 : decode cX7_item 0 = .ok (.iload_n 1, 1) := by decide +kernel
theorem dX7_item_1 : decode cX7_item 1 = .ok (.iconst 0, 1) := by decide +kernel
theorem dX7_item_2 : decode cX7_item 2 = .ok (.iconst 4, 1) := by decide +kernel
theorem dX7_item_3 : decode cX7_item 3 = .ok (.invokestatic 62, 3) := by decide +kernel
theorem dX7_item_6 : decode cX7_item 6 = .ok (.ifCond .ne 6, 3) := by decide +kernel
theorem dX7_item_9 : decode cX7_item 9 = .ok (.ldc 66, 2) := by decide +kernel
theorem dX7_item_11 : decode cX7_item 11 = .ok (.ireturn, 1) := by decide +kernel
theorem dX7_item_12 : decode cX7_item 12 = .ok (.aload_n 0, 1) := by decide +kernel
theorem dX7_item_13 : decode cX7_item 13 = .ok (.getfield 57, 3) := by decide +kernel
theorem dX7_item_16 : decode cX7_item 16 = .ok (.iload_n 1, 1) := by decide +kernel
theorem dX7_item_17 : decode cX7_item 17 = .ok (.aaload, 1) := by decide +kernel
theorem dX7_item_18 : decode cX7_item 18 = .ok (.astore_n 3, 1) := by decide +kernel
theorem dX7_item_19 : decode cX7_item 19 = .ok (.aload_n 3, 1) := by decide +kernel
theorem dX7_item_20 : decode cX7_item 20 = .ok (.getfield 288, 3) := by decide +kernel
theorem dX7_item_23 : decode cX7_item 23 = .ok (.ifCond .ne 6, 3) := by decide +kernel
theorem dX7_item_26 : decode cX7_item 26 = .ok (.ldc 208, 2) := by decide +kernel
theorem dX7_item_28 : decode cX7_item 28 = .ok (.ireturn, 1) := by decide +kernel
theorem dX7_item_29 : decode cX7_item 29 = .ok (.aload_n 3, 1) := by decide +kernel
theorem dX7_item_30 : decode cX7_item 30 = .ok (.getfield 288, 3) := by decide +kernel
theorem dX7_item_33 : decode cX7_item 33 = .ok (.iconst 2, 1) := by decide +kernel
theorem dX7_item_34 : decode cX7_item 34 = .ok (.if_icmp .eq 6, 3) := by decide +kernel
theorem dX7_item_37 : decode cX7_item 37 = .ok (.ldc 118, 2) := by decide +kernel
theorem dX7_item_39 : decode cX7_item 39 = .ok (.ireturn, 1) := by decide +kernel
theorem dX7_item_40 : decode cX7_item 40 = .ok (.aload_n 3, 1) := by decide +kernel
theorem dX7_item_41 : decode cX7_item 41 = .ok (.getfield 298, 3) := by decide +kernel
theorem dX7_item_44 : decode cX7_item 44 = .ok (.iload_n 2, 1) := by decide +kernel
theorem dX7_item_45 : decode cX7_item 45 = .ok (.invokevirtual 265, 3) := by decide +kernel
theorem dX7_item_48 : decode cX7_item 48 = .ok (.ifCond .ne 7, 3) := by decide +kernel
theorem dX7_item_51 : decode cX7_item 51 = .ok (.ldc_w 268, 3) := by decide +kernel
theorem dX7_item_54 : decode cX7_item 54 = .ok (.ireturn, 1) := by decide +kernel
theorem dX7_item_55 : decode cX7_item 55 = .ok (.aload_n 3, 1) := by decide +kernel
theorem dX7_item_56 : decode cX7_item 56 = .ok (.getfield 298, 3) := by decide +kernel
theorem dX7_item_59 : decode cX7_item 59 = .ok (.iload_n 2, 1) := by decide +kernel
theorem dX7_item_60 : decode cX7_item 60 = .ok (.invokevirtual 216, 3) := by decide +kernel
theorem dX7_item_63 : decode cX7_item 63 = .ok (.ifCond .eq 15, 3) := by decide +kernel
theorem dX7_item_66 : decode cX7_item 66 = .ok (.aload_n 3, 1) := by decide +kernel
theorem dX7_item_67 : decode cX7_item 67 = .ok (.getfield 298, 3) := by decide +kernel
theorem dX7_item_70 : decode cX7_item 70 = .ok (.getfield 219, 3) := by decide +kernel
theorem dX7_item_73 : decode cX7_item 73 = .ok (.iload_n 2, 1) := by decide +kernel
theorem dX7_item_74 : decode cX7_item 74 = .ok (.iaload, 1) := by decide +kernel
theorem dX7_item_75 : decode cX7_item 75 = .ok (.goto 5, 3) := by decide +kernel
theorem dX7_item_78 : decode cX7_item 78 = .ok (.ldc 118, 2) := by decide +kernel
theorem dX7_item_80 : decode cX7_item 80 = .ok (.ireturn, 1) := by decide +kernel
theorem dX7_rest_0 : decode cX7_rest 0 = .ok (.iload_n 1, 1) := by decide +kernel
theorem dX7_rest_1 : decode cX7_rest 1 = .ok (.iconst 0, 1) := by decide +kernel
theorem dX7_rest_2 : decode cX7_rest 2 = .ok (.iconst 4, 1) := by decide +kernel
theorem dX7_rest_3 : decode cX7_rest 3 = .ok (.invokestatic 62, 3) := by decide +kernel
theorem dX7_rest_6 : decode cX7_rest 6 = .ok (.ifCond .ne 6, 3) := by decide +kernel
theorem dX7_rest_9 : decode cX7_rest 9 = .ok (.ldc 66, 2) := by decide +kernel
theorem dX7_rest_11 : decode cX7_rest 11 = .ok (.ireturn, 1) := by decide +kernel
theorem dX7_rest_12 : decode cX7_rest 12 = .ok (.aload_n 0, 1) := by decide +kernel
theorem dX7_rest_13 : decode cX7_rest 13 = .ok (.getfield 57, 3) := by decide +kernel
theorem dX7_rest_16 : decode cX7_rest 16 = .ok (.iload_n 1, 1) := by decide +kernel
theorem dX7_rest_17 : decode cX7_rest 17 = .ok (.aaload, 1) := by decide +kernel
theorem dX7_rest_18 : decode cX7_rest 18 = .ok (.astore_n 3, 1) := by decide +kernel
theorem dX7_rest_19 : decode cX7_rest 19 = .ok (.aload_n 3, 1) := by decide +kernel
theorem dX7_rest_20 : decode cX7_rest 20 = .ok (.getfield 288, 3) := by decide +kernel
theorem dX7_rest_23 : decode cX7_rest 23 = .ok (.ifCond .ne 6, 3) := by decide +kernel
theorem dX7_rest_26 : decode cX7_rest 26 = .ok (.ldc 208, 2) := by decide +kernel
theorem dX7_rest_28 : decode cX7_rest 28 = .ok (.ireturn, 1) := by decide +kernel
theorem dX7_rest_29 : decode cX7_rest 29 = .ok (.aload_n 3, 1) := by decide +kernel
theorem dX7_rest_30 : decode cX7_rest 30 = .ok (.getfield 288, 3) := by decide +kernel
theorem dX7_rest_33 : decode cX7_rest 33 = .ok (.iconst 3, 1) := by decide +kernel
theorem dX7_rest_34 : decode cX7_rest 34 = .ok (.if_icmp .eq 6, 3) := by decide +kernel
theorem dX7_rest_37 : decode cX7_rest 37 = .ok (.ldc 118, 2) := by decide +kernel
theorem dX7_rest_39 : decode cX7_rest 39 = .ok (.ireturn, 1) := by decide +kernel
theorem dX7_rest_40 : decode cX7_rest 40 = .ok (.iload_n 2, 1) := by decide +kernel
theorem dX7_rest_41 : decode cX7_rest 41 = .ok (.ifCond .ne 8, 3) := by decide +kernel
theorem dX7_rest_44 : decode cX7_rest 44 = .ok (.ldc 128, 2) := by decide +kernel
theorem dX7_rest_46 : decode cX7_rest 46 = .ok (.goto 9, 3) := by decide +kernel
theorem dX7_rest_49 : decode cX7_rest 49 = .ok (.aload_n 3, 1) := by decide +kernel
theorem dX7_rest_50 : decode cX7_rest 50 = .ok (.getfield 305, 3) := by decide +kernel
theorem dX7_rest_53 : decode cX7_rest 53 = .ok (.iload_n 2, 1) := by decide +kernel
theorem dX7_rest_54 : decode cX7_rest 54 = .ok (.irem, 1) := by decide +kernel
theorem dX7_rest_55 : decode cX7_rest 55 = .ok (.ireturn, 1) := by decide +kernel
theorem dX7_tell_0 : decode cX7_tell 0 = .ok (.aload_n 0, 1) := by decide +kernel
theorem dX7_tell_1 : decode cX7_tell 1 = .ok (.getfield 308, 3) := by decide +kernel
theorem dX7_tell_4 : decode cX7_tell 4 = .ok (.bipush 60, 2) := by decide +kernel
theorem dX7_tell_6 : decode cX7_tell 6 = .ok (.if_icmp .lt 6, 3) := by decide +kernel
theorem dX7_tell_9 : decode cX7_tell 9 = .ok (.ldc 71, 2) := by decide +kernel
theorem dX7_tell_11 : decode cX7_tell 11 = .ok (.ireturn, 1) := by decide +kernel
theorem dX7_tell_12 : decode cX7_tell 12 = .ok (.aload_n 0, 1) := by decide +kernel
theorem dX7_tell_13 : decode cX7_tell 13 = .ok (.getfield 44, 3) := by decide +kernel
theorem dX7_tell_16 : decode cX7_tell 16 = .ok (.aload_n 0, 1) := by decide +kernel
theorem dX7_tell_17 : decode cX7_tell 17 = .ok (.getfield 308, 3) := by decide +kernel
theorem dX7_tell_20 : decode cX7_tell 20 = .ok (.iload_n 1, 1) := by decide +kernel
theorem dX7_tell_21 : decode cX7_tell 21 = .ok (.iastore, 1) := by decide +kernel
theorem dX7_tell_22 : decode cX7_tell 22 = .ok (.aload_n 0, 1) := by decide +kernel
theorem dX7_tell_23 : decode cX7_tell 23 = .ok (.dup, 1) := by decide +kernel
theorem dX7_tell_24 : decode cX7_tell 24 = .ok (.getfield 308, 3) := by decide +kernel
theorem dX7_tell_27 : decode cX7_tell 27 = .ok (.iconst 1, 1) := by decide +kernel
theorem dX7_tell_28 : decode cX7_tell 28 = .ok (.iadd, 1) := by decide +kernel
theorem dX7_tell_29 : decode cX7_tell 29 = .ok (.putfield 308, 3) := by decide +kernel
theorem dX7_tell_32 : decode cX7_tell 32 = .ok (.aload_n 0, 1) := by decide +kernel
theorem dX7_tell_33 : decode cX7_tell 33 = .ok (.getfield 308, 3) := by decide +kernel
theorem dX7_tell_36 : decode cX7_tell 36 = .ok (.ireturn, 1) := by decide +kernel
theorem dX7_check_0 : decode cX7_check 0 = .ok (.aload_n 0, 1) := by decide +kernel
theorem dX7_check_1 : decode cX7_check 1 = .ok (.getfield 308, 3) := by decide +kernel
theorem dX7_check_4 : decode cX7_check 4 = .ok (.istore_n 2, 1) := by decide +kernel
theorem dX7_check_5 : decode cX7_check 5 = .ok (.aload_n 0, 1) := by decide +kernel
theorem dX7_check_6 : decode cX7_check 6 = .ok (.iconst 0, 1) := by decide +kernel
theorem dX7_check_7 : decode cX7_check 7 = .ok (.putfield 308, 3) := by decide +kernel
theorem dX7_check_10 : decode cX7_check 10 = .ok (.iload_n 1, 1) := by decide +kernel
theorem dX7_check_11 : decode cX7_check 11 = .ok (.iconst 1, 1) := by decide +kernel
theorem dX7_check_12 : decode cX7_check 12 = .ok (.bipush 30, 2) := by decide +kernel
theorem dX7_check_14 : decode cX7_check 14 = .ok (.invokestatic 62, 3) := by decide +kernel
theorem dX7_check_17 : decode cX7_check 17 = .ok (.ifCond .ne 6, 3) := by decide +kernel
theorem dX7_check_20 : decode cX7_check 20 = .ok (.ldc 66, 2) := by decide +kernel
theorem dX7_check_22 : decode cX7_check 22 = .ok (.ireturn, 1) := by decide +kernel
theorem dX7_check_23 : decode cX7_check 23 = .ok (.aload_n 0, 1) := by decide +kernel
theorem dX7_check_24 : decode cX7_check 24 = .ok (.getfield 311, 3) := by decide +kernel
theorem dX7_check_27 : decode cX7_check 27 = .ok (.ifCond .ne 6, 3) := by decide +kernel
theorem dX7_check_30 : decode cX7_check 30 = .ok (.ldc 128, 2) := by decide +kernel
theorem dX7_check_32 : decode cX7_check 32 = .ok (.ireturn, 1) := by decide +kernel
theorem dX7_check_33 : decode cX7_check 33 = .ok (.aload_n 0, 1) := by decide +kernel
theorem dX7_check_34 : decode cX7_check 34 = .ok (.getfield 28, 3) := by decide +kernel
theorem dX7_check_37 : decode cX7_check 37 = .ok (.aload_n 0, 1) := by decide +kernel
theorem dX7_check_38 : decode cX7_check 38 = .ok (.getfield 25, 3) := by decide +kernel
theorem dX7_check_41 : decode cX7_check 41 = .ok (.invokevirtual 197, 3) := by decide +kernel
theorem dX7_check_44 : decode cX7_check 44 = .ok (.iconst 2, 1) := by decide +kernel
theorem dX7_check_45 : decode cX7_check 45 = .ok (.iload_n 1, 1) := by decide +kernel
theorem dX7_check_46 : decode cX7_check 46 = .ok (.sipush 9999, 3) := by decide +kernel
theorem dX7_check_49 : decode cX7_check 49 = .ok (.aload_n 0, 1) := by decide +kernel
theorem dX7_check_50 : decode cX7_check 50 = .ok (.getfield 25, 3) := by decide +kernel
theorem dX7_check_53 : decode cX7_check 53 = .ok (.getfield 132, 3) := by decide +kernel
theorem dX7_check_56 : decode cX7_check 56 = .ok (.isub, 1) := by decide +kernel
theorem dX7_check_57 : decode cX7_check 57 = .ok (.invokestatic 167, 3) := by decide +kernel
theorem dX7_check_60 : decode cX7_check 60 = .ok (.imul, 1) := by decide +kernel
theorem dX7_check_61 : decode cX7_check 61 = .ok (.istore_n 3, 1) := by decide +kernel
theorem dX7_check_62 : decode cX7_check 62 = .ok (.iconst 0, 1) := by decide +kernel
theorem dX7_check_63 : decode cX7_check 63 = .ok (.istore 4, 2) := by decide +kernel
theorem dX7_check_65 : decode cX7_check 65 = .ok (.iload 4, 2) := by decide +kernel
theorem dX7_check_67 : decode cX7_check 67 = .ok (.iload_n 3, 1) := by decide +kernel
theorem dX7_check_68 : decode cX7_check 68 = .ok (.if_icmp .ge 78, 3) := by decide +kernel
theorem dX7_check_71 : decode cX7_check 71 = .ok (.iload 4, 2) := by decide +kernel
theorem dX7_check_73 : decode cX7_check 73 = .ok (.iconst 2, 1) := by decide +kernel
theorem dX7_check_74 : decode cX7_check 74 = .ok (.irem, 1) := by decide +kernel
theorem dX7_check_75 : decode cX7_check 75 = .ok (.ifCond .ne 7, 3) := by decide +kernel
theorem dX7_check_78 : decode cX7_check 78 = .ok (.iconst 1, 1) := by decide +kernel
theorem dX7_check_79 : decode cX7_check 79 = .ok (.goto 4, 3) := by decide +kernel
theorem dX7_check_82 : decode cX7_check 82 = .ok (.iconst 0, 1) := by decide +kernel
theorem dX7_check_83 : decode cX7_check 83 = .ok (.istore 5, 2) := by decide +kernel
theorem dX7_check_85 : decode cX7_check 85 = .ok (.iload 5, 2) := by decide +kernel
theorem dX7_check_87 : decode cX7_check 87 = .ok (.ifCond .eq 10, 3) := by decide +kernel
theorem dX7_check_90 : decode cX7_check 90 = .ok (.aload_n 0, 1) := by decide +kernel
theorem dX7_check_91 : decode cX7_check 91 = .ok (.getfield 28, 3) := by decide +kernel
theorem dX7_check_94 : decode cX7_check 94 = .ok (.invokevirtual 201, 3) := by decide +kernel
theorem dX7_check_97 : decode cX7_check 97 = .ok (.iload 4, 2) := by decide +kernel
theorem dX7_check_99 : decode cX7_check 99 = .ok (.iload_n 2, 1) := by decide +kernel
theorem dX7_check_100 : decode cX7_check 100 = .ok (.if_icmp .ge 35, 3) := by decide +kernel
theorem dX7_check_103 : decode cX7_check 103 = .ok (.aload_n 0, 1) := by decide +kernel
theorem dX7_check_104 : decode cX7_check 104 = .ok (.getfield 44, 3) := by decide +kernel
theorem dX7_check_107 : decode cX7_check 107 = .ok (.iload 4, 2) := by decide +kernel
theorem dX7_check_109 : decode cX7_check 109 = .ok (.iaload, 1) := by decide +kernel
theorem dX7_check_110 : decode cX7_check 110 = .ok (.iload 5, 2) := by decide +kernel
theorem dX7_check_112 : decode cX7_check 112 = .ok (.ifCond .eq 13, 3) := by decide +kernel
theorem dX7_check_115 : decode cX7_check 115 = .ok (.aload_n 0, 1) := by decide +kernel
theorem dX7_check_116 : decode cX7_check 116 = .ok (.getfield 28, 3) := by decide +kernel
theorem dX7_check_119 : decode cX7_check 119 = .ok (.getfield 140, 3) := by decide +kernel
theorem dX7_check_122 : decode cX7_check 122 = .ok (.goto 10, 3) := by decide +kernel
theorem dX7_check_125 : decode cX7_check 125 = .ok (.aload_n 0, 1) := by decide +kernel
theorem dX7_check_126 : decode cX7_check 126 = .ok (.getfield 28, 3) := by decide +kernel
theorem dX7_check_129 : decode cX7_check 129 = .ok (.getfield 164, 3) := by decide +kernel
theorem dX7_check_132 : decode cX7_check 132 = .ok (.if_icmp .eq 8, 3) := by decide +kernel
theorem dX7_check_135 : decode cX7_check 135 = .ok (.iconst 1, 1) := by decide +kernel
theorem dX7_check_136 : decode cX7_check 136 = .ok (.iload 4, 2) := by decide +kernel
theorem dX7_check_138 : decode cX7_check 138 = .ok (.iadd, 1) := by decide +kernel
theorem dX7_check_139 : decode cX7_check 139 = .ok (.ireturn, 1) := by decide +kernel
theorem dX7_check_140 : decode cX7_check 140 = .ok (.iinc 4 1, 3) := by decide +kernel
theorem dX7_check_143 : decode cX7_check 143 = .ok (.goto (-78), 3) := by decide +kernel
theorem dX7_check_146 : decode cX7_check 146 = .ok (.iload_n 2, 1) := by decide +kernel
theorem dX7_check_147 : decode cX7_check 147 = .ok (.iload_n 3, 1) := by decide +kernel
theorem dX7_check_148 : decode cX7_check 148 = .ok (.if_icmp .ne 7, 3) := by decide +kernel
theorem dX7_check_151 : decode cX7_check 151 = .ok (.iconst 0, 1) := by decide +kernel
theorem dX7_check_152 : decode cX7_check 152 = .ok (.goto 6, 3) := by decide +kernel
theorem dX7_check_155 : decode cX7_check 155 = .ok (.iconst 1, 1) := by decide +kernel
theorem dX7_check_156 : decode cX7_check 156 = .ok (.iload_n 3, 1) := by decide +kernel
theorem dX7_check_157 : decode cX7_check 157 = .ok (.iadd, 1) := by decide +kernel
theorem dX7_check_158 : decode cX7_check 158 = .ok (.ireturn, 1) := by decide +kernel
theorem dX7_keep_0 : decode cX7_keep 0 = .ok (.aload_n 0, 1) := by decide +kernel
theorem dX7_keep_1 : decode cX7_keep 1 = .ok (.getfield 25, 3) := by decide +kernel
theorem dX7_keep_4 : decode cX7_keep 4 = .ok (.aload_n 0, 1) := by decide +kernel
theorem dX7_keep_5 : decode cX7_keep 5 = .ok (.getfield 21, 3) := by decide +kernel
theorem dX7_keep_8 : decode cX7_keep 8 = .ok (.invokevirtual 197, 3) := by decide +kernel
theorem dX7_keep_11 : decode cX7_keep 11 = .ok (.aload_n 0, 1) := by decide +kernel
theorem dX7_keep_12 : decode cX7_keep 12 = .ok (.iconst 1, 1) := by decide +kernel
theorem dX7_keep_13 : decode cX7_keep 13 = .ok (.putfield 311, 3) := by decide +kernel
theorem dX7_keep_16 : decode cX7_keep 16 = .ok (.aload_n 0, 1) := by decide +kernel
theorem dX7_keep_17 : decode cX7_keep 17 = .ok (.getfield 25, 3) := by decide +kernel
theorem dX7_keep_20 : decode cX7_keep 20 = .ok (.getfield 67, 3) := by decide +kernel
theorem dX7_keep_23 : decode cX7_keep 23 = .ok (.ireturn, 1) := by decide +kernel
theorem dX7_back_0 : decode cX7_back 0 = .ok (.aload_n 0, 1) := by decide +kernel
theorem dX7_back_1 : decode cX7_back 1 = .ok (.getfield 311, 3) := by decide +kernel
theorem dX7_back_4 : decode cX7_back 4 = .ok (.ifCond .ne 6, 3) := by decide +kernel
theorem dX7_back_7 : decode cX7_back 7 = .ok (.ldc 128, 2) := by decide +kernel
theorem dX7_back_9 : decode cX7_back 9 = .ok (.ireturn, 1) := by decide +kernel
theorem dX7_back_10 : decode cX7_back 10 = .ok (.aload_n 0, 1) := by decide +kernel
theorem dX7_back_11 : decode cX7_back 11 = .ok (.getfield 21, 3) := by decide +kernel
theorem dX7_back_14 : decode cX7_back 14 = .ok (.aload_n 0, 1) := by decide +kernel
theorem dX7_back_15 : decode cX7_back 15 = .ok (.getfield 25, 3) := by decide +kernel
theorem dX7_back_18 : decode cX7_back 18 = .ok (.invokevirtual 197, 3) := by decide +kernel
theorem dX7_back_21 : decode cX7_back 21 = .ok (.aload_n 0, 1) := by decide +kernel
theorem dX7_back_22 : decode cX7_back 22 = .ok (.getfield 21, 3) := by decide +kernel
theorem dX7_back_25 : decode cX7_back 25 = .ok (.getfield 67, 3) := by decide +kernel
theorem dX7_back_28 : decode cX7_back 28 = .ok (.ireturn, 1) := by decide +kernel
theorem dX7_count_0 : decode cX7_count 0 = .ok (.iload_n 1, 1) := by decide +kernel
theorem dX7_count_1 : decode cX7_count 1 = .ok (.tableswitch 105 0 7 #[47, 55, 63, 71, 79, 87, 92, 97], 47) := by decide +kernel
theorem dX7_count_48 : decode cX7_count 48 = .ok (.aload_n 0, 1) := by decide +kernel
theorem dX7_count_49 : decode cX7_count 49 = .ok (.getfield 21, 3) := by decide +kernel
theorem dX7_count_52 : decode cX7_count 52 = .ok (.getfield 67, 3) := by decide +kernel
theorem dX7_count_55 : decode cX7_count 55 = .ok (.ireturn, 1) := by decide +kernel
theorem dX7_count_56 : decode cX7_count 56 = .ok (.aload_n 0, 1) := by decide +kernel
theorem dX7_count_57 : decode cX7_count 57 = .ok (.getfield 21, 3) := by decide +kernel
theorem dX7_count_60 : decode cX7_count 60 = .ok (.getfield 140, 3) := by decide +kernel
theorem dX7_count_63 : decode cX7_count 63 = .ok (.ireturn, 1) := by decide +kernel
theorem dX7_count_64 : decode cX7_count 64 = .ok (.aload_n 0, 1) := by decide +kernel
theorem dX7_count_65 : decode cX7_count 65 = .ok (.getfield 21, 3) := by decide +kernel
theorem dX7_count_68 : decode cX7_count 68 = .ok (.getfield 132, 3) := by decide +kernel
theorem dX7_count_71 : decode cX7_count 71 = .ok (.ireturn, 1) := by decide +kernel
theorem dX7_count_72 : decode cX7_count 72 = .ok (.aload_n 0, 1) := by decide +kernel
theorem dX7_count_73 : decode cX7_count 73 = .ok (.getfield 21, 3) := by decide +kernel
theorem dX7_count_76 : decode cX7_count 76 = .ok (.invokevirtual 315, 3) := by decide +kernel
theorem dX7_count_79 : decode cX7_count 79 = .ok (.ireturn, 1) := by decide +kernel
theorem dX7_count_80 : decode cX7_count 80 = .ok (.aload_n 0, 1) := by decide +kernel
theorem dX7_count_81 : decode cX7_count 81 = .ok (.getfield 21, 3) := by decide +kernel
theorem dX7_count_84 : decode cX7_count 84 = .ok (.getfield 238, 3) := by decide +kernel
theorem dX7_count_87 : decode cX7_count 87 = .ok (.ireturn, 1) := by decide +kernel
theorem dX7_count_88 : decode cX7_count 88 = .ok (.aload_n 0, 1) := by decide +kernel
theorem dX7_count_89 : decode cX7_count 89 = .ok (.getfield 308, 3) := by decide +kernel
theorem dX7_count_92 : decode cX7_count 92 = .ok (.ireturn, 1) := by decide +kernel
theorem dX7_count_93 : decode cX7_count 93 = .ok (.aload_n 0, 1) := by decide +kernel
theorem dX7_count_94 : decode cX7_count 94 = .ok (.getfield 232, 3) := by decide +kernel
theorem dX7_count_97 : decode cX7_count 97 = .ok (.ireturn, 1) := by decide +kernel
theorem dX7_count_98 : decode cX7_count 98 = .ok (.aload_n 0, 1) := by decide +kernel
theorem dX7_count_99 : decode cX7_count 99 = .ok (.getfield 21, 3) := by decide +kernel
theorem dX7_count_102 : decode cX7_count 102 = .ok (.getfield 176, 3) := by decide +kernel
theorem dX7_count_105 : decode cX7_count 105 = .ok (.ireturn, 1) := by decide +kernel
theorem dX7_count_106 : decode cX7_count 106 = .ok (.ldc 66, 2) := by decide +kernel
theorem dX7_count_108 : decode cX7_count 108 = .ok (.ireturn, 1) := by decide +kernel
theorem dX7_isWithin_0 : decode cX7_isWithin 0 = .ok (.iload_n 0, 1) := by decide +kernel
theorem dX7_isWithin_1 : decode cX7_isWithin 1 = .ok (.iload_n 1, 1) := by decide +kernel
theorem dX7_isWithin_2 : decode cX7_isWithin 2 = .ok (.if_icmp .lt 12, 3) := by decide +kernel
theorem dX7_isWithin_5 : decode cX7_isWithin 5 = .ok (.iload_n 0, 1) := by decide +kernel
theorem dX7_isWithin_6 : decode cX7_isWithin 6 = .ok (.iload_n 2, 1) := by decide +kernel
theorem dX7_isWithin_7 : decode cX7_isWithin 7 = .ok (.if_icmp .gt 7, 3) := by decide +kernel
theorem dX7_isWithin_10 : decode cX7_isWithin 10 = .ok (.iconst 1, 1) := by decide +kernel
theorem dX7_isWithin_11 : decode cX7_isWithin 11 = .ok (.goto 4, 3) := by decide +kernel
theorem dX7_isWithin_14 : decode cX7_isWithin 14 = .ok (.iconst 0, 1) := by decide +kernel
theorem dX7_isWithin_15 : decode cX7_isWithin 15 = .ok (.ireturn, 1) := by decide +kernel
theorem dX7_heldWithin_0 : decode cX7_heldWithin 0 = .ok (.iload_n 1, 1) := by decide +kernel
theorem dX7_heldWithin_1 : decode cX7_heldWithin 1 = .ok (.iload_n 2, 1) := by decide +kernel
theorem dX7_heldWithin_2 : decode cX7_heldWithin 2 = .ok (.iload_n 0, 1) := by decide +kernel
theorem dX7_heldWithin_3 : decode cX7_heldWithin 3 = .ok (.invokestatic 167, 3) := by decide +kernel
theorem dX7_heldWithin_6 : decode cX7_heldWithin 6 = .ok (.invokestatic 318, 3) := by decide +kernel
theorem dX7_heldWithin_9 : decode cX7_heldWithin 9 = .ok (.ireturn, 1) := by decide +kernel
