theorem dL_lands_0 : decode cL_lands 0 = .ok (.bipush 6, 2) := by decide +kernel
theorem dL_lands_2 : decode cL_lands 2 = .ok (.newarray .int, 2) := by decide +kernel
theorem dL_lands_4 : decode cL_lands 4 = .ok (.astore 4, 2) := by decide +kernel
theorem dL_lands_6 : decode cL_lands 6 = .ok (.iconst 0, 1) := by decide +kernel
theorem dL_lands_7 : decode cL_lands 7 = .ok (.istore 5, 2) := by decide +kernel
theorem dL_lands_9 : decode cL_lands 9 = .ok (.iload 5, 2) := by decide +kernel
theorem dL_lands_11 : decode cL_lands 11 = .ok (.bipush 6, 2) := by decide +kernel
theorem dL_lands_13 : decode cL_lands 13 = .ok (.if_icmp .ge 17, 3) := by decide +kernel
theorem dL_lands_16 : decode cL_lands 16 = .ok (.aload_n 3, 1) := by decide +kernel
theorem dL_lands_17 : decode cL_lands 17 = .ok (.iload 5, 2) := by decide +kernel
theorem dL_lands_19 : decode cL_lands 19 = .ok (.aload_n 0, 1) := by decide +kernel
theorem dL_lands_20 : decode cL_lands 20 = .ok (.iload 5, 2) := by decide +kernel
theorem dL_lands_22 : decode cL_lands 22 = .ok (.iaload, 1) := by decide +kernel
theorem dL_lands_23 : decode cL_lands 23 = .ok (.iastore, 1) := by decide +kernel
theorem dL_lands_24 : decode cL_lands 24 = .ok (.iinc 5 1, 3) := by decide +kernel
theorem dL_lands_27 : decode cL_lands 27 = .ok (.goto (-18), 3) := by decide +kernel
theorem dL_lands_30 : decode cL_lands 30 = .ok (.iconst 5, 1) := by decide +kernel
theorem dL_lands_31 : decode cL_lands 31 = .ok (.istore 5, 2) := by decide +kernel
theorem dL_lands_33 : decode cL_lands 33 = .ok (.iload 5, 2) := by decide +kernel
theorem dL_lands_35 : decode cL_lands 35 = .ok (.ifCond .le 153, 3) := by decide +kernel
theorem dL_lands_38 : decode cL_lands 38 = .ok (.iconst 0, 1) := by decide +kernel
theorem dL_lands_39 : decode cL_lands 39 = .ok (.istore 6, 2) := by decide +kernel
theorem dL_lands_41 : decode cL_lands 41 = .ok (.iload 6, 2) := by decide +kernel
theorem dL_lands_43 : decode cL_lands 43 = .ok (.aload_n 2, 1) := by decide +kernel
theorem dL_lands_44 : decode cL_lands 44 = .ok (.iconst 0, 1) := by decide +kernel
theorem dL_lands_45 : decode cL_lands 45 = .ok (.iaload, 1) := by decide +kernel
theorem dL_lands_46 : decode cL_lands 46 = .ok (.if_icmp .ge 110, 3) := by decide +kernel
theorem dL_lands_49 : decode cL_lands 49 = .ok (.aload 4, 2) := by decide +kernel
theorem dL_lands_51 : decode cL_lands 51 = .ok (.iload 6, 2) := by decide +kernel
theorem dL_lands_53 : decode cL_lands 53 = .ok (.aload_n 0, 1) := by decide +kernel
theorem dL_lands_54 : decode cL_lands 54 = .ok (.iload 6, 2) := by decide +kernel
theorem dL_lands_56 : decode cL_lands 56 = .ok (.iaload, 1) := by decide +kernel
theorem dL_lands_57 : decode cL_lands 57 = .ok (.iastore, 1) := by decide +kernel
theorem dL_lands_58 : decode cL_lands 58 = .ok (.iconst 1, 1) := by decide +kernel
theorem dL_lands_59 : decode cL_lands 59 = .ok (.istore 7, 2) := by decide +kernel
theorem dL_lands_61 : decode cL_lands 61 = .ok (.iload 7, 2) := by decide +kernel
theorem dL_lands_63 : decode cL_lands 63 = .ok (.iconst 5, 1) := by decide +kernel
theorem dL_lands_64 : decode cL_lands 64 = .ok (.if_icmp .ge 86, 3) := by decide +kernel
theorem dL_lands_67 : decode cL_lands 67 = .ok (.aload_n 0, 1) := by decide +kernel
theorem dL_lands_68 : decode cL_lands 68 = .ok (.iload 6, 2) := by decide +kernel
theorem dL_lands_70 : decode cL_lands 70 = .ok (.iaload, 1) := by decide +kernel
theorem dL_lands_71 : decode cL_lands 71 = .ok (.ifCond .ne 79, 3) := by decide +kernel
theorem dL_lands_74 : decode cL_lands 74 = .ok (.iconst 0, 1) := by decide +kernel
theorem dL_lands_75 : decode cL_lands 75 = .ok (.istore 8, 2) := by decide +kernel
theorem dL_lands_77 : decode cL_lands 77 = .ok (.iconst 0, 1) := by decide +kernel
theorem dL_lands_78 : decode cL_lands 78 = .ok (.istore 9, 2) := by decide +kernel
theorem dL_lands_80 : decode cL_lands 80 = .ok (.iload 9, 2) := by decide +kernel
theorem dL_lands_82 : decode cL_lands 82 = .ok (.aload_n 2, 1) := by decide +kernel
theorem dL_lands_83 : decode cL_lands 83 = .ok (.iconst 0, 1) := by decide +kernel
theorem dL_lands_84 : decode cL_lands 84 = .ok (.iaload, 1) := by decide +kernel
theorem dL_lands_85 : decode cL_lands 85 = .ok (.if_icmp .ge 37, 3) := by decide +kernel
theorem dL_lands_88 : decode cL_lands 88 = .ok (.iload 8, 2) := by decide +kernel
theorem dL_lands_90 : decode cL_lands 90 = .ok (.aload_n 3, 1) := by decide +kernel
theorem dL_lands_91 : decode cL_lands 91 = .ok (.iload 9, 2) := by decide +kernel
theorem dL_lands_93 : decode cL_lands 93 = .ok (.iaload, 1) := by decide +kernel
theorem dL_lands_94 : decode cL_lands 94 = .ok (.iload 7, 2) := by decide +kernel
theorem dL_lands_96 : decode cL_lands 96 = .ok (.if_icmp .ne 16, 3) := by decide +kernel
theorem dL_lands_99 : decode cL_lands 99 = .ok (.aload_n 1, 1) := by decide +kernel
theorem dL_lands_100 : decode cL_lands 100 = .ok (.bipush 6, 2) := by decide +kernel
theorem dL_lands_102 : decode cL_lands 102 = .ok (.iload 6, 2) := by decide +kernel
theorem dL_lands_104 : decode cL_lands 104 = .ok (.imul, 1) := by decide +kernel
theorem dL_lands_105 : decode cL_lands 105 = .ok (.iload 9, 2) := by decide +kernel
theorem dL_lands_107 : decode cL_lands 107 = .ok (.iadd, 1) := by decide +kernel
theorem dL_lands_108 : decode cL_lands 108 = .ok (.iaload, 1) := by decide +kernel
theorem dL_lands_109 : decode cL_lands 109 = .ok (.goto 4, 3) := by decide +kernel
theorem dL_lands_112 : decode cL_lands 112 = .ok (.iconst 0, 1) := by decide +kernel
theorem dL_lands_113 : decode cL_lands 113 = .ok (.iadd, 1) := by decide +kernel
theorem dL_lands_114 : decode cL_lands 114 = .ok (.istore 8, 2) := by decide +kernel
theorem dL_lands_116 : decode cL_lands 116 = .ok (.iinc 9 1, 3) := by decide +kernel
theorem dL_lands_119 : decode cL_lands 119 = .ok (.goto (-39), 3) := by decide +kernel
theorem dL_lands_122 : decode cL_lands 122 = .ok (.aload 4, 2) := by decide +kernel
theorem dL_lands_124 : decode cL_lands 124 = .ok (.iload 6, 2) := by decide +kernel
theorem dL_lands_126 : decode cL_lands 126 = .ok (.iload 8, 2) := by decide +kernel
theorem dL_lands_128 : decode cL_lands 128 = .ok (.bipush 32, 2) := by decide +kernel
theorem dL_lands_130 : decode cL_lands 130 = .ok (.if_icmp .le 8, 3) := by decide +kernel
theorem dL_lands_133 : decode cL_lands 133 = .ok (.iload 7, 2) := by decide +kernel
theorem dL_lands_135 : decode cL_lands 135 = .ok (.goto 8, 3) := by decide +kernel
theorem dL_lands_138 : decode cL_lands 138 = .ok (.aload 4, 2) := by decide +kernel
theorem dL_lands_140 : decode cL_lands 140 = .ok (.iload 6, 2) := by decide +kernel
theorem dL_lands_142 : decode cL_lands 142 = .ok (.iaload, 1) := by decide +kernel
theorem dL_lands_143 : decode cL_lands 143 = .ok (.iastore, 1) := by decide +kernel
theorem dL_lands_144 : decode cL_lands 144 = .ok (.iinc 7 1, 3) := by decide +kernel
theorem dL_lands_147 : decode cL_lands 147 = .ok (.goto (-86), 3) := by decide +kernel
theorem dL_lands_150 : decode cL_lands 150 = .ok (.iinc 6 1, 3) := by decide +kernel
theorem dL_lands_153 : decode cL_lands 153 = .ok (.goto (-112), 3) := by decide +kernel
theorem dL_lands_156 : decode cL_lands 156 = .ok (.iconst 0, 1) := by decide +kernel
theorem dL_lands_157 : decode cL_lands 157 = .ok (.istore 6, 2) := by decide +kernel
theorem dL_lands_159 : decode cL_lands 159 = .ok (.iload 6, 2) := by decide +kernel
theorem dL_lands_161 : decode cL_lands 161 = .ok (.aload_n 2, 1) := by decide +kernel
theorem dL_lands_162 : decode cL_lands 162 = .ok (.iconst 0, 1) := by decide +kernel
theorem dL_lands_163 : decode cL_lands 163 = .ok (.iaload, 1) := by decide +kernel
theorem dL_lands_164 : decode cL_lands 164 = .ok (.if_icmp .ge 18, 3) := by decide +kernel
theorem dL_lands_167 : decode cL_lands 167 = .ok (.aload_n 3, 1) := by decide +kernel
theorem dL_lands_168 : decode cL_lands 168 = .ok (.iload 6, 2) := by decide +kernel
theorem dL_lands_170 : decode cL_lands 170 = .ok (.aload 4, 2) := by decide +kernel
theorem dL_lands_172 : decode cL_lands 172 = .ok (.iload 6, 2) := by decide +kernel
theorem dL_lands_174 : decode cL_lands 174 = .ok (.iaload, 1) := by decide +kernel
theorem dL_lands_175 : decode cL_lands 175 = .ok (.iastore, 1) := by decide +kernel
theorem dL_lands_176 : decode cL_lands 176 = .ok (.iinc 6 1, 3) := by decide +kernel
theorem dL_lands_179 : decode cL_lands 179 = .ok (.goto (-20), 3) := by decide +kernel
theorem dL_lands_182 : decode cL_lands 182 = .ok (.iinc 5 (-1), 3) := by decide +kernel
theorem dL_lands_185 : decode cL_lands 185 = .ok (.goto (-152), 3) := by decide +kernel
theorem dL_lands_188 : decode cL_lands 188 = .ok (.return_, 1) := by decide +kernel
theorem dL_can_0 : decode cL_can 0 = .ok (.iconst 0, 1) := by decide +kernel
theorem dL_can_1 : decode cL_can 1 = .ok (.istore 5, 2) := by decide +kernel
theorem dL_can_3 : decode cL_can 3 = .ok (.iconst 0, 1) := by decide +kernel
theorem dL_can_4 : decode cL_can 4 = .ok (.istore 6, 2) := by decide +kernel
theorem dL_can_6 : decode cL_can 6 = .ok (.iload 6, 2) := by decide +kernel
theorem dL_can_8 : decode cL_can 8 = .ok (.aload_n 2, 1) := by decide +kernel
theorem dL_can_9 : decode cL_can 9 = .ok (.iconst 0, 1) := by decide +kernel
theorem dL_can_10 : decode cL_can 10 = .ok (.iaload, 1) := by decide +kernel
theorem dL_can_11 : decode cL_can 11 = .ok (.if_icmp .ge 36, 3) := by decide +kernel
theorem dL_can_14 : decode cL_can 14 = .ok (.iload 5, 2) := by decide +kernel
theorem dL_can_16 : decode cL_can 16 = .ok (.aload_n 0, 1) := by decide +kernel
theorem dL_can_17 : decode cL_can 17 = .ok (.iload 6, 2) := by decide +kernel
theorem dL_can_19 : decode cL_can 19 = .ok (.iaload, 1) := by decide +kernel
theorem dL_can_20 : decode cL_can 20 = .ok (.iload 4, 2) := by decide +kernel
theorem dL_can_22 : decode cL_can 22 = .ok (.if_icmp .ne 15, 3) := by decide +kernel
theorem dL_can_25 : decode cL_can 25 = .ok (.aload_n 1, 1) := by decide +kernel
theorem dL_can_26 : decode cL_can 26 = .ok (.bipush 6, 2) := by decide +kernel
theorem dL_can_28 : decode cL_can 28 = .ok (.iload_n 3, 1) := by decide +kernel
theorem dL_can_29 : decode cL_can 29 = .ok (.imul, 1) := by decide +kernel
theorem dL_can_30 : decode cL_can 30 = .ok (.iload 6, 2) := by decide +kernel
theorem dL_can_32 : decode cL_can 32 = .ok (.iadd, 1) := by decide +kernel
theorem dL_can_33 : decode cL_can 33 = .ok (.iaload, 1) := by decide +kernel
theorem dL_can_34 : decode cL_can 34 = .ok (.goto 4, 3) := by decide +kernel
theorem dL_can_37 : decode cL_can 37 = .ok (.iconst 0, 1) := by decide +kernel
theorem dL_can_38 : decode cL_can 38 = .ok (.iadd, 1) := by decide +kernel
theorem dL_can_39 : decode cL_can 39 = .ok (.istore 5, 2) := by decide +kernel
theorem dL_can_41 : decode cL_can 41 = .ok (.iinc 6 1, 3) := by decide +kernel
theorem dL_can_44 : decode cL_can 44 = .ok (.goto (-38), 3) := by decide +kernel
theorem dL_can_47 : decode cL_can 47 = .ok (.iload 5, 2) := by decide +kernel
theorem dL_can_49 : decode cL_can 49 = .ok (.bipush 32, 2) := by decide +kernel
theorem dL_can_51 : decode cL_can 51 = .ok (.if_icmp .le 7, 3) := by decide +kernel
theorem dL_can_54 : decode cL_can 54 = .ok (.iconst 1, 1) := by decide +kernel
theorem dL_can_55 : decode cL_can 55 = .ok (.goto 4, 3) := by decide +kernel
theorem dL_can_58 : decode cL_can 58 = .ok (.iconst 0, 1) := by decide +kernel
theorem dL_can_59 : decode cL_can 59 = .ok (.ireturn, 1) := by decide +kernel
theorem dL_looks_0 : decode cL_looks 0 = .ok (.bipush 6, 2) := by decide +kernel
theorem dL_looks_2 : decode cL_looks 2 = .ok (.newarray .int, 2) := by decide +kernel
theorem dL_looks_4 : decode cL_looks 4 = .ok (.astore 8, 2) := by decide +kernel
theorem dL_looks_6 : decode cL_looks 6 = .ok (.aload_n 0, 1) := by decide +kernel
theorem dL_looks_7 : decode cL_looks 7 = .ok (.aload_n 1, 1) := by decide +kernel
theorem dL_looks_8 : decode cL_looks 8 = .ok (.aload 5, 2) := by decide +kernel
theorem dL_looks_10 : decode cL_looks 10 = .ok (.aload 8, 2) := by decide +kernel
theorem dL_looks_12 : decode cL_looks 12 = .ok (.invokestatic 7, 3) := by decide +kernel
theorem dL_looks_15 : decode cL_looks 15 = .ok (.iconst 0, 1) := by decide +kernel
theorem dL_looks_16 : decode cL_looks 16 = .ok (.istore 9, 2) := by decide +kernel
theorem dL_looks_18 : decode cL_looks 18 = .ok (.iload 9, 2) := by decide +kernel
theorem dL_looks_20 : decode cL_looks 20 = .ok (.aload 5, 2) := by decide +kernel
theorem dL_looks_22 : decode cL_looks 22 = .ok (.iconst 1, 1) := by decide +kernel
theorem dL_looks_23 : decode cL_looks 23 = .ok (.iaload, 1) := by decide +kernel
theorem dL_looks_24 : decode cL_looks 24 = .ok (.if_icmp .ge 76, 3) := by decide +kernel
theorem dL_looks_27 : decode cL_looks 27 = .ok (.aload_n 3, 1) := by decide +kernel
theorem dL_looks_28 : decode cL_looks 28 = .ok (.iload 9, 2) := by decide +kernel
theorem dL_looks_30 : decode cL_looks 30 = .ok (.iaload, 1) := by decide +kernel
theorem dL_looks_31 : decode cL_looks 31 = .ok (.ifCond .eq 20, 3) := by decide +kernel
theorem dL_looks_34 : decode cL_looks 34 = .ok (.aload 8, 2) := by decide +kernel
theorem dL_looks_36 : decode cL_looks 36 = .ok (.aload_n 2, 1) := by decide +kernel
theorem dL_looks_37 : decode cL_looks 37 = .ok (.aload 5, 2) := by decide +kernel
theorem dL_looks_39 : decode cL_looks 39 = .ok (.iload 9, 2) := by decide +kernel
theorem dL_looks_41 : decode cL_looks 41 = .ok (.aload_n 3, 1) := by decide +kernel
theorem dL_looks_42 : decode cL_looks 42 = .ok (.iload 9, 2) := by decide +kernel
theorem dL_looks_44 : decode cL_looks 44 = .ok (.iaload, 1) := by decide +kernel
theorem dL_looks_45 : decode cL_looks 45 = .ok (.invokestatic 13, 3) := by decide +kernel
theorem dL_looks_48 : decode cL_looks 48 = .ok (.ifCond .eq 7, 3) := by decide +kernel
theorem dL_looks_51 : decode cL_looks 51 = .ok (.iconst 1, 1) := by decide +kernel
theorem dL_looks_52 : decode cL_looks 52 = .ok (.goto 4, 3) := by decide +kernel
theorem dL_looks_55 : decode cL_looks 55 = .ok (.iconst 0, 1) := by decide +kernel
theorem dL_looks_56 : decode cL_looks 56 = .ok (.istore 10, 2) := by decide +kernel
theorem dL_looks_58 : decode cL_looks 58 = .ok (.aload 4, 2) := by decide +kernel
theorem dL_looks_60 : decode cL_looks 60 = .ok (.iload 9, 2) := by decide +kernel
theorem dL_looks_62 : decode cL_looks 62 = .ok (.iload 10, 2) := by decide +kernel
theorem dL_looks_64 : decode cL_looks 64 = .ok (.ifCond .eq 9, 3) := by decide +kernel
theorem dL_looks_67 : decode cL_looks 67 = .ok (.ldc2_w 17, 3) := by decide +kernel
theorem dL_looks_70 : decode cL_looks 70 = .ok (.goto 23, 3) := by decide +kernel
theorem dL_looks_73 : decode cL_looks 73 = .ok (.aload 4, 2) := by decide +kernel
theorem dL_looks_75 : decode cL_looks 75 = .ok (.iload 9, 2) := by decide +kernel
theorem dL_looks_77 : decode cL_looks 77 = .ok (.laload, 1) := by decide +kernel
theorem dL_looks_78 : decode cL_looks 78 = .ok (.lconst 0, 1) := by decide +kernel
theorem dL_looks_79 : decode cL_looks 79 = .ok (.lcmp, 1) := by decide +kernel
theorem dL_looks_80 : decode cL_looks 80 = .ok (.ifCond .ge 8, 3) := by decide +kernel
theorem dL_looks_83 : decode cL_looks 83 = .ok (.lload 6, 2) := by decide +kernel
theorem dL_looks_85 : decode cL_looks 85 = .ok (.goto 8, 3) := by decide +kernel
theorem dL_looks_88 : decode cL_looks 88 = .ok (.aload 4, 2) := by decide +kernel
theorem dL_looks_90 : decode cL_looks 90 = .ok (.iload 9, 2) := by decide +kernel
theorem dL_looks_92 : decode cL_looks 92 = .ok (.laload, 1) := by decide +kernel
theorem dL_looks_93 : decode cL_looks 93 = .ok (.lastore, 1) := by decide +kernel
theorem dL_looks_94 : decode cL_looks 94 = .ok (.iinc 9 1, 3) := by decide +kernel
theorem dL_looks_97 : decode cL_looks 97 = .ok (.goto (-79), 3) := by decide +kernel
theorem dL_looks_100 : decode cL_looks 100 = .ok (.return_, 1) := by decide +kernel
theorem dL_flag_0 : decode cL_flag 0 = .ok (.aload_n 1, 1) := by decide +kernel
theorem dL_flag_1 : decode cL_flag 1 = .ok (.iload_n 2, 1) := by decide +kernel
theorem dL_flag_2 : decode cL_flag 2 = .ok (.laload, 1) := by decide +kernel
theorem dL_flag_3 : decode cL_flag 3 = .ok (.lconst 0, 1) := by decide +kernel
theorem dL_flag_4 : decode cL_flag 4 = .ok (.lcmp, 1) := by decide +kernel
theorem dL_flag_5 : decode cL_flag 5 = .ok (.ifCond .lt 19, 3) := by decide +kernel
theorem dL_flag_8 : decode cL_flag 8 = .ok (.lload_n 3, 1) := by decide +kernel
theorem dL_flag_9 : decode cL_flag 9 = .ok (.aload_n 1, 1) := by decide +kernel
theorem dL_flag_10 : decode cL_flag 10 = .ok (.iload_n 2, 1) := by decide +kernel
theorem dL_flag_11 : decode cL_flag 11 = .ok (.laload, 1) := by decide +kernel
theorem dL_flag_12 : decode cL_flag 12 = .ok (.ldc2_w 19, 3) := by decide +kernel
theorem dL_flag_15 : decode cL_flag 15 = .ok (.ladd, 1) := by decide +kernel
theorem dL_flag_16 : decode cL_flag 16 = .ok (.lcmp, 1) := by decide +kernel
theorem dL_flag_17 : decode cL_flag 17 = .ok (.ifCond .lt 7, 3) := by decide +kernel
theorem dL_flag_20 : decode cL_flag 20 = .ok (.iconst (-1), 1) := by decide +kernel
theorem dL_flag_21 : decode cL_flag 21 = .ok (.goto 8, 3) := by decide +kernel
theorem dL_flag_24 : decode cL_flag 24 = .ok (.aload_n 0, 1) := by decide +kernel
theorem dL_flag_25 : decode cL_flag 25 = .ok (.iload_n 2, 1) := by decide +kernel
theorem dL_flag_26 : decode cL_flag 26 = .ok (.iaload, 1) := by decide +kernel
theorem dL_flag_27 : decode cL_flag 27 = .ok (.iconst 1, 1) := by decide +kernel
theorem dL_flag_28 : decode cL_flag 28 = .ok (.isub, 1) := by decide +kernel
theorem dL_flag_29 : decode cL_flag 29 = .ok (.ireturn, 1) := by decide +kernel
theorem dL_isOf_0 : decode cL_isOf 0 = .ok (.aload_n 0, 1) := by decide +kernel
theorem dL_isOf_1 : decode cL_isOf 1 = .ok (.iload_n 1, 1) := by decide +kernel
theorem dL_isOf_2 : decode cL_isOf 2 = .ok (.iaload, 1) := by decide +kernel
theorem dL_isOf_3 : decode cL_isOf 3 = .ok (.bipush 16, 2) := by decide +kernel
theorem dL_isOf_5 : decode cL_isOf 5 = .ok (.irem, 1) := by decide +kernel
theorem dL_isOf_6 : decode cL_isOf 6 = .ok (.iload_n 2, 1) := by decide +kernel
theorem dL_isOf_7 : decode cL_isOf 7 = .ok (.iconst 4, 1) := by decide +kernel
theorem dL_isOf_8 : decode cL_isOf 8 = .ok (.iload_n 3, 1) := by decide +kernel
theorem dL_isOf_9 : decode cL_isOf 9 = .ok (.imul, 1) := by decide +kernel
theorem dL_isOf_10 : decode cL_isOf 10 = .ok (.iadd, 1) := by decide +kernel
theorem dL_isOf_11 : decode cL_isOf 11 = .ok (.if_icmp .ne 7, 3) := by decide +kernel
theorem dL_isOf_14 : decode cL_isOf 14 = .ok (.iconst 1, 1) := by decide +kernel
theorem dL_isOf_15 : decode cL_isOf 15 = .ok (.goto 4, 3) := by decide +kernel
theorem dL_isOf_18 : decode cL_isOf 18 = .ok (.iconst 0, 1) := by decide +kernel
theorem dL_isOf_19 : decode cL_isOf 19 = .ok (.ireturn, 1) := by decide +kernel
theorem dL_was_0 : decode cL_was 0 = .ok (.aload_n 1, 1) := by decide +kernel
theorem dL_was_1 : decode cL_was 1 = .ok (.iload 5, 2) := by decide +kernel
theorem dL_was_3 : decode cL_was 3 = .ok (.laload, 1) := by decide +kernel
theorem dL_was_4 : decode cL_was 4 = .ok (.lload 6, 2) := by decide +kernel
theorem dL_was_6 : decode cL_was 6 = .ok (.lcmp, 1) := by decide +kernel
theorem dL_was_7 : decode cL_was 7 = .ok (.ifCond .gt 26, 3) := by decide +kernel
theorem dL_was_10 : decode cL_was 10 = .ok (.aload_n 2, 1) := by decide +kernel
theorem dL_was_11 : decode cL_was 11 = .ok (.iload 5, 2) := by decide +kernel
theorem dL_was_13 : decode cL_was 13 = .ok (.laload, 1) := by decide +kernel
theorem dL_was_14 : decode cL_was 14 = .ok (.lconst 0, 1) := by decide +kernel
theorem dL_was_15 : decode cL_was 15 = .ok (.lcmp, 1) := by decide +kernel
theorem dL_was_16 : decode cL_was 16 = .ok (.ifCond .lt 13, 3) := by decide +kernel
theorem dL_was_19 : decode cL_was 19 = .ok (.aload_n 2, 1) := by decide +kernel
theorem dL_was_20 : decode cL_was 20 = .ok (.iload 5, 2) := by decide +kernel
theorem dL_was_22 : decode cL_was 22 = .ok (.laload, 1) := by decide +kernel
theorem dL_was_23 : decode cL_was 23 = .ok (.lload 6, 2) := by decide +kernel
theorem dL_was_25 : decode cL_was 25 = .ok (.lcmp, 1) := by decide +kernel
theorem dL_was_26 : decode cL_was 26 = .ok (.ifCond .le 7, 3) := by decide +kernel
theorem dL_was_29 : decode cL_was 29 = .ok (.iconst 1, 1) := by decide +kernel
theorem dL_was_30 : decode cL_was 30 = .ok (.goto 4, 3) := by decide +kernel
theorem dL_was_33 : decode cL_was 33 = .ok (.iconst 0, 1) := by decide +kernel
theorem dL_was_34 : decode cL_was 34 = .ok (.istore 8, 2) := by decide +kernel
theorem dL_was_36 : decode cL_was 36 = .ok (.iload 5, 2) := by decide +kernel
theorem dL_was_38 : decode cL_was 38 = .ok (.iconst 1, 1) := by decide +kernel
theorem dL_was_39 : decode cL_was 39 = .ok (.iadd, 1) := by decide +kernel
theorem dL_was_40 : decode cL_was 40 = .ok (.istore 9, 2) := by decide +kernel
theorem dL_was_42 : decode cL_was 42 = .ok (.iload 9, 2) := by decide +kernel
theorem dL_was_44 : decode cL_was 44 = .ok (.aload 4, 2) := by decide +kernel
theorem dL_was_46 : decode cL_was 46 = .ok (.iconst 2, 1) := by decide +kernel
theorem dL_was_47 : decode cL_was 47 = .ok (.iaload, 1) := by decide +kernel
theorem dL_was_48 : decode cL_was 48 = .ok (.if_icmp .ge 73, 3) := by decide +kernel
theorem dL_was_51 : decode cL_was 51 = .ok (.aload_n 3, 1) := by decide +kernel
theorem dL_was_52 : decode cL_was 52 = .ok (.iload 9, 2) := by decide +kernel
theorem dL_was_54 : decode cL_was 54 = .ok (.iaload, 1) := by decide +kernel
theorem dL_was_55 : decode cL_was 55 = .ok (.bipush 64, 2) := by decide +kernel
theorem dL_was_57 : decode cL_was 57 = .ok (.irem, 1) := by decide +kernel
theorem dL_was_58 : decode cL_was 58 = .ok (.iload 5, 2) := by decide +kernel
theorem dL_was_60 : decode cL_was 60 = .ok (.iconst 1, 1) := by decide +kernel
theorem dL_was_61 : decode cL_was 61 = .ok (.iadd, 1) := by decide +kernel
theorem dL_was_62 : decode cL_was 62 = .ok (.if_icmp .ne 49, 3) := by decide +kernel
theorem dL_was_65 : decode cL_was 65 = .ok (.aload_n 1, 1) := by decide +kernel
theorem dL_was_66 : decode cL_was 66 = .ok (.iload 9, 2) := by decide +kernel
theorem dL_was_68 : decode cL_was 68 = .ok (.laload, 1) := by decide +kernel
theorem dL_was_69 : decode cL_was 69 = .ok (.lload 6, 2) := by decide +kernel
theorem dL_was_71 : decode cL_was 71 = .ok (.lcmp, 1) := by decide +kernel
theorem dL_was_72 : decode cL_was 72 = .ok (.ifCond .gt 39, 3) := by decide +kernel
theorem dL_was_75 : decode cL_was 75 = .ok (.aload_n 3, 1) := by decide +kernel
theorem dL_was_76 : decode cL_was 76 = .ok (.iload 9, 2) := by decide +kernel
theorem dL_was_78 : decode cL_was 78 = .ok (.iaload, 1) := by decide +kernel
theorem dL_was_79 : decode cL_was 79 = .ok (.bipush 64, 2) := by decide +kernel
theorem dL_was_81 : decode cL_was 81 = .ok (.if_icmp .ge 26, 3) := by decide +kernel
theorem dL_was_84 : decode cL_was 84 = .ok (.aload_n 2, 1) := by decide +kernel
theorem dL_was_85 : decode cL_was 85 = .ok (.iload 5, 2) := by decide +kernel
theorem dL_was_87 : decode cL_was 87 = .ok (.laload, 1) := by decide +kernel
theorem dL_was_88 : decode cL_was 88 = .ok (.lconst 0, 1) := by decide +kernel
theorem dL_was_89 : decode cL_was 89 = .ok (.lcmp, 1) := by decide +kernel
theorem dL_was_90 : decode cL_was 90 = .ok (.ifCond .lt 13, 3) := by decide +kernel
theorem dL_was_93 : decode cL_was 93 = .ok (.aload_n 2, 1) := by decide +kernel
theorem dL_was_94 : decode cL_was 94 = .ok (.iload 5, 2) := by decide +kernel
theorem dL_was_96 : decode cL_was 96 = .ok (.laload, 1) := by decide +kernel
theorem dL_was_97 : decode cL_was 97 = .ok (.lload 6, 2) := by decide +kernel
theorem dL_was_99 : decode cL_was 99 = .ok (.lcmp, 1) := by decide +kernel
theorem dL_was_100 : decode cL_was 100 = .ok (.ifCond .le 7, 3) := by decide +kernel
theorem dL_was_103 : decode cL_was 103 = .ok (.iconst 1, 1) := by decide +kernel
theorem dL_was_104 : decode cL_was 104 = .ok (.goto 9, 3) := by decide +kernel
theorem dL_was_107 : decode cL_was 107 = .ok (.iconst 0, 1) := by decide +kernel
theorem dL_was_108 : decode cL_was 108 = .ok (.goto 5, 3) := by decide +kernel
theorem dL_was_111 : decode cL_was 111 = .ok (.iload 8, 2) := by decide +kernel
theorem dL_was_113 : decode cL_was 113 = .ok (.istore 8, 2) := by decide +kernel
theorem dL_was_115 : decode cL_was 115 = .ok (.iinc 9 1, 3) := by decide +kernel
theorem dL_was_118 : decode cL_was 118 = .ok (.goto (-76), 3) := by decide +kernel
theorem dL_was_121 : decode cL_was 121 = .ok (.iload 8, 2) := by decide +kernel
theorem dL_was_123 : decode cL_was 123 = .ok (.ireturn, 1) := by decide +kernel
theorem dL_at_0 : decode cL_at 0 = .ok (.iconst (-1), 1) := by decide +kernel
theorem dL_at_1 : decode cL_at 1 = .ok (.istore 10, 2) := by decide +kernel
theorem dL_at_3 : decode cL_at 3 = .ok (.iconst (-1), 1) := by decide +kernel
theorem dL_at_4 : decode cL_at 4 = .ok (.istore 11, 2) := by decide +kernel
theorem dL_at_6 : decode cL_at 6 = .ok (.iconst 0, 1) := by decide +kernel
theorem dL_at_7 : decode cL_at 7 = .ok (.istore 12, 2) := by decide +kernel
theorem dL_at_9 : decode cL_at 9 = .ok (.iload 12, 2) := by decide +kernel
theorem dL_at_11 : decode cL_at 11 = .ok (.iload 9, 2) := by decide +kernel
theorem dL_at_13 : decode cL_at 13 = .ok (.if_icmp .gt 143, 3) := by decide +kernel
theorem dL_at_16 : decode cL_at 16 = .ok (.iload 10, 2) := by decide +kernel
theorem dL_at_18 : decode cL_at 18 = .ok (.bipush 99, 2) := by decide +kernel
theorem dL_at_20 : decode cL_at 20 = .ok (.if_icmp .ge 136, 3) := by decide +kernel
theorem dL_at_23 : decode cL_at 23 = .ok (.bipush 99, 2) := by decide +kernel
theorem dL_at_25 : decode cL_at 25 = .ok (.istore 13, 2) := by decide +kernel
theorem dL_at_27 : decode cL_at 27 = .ok (.bipush 99, 2) := by decide +kernel
theorem dL_at_29 : decode cL_at 29 = .ok (.istore 14, 2) := by decide +kernel
theorem dL_at_31 : decode cL_at 31 = .ok (.iconst 0, 1) := by decide +kernel
theorem dL_at_32 : decode cL_at 32 = .ok (.istore 15, 2) := by decide +kernel
theorem dL_at_34 : decode cL_at 34 = .ok (.iload 15, 2) := by decide +kernel
theorem dL_at_36 : decode cL_at 36 = .ok (.aload 5, 2) := by decide +kernel
theorem dL_at_38 : decode cL_at 38 = .ok (.iconst 2, 1) := by decide +kernel
theorem dL_at_39 : decode cL_at 39 = .ok (.iaload, 1) := by decide +kernel
theorem dL_at_40 : decode cL_at 40 = .ok (.if_icmp .ge 102, 3) := by decide +kernel
theorem dL_at_43 : decode cL_at 43 = .ok (.aload_n 0, 1) := by decide +kernel
theorem dL_at_44 : decode cL_at 44 = .ok (.iload 15, 2) := by decide +kernel
theorem dL_at_46 : decode cL_at 46 = .ok (.iconst 1, 1) := by decide +kernel
theorem dL_at_47 : decode cL_at 47 = .ok (.iload 6, 2) := by decide +kernel
theorem dL_at_49 : decode cL_at 49 = .ok (.invokestatic 21, 3) := by decide +kernel
theorem dL_at_52 : decode cL_at 52 = .ok (.ifCond .eq 33, 3) := by decide +kernel
theorem dL_at_55 : decode cL_at 55 = .ok (.aload_n 0, 1) := by decide +kernel
theorem dL_at_56 : decode cL_at 56 = .ok (.aload_n 1, 1) := by decide +kernel
theorem dL_at_57 : decode cL_at 57 = .ok (.aload_n 2, 1) := by decide +kernel
theorem dL_at_58 : decode cL_at 58 = .ok (.aload 4, 2) := by decide +kernel
theorem dL_at_60 : decode cL_at 60 = .ok (.aload 5, 2) := by decide +kernel
theorem dL_at_62 : decode cL_at 62 = .ok (.iload 15, 2) := by decide +kernel
theorem dL_at_64 : decode cL_at 64 = .ok (.lload 7, 2) := by decide +kernel
theorem dL_at_66 : decode cL_at 66 = .ok (.invokestatic 25, 3) := by decide +kernel
theorem dL_at_69 : decode cL_at 69 = .ok (.ifCond .eq 16, 3) := by decide +kernel
theorem dL_at_72 : decode cL_at 72 = .ok (.aload_n 3, 1) := by decide +kernel
theorem dL_at_73 : decode cL_at 73 = .ok (.iload 15, 2) := by decide +kernel
theorem dL_at_75 : decode cL_at 75 = .ok (.iaload, 1) := by decide +kernel
theorem dL_at_76 : decode cL_at 76 = .ok (.iload 11, 2) := by decide +kernel
theorem dL_at_78 : decode cL_at 78 = .ok (.if_icmp .le 7, 3) := by decide +kernel
theorem dL_at_81 : decode cL_at 81 = .ok (.iconst 1, 1) := by decide +kernel
theorem dL_at_82 : decode cL_at 82 = .ok (.goto 4, 3) := by decide +kernel
theorem dL_at_85 : decode cL_at 85 = .ok (.iconst 0, 1) := by decide +kernel
theorem dL_at_86 : decode cL_at 86 = .ok (.istore 16, 2) := by decide +kernel
theorem dL_at_88 : decode cL_at 88 = .ok (.iload 16, 2) := by decide +kernel
theorem dL_at_90 : decode cL_at 90 = .ok (.ifCond .eq 17, 3) := by decide +kernel
theorem dL_at_93 : decode cL_at 93 = .ok (.aload_n 3, 1) := by decide +kernel
theorem dL_at_94 : decode cL_at 94 = .ok (.iload 15, 2) := by decide +kernel
theorem dL_at_96 : decode cL_at 96 = .ok (.iaload, 1) := by decide +kernel
theorem dL_at_97 : decode cL_at 97 = .ok (.iload 13, 2) := by decide +kernel
theorem dL_at_99 : decode cL_at 99 = .ok (.if_icmp .ge 8, 3) := by decide +kernel
theorem dL_at_102 : decode cL_at 102 = .ok (.iload 15, 2) := by decide +kernel
theorem dL_at_104 : decode cL_at 104 = .ok (.goto 5, 3) := by decide +kernel
theorem dL_at_107 : decode cL_at 107 = .ok (.iload 14, 2) := by decide +kernel
theorem dL_at_109 : decode cL_at 109 = .ok (.istore 14, 2) := by decide +kernel
theorem dL_at_111 : decode cL_at 111 = .ok (.iload 16, 2) := by decide +kernel
theorem dL_at_113 : decode cL_at 113 = .ok (.ifCond .eq 19, 3) := by decide +kernel
theorem dL_at_116 : decode cL_at 116 = .ok (.aload_n 3, 1) := by decide +kernel
theorem dL_at_117 : decode cL_at 117 = .ok (.iload 15, 2) := by decide +kernel
theorem dL_at_119 : decode cL_at 119 = .ok (.iaload, 1) := by decide +kernel
theorem dL_at_120 : decode cL_at 120 = .ok (.iload 13, 2) := by decide +kernel
theorem dL_at_122 : decode cL_at 122 = .ok (.if_icmp .ge 10, 3) := by decide +kernel
theorem dL_at_125 : decode cL_at 125 = .ok (.aload_n 3, 1) := by decide +kernel
theorem dL_at_126 : decode cL_at 126 = .ok (.iload 15, 2) := by decide +kernel
theorem dL_at_128 : decode cL_at 128 = .ok (.iaload, 1) := by decide +kernel
theorem dL_at_129 : decode cL_at 129 = .ok (.goto 5, 3) := by decide +kernel
theorem dL_at_132 : decode cL_at 132 = .ok (.iload 13, 2) := by decide +kernel
theorem dL_at_134 : decode cL_at 134 = .ok (.istore 13, 2) := by decide +kernel
theorem dL_at_136 : decode cL_at 136 = .ok (.iinc 15 1, 3) := by decide +kernel
theorem dL_at_139 : decode cL_at 139 = .ok (.goto (-105), 3) := by decide +kernel
theorem dL_at_142 : decode cL_at 142 = .ok (.iload 14, 2) := by decide +kernel
theorem dL_at_144 : decode cL_at 144 = .ok (.istore 10, 2) := by decide +kernel
theorem dL_at_146 : decode cL_at 146 = .ok (.iload 13, 2) := by decide +kernel
theorem dL_at_148 : decode cL_at 148 = .ok (.istore 11, 2) := by decide +kernel
theorem dL_at_150 : decode cL_at 150 = .ok (.iinc 12 1, 3) := by decide +kernel
theorem dL_at_153 : decode cL_at 153 = .ok (.goto (-144), 3) := by decide +kernel
theorem dL_at_156 : decode cL_at 156 = .ok (.iload 10, 2) := by decide +kernel
theorem dL_at_158 : decode cL_at 158 = .ok (.bipush 98, 2) := by decide +kernel
theorem dL_at_160 : decode cL_at 160 = .ok (.if_icmp .le 7, 3) := by decide +kernel
theorem dL_at_163 : decode cL_at 163 = .ok (.iconst (-1), 1) := by decide +kernel
theorem dL_at_164 : decode cL_at 164 = .ok (.goto 5, 3) := by decide +kernel
theorem dL_at_167 : decode cL_at 167 = .ok (.iload 10, 2) := by decide +kernel
theorem dL_at_169 : decode cL_at 169 = .ok (.ireturn, 1) := by decide +kernel
theorem dL_isLien_0 : decode cL_isLien 0 = .ok (.aload_n 0, 1) := by decide +kernel
theorem dL_isLien_1 : decode cL_isLien 1 = .ok (.iload_n 3, 1) := by decide +kernel
theorem dL_isLien_2 : decode cL_isLien 2 = .ok (.iconst 3, 1) := by decide +kernel
theorem dL_isLien_3 : decode cL_isLien 3 = .ok (.iload 4, 2) := by decide +kernel
theorem dL_isLien_5 : decode cL_isLien 5 = .ok (.invokestatic 21, 3) := by decide +kernel
theorem dL_isLien_8 : decode cL_isLien 8 = .ok (.ifCond .eq 28, 3) := by decide +kernel
theorem dL_isLien_11 : decode cL_isLien 11 = .ok (.aload_n 2, 1) := by decide +kernel
theorem dL_isLien_12 : decode cL_isLien 12 = .ok (.iload_n 3, 1) := by decide +kernel
theorem dL_isLien_13 : decode cL_isLien 13 = .ok (.laload, 1) := by decide +kernel
theorem dL_isLien_14 : decode cL_isLien 14 = .ok (.lconst 0, 1) := by decide +kernel
theorem dL_isLien_15 : decode cL_isLien 15 = .ok (.lcmp, 1) := by decide +kernel
theorem dL_isLien_16 : decode cL_isLien 16 = .ok (.ifCond .ge 20, 3) := by decide +kernel
theorem dL_isLien_19 : decode cL_isLien 19 = .ok (.aload_n 1, 1) := by decide +kernel
theorem dL_isLien_20 : decode cL_isLien 20 = .ok (.iload_n 3, 1) := by decide +kernel
theorem dL_isLien_21 : decode cL_isLien 21 = .ok (.laload, 1) := by decide +kernel
theorem dL_isLien_22 : decode cL_isLien 22 = .ok (.ldc2_w 29, 3) := by decide +kernel
theorem dL_isLien_25 : decode cL_isLien 25 = .ok (.ladd, 1) := by decide +kernel
theorem dL_isLien_26 : decode cL_isLien 26 = .ok (.lload 5, 2) := by decide +kernel
theorem dL_isLien_28 : decode cL_isLien 28 = .ok (.lcmp, 1) := by decide +kernel
theorem dL_isLien_29 : decode cL_isLien 29 = .ok (.ifCond .lt 7, 3) := by decide +kernel
theorem dL_isLien_32 : decode cL_isLien 32 = .ok (.iconst 1, 1) := by decide +kernel
theorem dL_isLien_33 : decode cL_isLien 33 = .ok (.goto 4, 3) := by decide +kernel
theorem dL_isLien_36 : decode cL_isLien 36 = .ok (.iconst 0, 1) := by decide +kernel
theorem dL_isLien_37 : decode cL_isLien 37 = .ok (.ireturn, 1) := by decide +kernel
theorem dL_liens_0 : decode cL_liens 0 = .ok (.iconst 0, 1) := by decide +kernel
theorem dL_liens_1 : decode cL_liens 1 = .ok (.istore 7, 2) := by decide +kernel
theorem dL_liens_3 : decode cL_liens 3 = .ok (.iconst 0, 1) := by decide +kernel
theorem dL_liens_4 : decode cL_liens 4 = .ok (.istore 8, 2) := by decide +kernel
theorem dL_liens_6 : decode cL_liens 6 = .ok (.iload 8, 2) := by decide +kernel
theorem dL_liens_8 : decode cL_liens 8 = .ok (.aload_n 3, 1) := by decide +kernel
theorem dL_liens_9 : decode cL_liens 9 = .ok (.iconst 2, 1) := by decide +kernel
theorem dL_liens_10 : decode cL_liens 10 = .ok (.iaload, 1) := by decide +kernel
theorem dL_liens_11 : decode cL_liens 11 = .ok (.if_icmp .ge 34, 3) := by decide +kernel
theorem dL_liens_14 : decode cL_liens 14 = .ok (.iload 7, 2) := by decide +kernel
theorem dL_liens_16 : decode cL_liens 16 = .ok (.aload_n 0, 1) := by decide +kernel
theorem dL_liens_17 : decode cL_liens 17 = .ok (.aload_n 1, 1) := by decide +kernel
theorem dL_liens_18 : decode cL_liens 18 = .ok (.aload_n 2, 1) := by decide +kernel
theorem dL_liens_19 : decode cL_liens 19 = .ok (.iload 8, 2) := by decide +kernel
theorem dL_liens_21 : decode cL_liens 21 = .ok (.iload 4, 2) := by decide +kernel
theorem dL_liens_23 : decode cL_liens 23 = .ok (.lload 5, 2) := by decide +kernel
theorem dL_liens_25 : decode cL_liens 25 = .ok (.invokestatic 31, 3) := by decide +kernel
theorem dL_liens_28 : decode cL_liens 28 = .ok (.ifCond .eq 7, 3) := by decide +kernel
theorem dL_liens_31 : decode cL_liens 31 = .ok (.iconst 1, 1) := by decide +kernel
theorem dL_liens_32 : decode cL_liens 32 = .ok (.goto 4, 3) := by decide +kernel
theorem dL_liens_35 : decode cL_liens 35 = .ok (.iconst 0, 1) := by decide +kernel
theorem dL_liens_36 : decode cL_liens 36 = .ok (.iadd, 1) := by decide +kernel
theorem dL_liens_37 : decode cL_liens 37 = .ok (.istore 7, 2) := by decide +kernel
theorem dL_liens_39 : decode cL_liens 39 = .ok (.iinc 8 1, 3) := by decide +kernel
theorem dL_liens_42 : decode cL_liens 42 = .ok (.goto (-36), 3) := by decide +kernel
theorem dL_liens_45 : decode cL_liens 45 = .ok (.iload 7, 2) := by decide +kernel
theorem dL_liens_47 : decode cL_liens 47 = .ok (.ireturn, 1) := by decide +kernel
theorem dL_some_0 : decode cL_some 0 = .ok (.lload_n 0, 1) := by decide +kernel
theorem dL_some_1 : decode cL_some 1 = .ok (.iload_n 2, 1) := by decide +kernel
theorem dL_some_2 : decode cL_some 2 = .ok (.i2l, 1) := by decide +kernel
theorem dL_some_3 : decode cL_some 3 = .ok (.lcmp, 1) := by decide +kernel
theorem dL_some_4 : decode cL_some 4 = .ok (.ifCond .ge 7, 3) := by decide +kernel
theorem dL_some_7 : decode cL_some 7 = .ok (.lload_n 0, 1) := by decide +kernel
theorem dL_some_8 : decode cL_some 8 = .ok (.goto 5, 3) := by decide +kernel
theorem dL_some_11 : decode cL_some 11 = .ok (.iload_n 2, 1) := by decide +kernel
theorem dL_some_12 : decode cL_some 12 = .ok (.i2l, 1) := by decide +kernel
theorem dL_some_13 : decode cL_some 13 = .ok (.lreturn, 1) := by decide +kernel
theorem dL_sold_0 : decode cL_sold 0 = .ok (.iload 11, 2) := by decide +kernel
theorem dL_sold_2 : decode cL_sold 2 = .ok (.i2l, 1) := by decide +kernel
theorem dL_sold_3 : decode cL_sold 3 = .ok (.lstore 14, 2) := by decide +kernel
theorem dL_sold_5 : decode cL_sold 5 = .ok (.iconst 0, 1) := by decide +kernel
theorem dL_sold_6 : decode cL_sold 6 = .ok (.istore 16, 2) := by decide +kernel
theorem dL_sold_8 : decode cL_sold 8 = .ok (.iload 16, 2) := by decide +kernel
theorem dL_sold_10 : decode cL_sold 10 = .ok (.iconst 4, 1) := by decide +kernel
theorem dL_sold_11 : decode cL_sold 11 = .ok (.if_icmp .ge 96, 3) := by decide +kernel
theorem dL_sold_14 : decode cL_sold 14 = .ok (.aload 8, 2) := by decide +kernel
theorem dL_sold_16 : decode cL_sold 16 = .ok (.iconst 2, 1) := by decide +kernel
theorem dL_sold_17 : decode cL_sold 17 = .ok (.iaload, 1) := by decide +kernel
theorem dL_sold_18 : decode cL_sold 18 = .ok (.iconst 1, 1) := by decide +kernel
theorem dL_sold_19 : decode cL_sold 19 = .ok (.isub, 1) := by decide +kernel
theorem dL_sold_20 : decode cL_sold 20 = .ok (.istore 17, 2) := by decide +kernel
theorem dL_sold_22 : decode cL_sold 22 = .ok (.iload 17, 2) := by decide +kernel
theorem dL_sold_24 : decode cL_sold 24 = .ok (.ifCond .lt 77, 3) := by decide +kernel
theorem dL_sold_27 : decode cL_sold 27 = .ok (.aload_n 1, 1) := by decide +kernel
theorem dL_sold_28 : decode cL_sold 28 = .ok (.aload_n 3, 1) := by decide +kernel
theorem dL_sold_29 : decode cL_sold 29 = .ok (.aload 4, 2) := by decide +kernel
theorem dL_sold_31 : decode cL_sold 31 = .ok (.iload 17, 2) := by decide +kernel
theorem dL_sold_33 : decode cL_sold 33 = .ok (.iload 9, 2) := by decide +kernel
theorem dL_sold_35 : decode cL_sold 35 = .ok (.lload 12, 2) := by decide +kernel
theorem dL_sold_37 : decode cL_sold 37 = .ok (.invokestatic 31, 3) := by decide +kernel
theorem dL_sold_40 : decode cL_sold 40 = .ok (.ifCond .eq 55, 3) := by decide +kernel
theorem dL_sold_43 : decode cL_sold 43 = .ok (.aload_n 1, 1) := by decide +kernel
theorem dL_sold_44 : decode cL_sold 44 = .ok (.iload 17, 2) := by decide +kernel
theorem dL_sold_46 : decode cL_sold 46 = .ok (.iaload, 1) := by decide +kernel
theorem dL_sold_47 : decode cL_sold 47 = .ok (.sipush 128, 3) := by decide +kernel
theorem dL_sold_50 : decode cL_sold 50 = .ok (.idiv, 1) := by decide +kernel
theorem dL_sold_51 : decode cL_sold 51 = .ok (.iload 16, 2) := by decide +kernel
theorem dL_sold_53 : decode cL_sold 53 = .ok (.if_icmp .ne 42, 3) := by decide +kernel
theorem dL_sold_56 : decode cL_sold 56 = .ok (.aload 7, 2) := by decide +kernel
theorem dL_sold_58 : decode cL_sold 58 = .ok (.aload_n 1, 1) := by decide +kernel
theorem dL_sold_59 : decode cL_sold 59 = .ok (.iload 17, 2) := by decide +kernel
theorem dL_sold_61 : decode cL_sold 61 = .ok (.iaload, 1) := by decide +kernel
theorem dL_sold_62 : decode cL_sold 62 = .ok (.bipush 16, 2) := by decide +kernel
theorem dL_sold_64 : decode cL_sold 64 = .ok (.idiv, 1) := by decide +kernel
theorem dL_sold_65 : decode cL_sold 65 = .ok (.bipush 8, 2) := by decide +kernel
theorem dL_sold_67 : decode cL_sold 67 = .ok (.irem, 1) := by decide +kernel
theorem dL_sold_68 : decode cL_sold 68 = .ok (.dup2, 1) := by decide +kernel
theorem dL_sold_69 : decode cL_sold 69 = .ok (.laload, 1) := by decide +kernel
theorem dL_sold_70 : decode cL_sold 70 = .ok (.lload 14, 2) := by decide +kernel
theorem dL_sold_72 : decode cL_sold 72 = .ok (.aload_n 2, 1) := by decide +kernel
theorem dL_sold_73 : decode cL_sold 73 = .ok (.iload 17, 2) := by decide +kernel
theorem dL_sold_75 : decode cL_sold 75 = .ok (.iaload, 1) := by decide +kernel
theorem dL_sold_76 : decode cL_sold 76 = .ok (.invokestatic 35, 3) := by decide +kernel
theorem dL_sold_79 : decode cL_sold 79 = .ok (.ladd, 1) := by decide +kernel
theorem dL_sold_80 : decode cL_sold 80 = .ok (.lastore, 1) := by decide +kernel
theorem dL_sold_81 : decode cL_sold 81 = .ok (.lload 14, 2) := by decide +kernel
theorem dL_sold_83 : decode cL_sold 83 = .ok (.lload 14, 2) := by decide +kernel
theorem dL_sold_85 : decode cL_sold 85 = .ok (.aload_n 2, 1) := by decide +kernel
theorem dL_sold_86 : decode cL_sold 86 = .ok (.iload 17, 2) := by decide +kernel
theorem dL_sold_88 : decode cL_sold 88 = .ok (.iaload, 1) := by decide +kernel
theorem dL_sold_89 : decode cL_sold 89 = .ok (.invokestatic 35, 3) := by decide +kernel
theorem dL_sold_92 : decode cL_sold 92 = .ok (.lsub, 1) := by decide +kernel
theorem dL_sold_93 : decode cL_sold 93 = .ok (.lstore 14, 2) := by decide +kernel
theorem dL_sold_95 : decode cL_sold 95 = .ok (.iinc 17 (-1), 3) := by decide +kernel
theorem dL_sold_98 : decode cL_sold 98 = .ok (.goto (-76), 3) := by decide +kernel
theorem dL_sold_101 : decode cL_sold 101 = .ok (.iinc 16 1, 3) := by decide +kernel
theorem dL_sold_104 : decode cL_sold 104 = .ok (.goto (-96), 3) := by decide +kernel
theorem dL_sold_107 : decode cL_sold 107 = .ok (.iconst 0, 1) := by decide +kernel
theorem dL_sold_108 : decode cL_sold 108 = .ok (.istore 16, 2) := by decide +kernel
theorem dL_sold_110 : decode cL_sold 110 = .ok (.aload_n 1, 1) := by decide +kernel
theorem dL_sold_111 : decode cL_sold 111 = .ok (.aload_n 3, 1) := by decide +kernel
theorem dL_sold_112 : decode cL_sold 112 = .ok (.aload 4, 2) := by decide +kernel
theorem dL_sold_114 : decode cL_sold 114 = .ok (.aload 5, 2) := by decide +kernel
theorem dL_sold_116 : decode cL_sold 116 = .ok (.aload 6, 2) := by decide +kernel
theorem dL_sold_118 : decode cL_sold 118 = .ok (.aload 8, 2) := by decide +kernel
theorem dL_sold_120 : decode cL_sold 120 = .ok (.iload 9, 2) := by decide +kernel
theorem dL_sold_122 : decode cL_sold 122 = .ok (.lload 12, 2) := by decide +kernel
theorem dL_sold_124 : decode cL_sold 124 = .ok (.iconst 0, 1) := by decide +kernel
theorem dL_sold_125 : decode cL_sold 125 = .ok (.invokestatic 39, 3) := by decide +kernel
theorem dL_sold_128 : decode cL_sold 128 = .ok (.istore 17, 2) := by decide +kernel
theorem dL_sold_130 : decode cL_sold 130 = .ok (.iload 17, 2) := by decide +kernel
theorem dL_sold_132 : decode cL_sold 132 = .ok (.ifCond .lt 69, 3) := by decide +kernel
theorem dL_sold_135 : decode cL_sold 135 = .ok (.aload 7, 2) := by decide +kernel
theorem dL_sold_137 : decode cL_sold 137 = .ok (.aload_n 1, 1) := by decide +kernel
theorem dL_sold_138 : decode cL_sold 138 = .ok (.iload 17, 2) := by decide +kernel
theorem dL_sold_140 : decode cL_sold 140 = .ok (.iaload, 1) := by decide +kernel
theorem dL_sold_141 : decode cL_sold 141 = .ok (.bipush 16, 2) := by decide +kernel
theorem dL_sold_143 : decode cL_sold 143 = .ok (.idiv, 1) := by decide +kernel
theorem dL_sold_144 : decode cL_sold 144 = .ok (.bipush 8, 2) := by decide +kernel
theorem dL_sold_146 : decode cL_sold 146 = .ok (.irem, 1) := by decide +kernel
theorem dL_sold_147 : decode cL_sold 147 = .ok (.dup2, 1) := by decide +kernel
theorem dL_sold_148 : decode cL_sold 148 = .ok (.laload, 1) := by decide +kernel
theorem dL_sold_149 : decode cL_sold 149 = .ok (.lload 14, 2) := by decide +kernel
theorem dL_sold_151 : decode cL_sold 151 = .ok (.aload_n 2, 1) := by decide +kernel
theorem dL_sold_152 : decode cL_sold 152 = .ok (.iload 17, 2) := by decide +kernel
theorem dL_sold_154 : decode cL_sold 154 = .ok (.iaload, 1) := by decide +kernel
theorem dL_sold_155 : decode cL_sold 155 = .ok (.invokestatic 35, 3) := by decide +kernel
theorem dL_sold_158 : decode cL_sold 158 = .ok (.ladd, 1) := by decide +kernel
theorem dL_sold_159 : decode cL_sold 159 = .ok (.lastore, 1) := by decide +kernel
theorem dL_sold_160 : decode cL_sold 160 = .ok (.lload 14, 2) := by decide +kernel
theorem dL_sold_162 : decode cL_sold 162 = .ok (.lload 14, 2) := by decide +kernel
theorem dL_sold_164 : decode cL_sold 164 = .ok (.aload_n 2, 1) := by decide +kernel
theorem dL_sold_165 : decode cL_sold 165 = .ok (.iload 17, 2) := by decide +kernel
theorem dL_sold_167 : decode cL_sold 167 = .ok (.iaload, 1) := by decide +kernel
theorem dL_sold_168 : decode cL_sold 168 = .ok (.invokestatic 35, 3) := by decide +kernel
theorem dL_sold_171 : decode cL_sold 171 = .ok (.lsub, 1) := by decide +kernel
theorem dL_sold_172 : decode cL_sold 172 = .ok (.lstore 14, 2) := by decide +kernel
theorem dL_sold_174 : decode cL_sold 174 = .ok (.iinc 16 1, 3) := by decide +kernel
theorem dL_sold_177 : decode cL_sold 177 = .ok (.aload_n 1, 1) := by decide +kernel
theorem dL_sold_178 : decode cL_sold 178 = .ok (.aload_n 3, 1) := by decide +kernel
theorem dL_sold_179 : decode cL_sold 179 = .ok (.aload 4, 2) := by decide +kernel
theorem dL_sold_181 : decode cL_sold 181 = .ok (.aload 5, 2) := by decide +kernel
theorem dL_sold_183 : decode cL_sold 183 = .ok (.aload 6, 2) := by decide +kernel
theorem dL_sold_185 : decode cL_sold 185 = .ok (.aload 8, 2) := by decide +kernel
theorem dL_sold_187 : decode cL_sold 187 = .ok (.iload 9, 2) := by decide +kernel
theorem dL_sold_189 : decode cL_sold 189 = .ok (.lload 12, 2) := by decide +kernel
theorem dL_sold_191 : decode cL_sold 191 = .ok (.iload 16, 2) := by decide +kernel
theorem dL_sold_193 : decode cL_sold 193 = .ok (.invokestatic 39, 3) := by decide +kernel
theorem dL_sold_196 : decode cL_sold 196 = .ok (.istore 17, 2) := by decide +kernel
theorem dL_sold_198 : decode cL_sold 198 = .ok (.goto (-68), 3) := by decide +kernel
theorem dL_sold_201 : decode cL_sold 201 = .ok (.lload 14, 2) := by decide +kernel
theorem dL_sold_203 : decode cL_sold 203 = .ok (.lstore 17, 2) := by decide +kernel
theorem dL_sold_205 : decode cL_sold 205 = .ok (.iconst 0, 1) := by decide +kernel
theorem dL_sold_206 : decode cL_sold 206 = .ok (.istore 19, 2) := by decide +kernel
theorem dL_sold_208 : decode cL_sold 208 = .ok (.iload 19, 2) := by decide +kernel
theorem dL_sold_210 : decode cL_sold 210 = .ok (.aload 8, 2) := by decide +kernel
theorem dL_sold_212 : decode cL_sold 212 = .ok (.iconst 0, 1) := by decide +kernel
theorem dL_sold_213 : decode cL_sold 213 = .ok (.iaload, 1) := by decide +kernel
theorem dL_sold_214 : decode cL_sold 214 = .ok (.if_icmp .ge 79, 3) := by decide +kernel
theorem dL_sold_217 : decode cL_sold 217 = .ok (.aload 7, 2) := by decide +kernel
theorem dL_sold_219 : decode cL_sold 219 = .ok (.iload 19, 2) := by decide +kernel
theorem dL_sold_221 : decode cL_sold 221 = .ok (.dup2, 1) := by decide +kernel
theorem dL_sold_222 : decode cL_sold 222 = .ok (.laload, 1) := by decide +kernel
theorem dL_sold_223 : decode cL_sold 223 = .ok (.lload 17, 2) := by decide +kernel
theorem dL_sold_225 : decode cL_sold 225 = .ok (.aload_n 0, 1) := by decide +kernel
theorem dL_sold_226 : decode cL_sold 226 = .ok (.bipush 6, 2) := by decide +kernel
theorem dL_sold_228 : decode cL_sold 228 = .ok (.iload 9, 2) := by decide +kernel
theorem dL_sold_230 : decode cL_sold 230 = .ok (.imul, 1) := by decide +kernel
theorem dL_sold_231 : decode cL_sold 231 = .ok (.iload 19, 2) := by decide +kernel
theorem dL_sold_233 : decode cL_sold 233 = .ok (.iadd, 1) := by decide +kernel
theorem dL_sold_234 : decode cL_sold 234 = .ok (.iaload, 1) := by decide +kernel
theorem dL_sold_235 : decode cL_sold 235 = .ok (.i2l, 1) := by decide +kernel
theorem dL_sold_236 : decode cL_sold 236 = .ok (.lmul, 1) := by decide +kernel
theorem dL_sold_237 : decode cL_sold 237 = .ok (.bipush 6, 2) := by decide +kernel
theorem dL_sold_239 : decode cL_sold 239 = .ok (.lshr, 1) := by decide +kernel
theorem dL_sold_240 : decode cL_sold 240 = .ok (.ladd, 1) := by decide +kernel
theorem dL_sold_241 : decode cL_sold 241 = .ok (.lastore, 1) := by decide +kernel
theorem dL_sold_242 : decode cL_sold 242 = .ok (.lload 14, 2) := by decide +kernel
theorem dL_sold_244 : decode cL_sold 244 = .ok (.lload 17, 2) := by decide +kernel
theorem dL_sold_246 : decode cL_sold 246 = .ok (.aload_n 0, 1) := by decide +kernel
theorem dL_sold_247 : decode cL_sold 247 = .ok (.bipush 6, 2) := by decide +kernel
theorem dL_sold_249 : decode cL_sold 249 = .ok (.iload 9, 2) := by decide +kernel
theorem dL_sold_251 : decode cL_sold 251 = .ok (.imul, 1) := by decide +kernel
theorem dL_sold_252 : decode cL_sold 252 = .ok (.iload 19, 2) := by decide +kernel
theorem dL_sold_254 : decode cL_sold 254 = .ok (.iadd, 1) := by decide +kernel
theorem dL_sold_255 : decode cL_sold 255 = .ok (.iaload, 1) := by decide +kernel
theorem dL_sold_256 : decode cL_sold 256 = .ok (.i2l, 1) := by decide +kernel
theorem dL_sold_257 : decode cL_sold 257 = .ok (.lmul, 1) := by decide +kernel
theorem dL_sold_258 : decode cL_sold 258 = .ok (.bipush 6, 2) := by decide +kernel
theorem dL_sold_260 : decode cL_sold 260 = .ok (.lshr, 1) := by decide +kernel
theorem dL_sold_261 : decode cL_sold 261 = .ok (.lsub, 1) := by decide +kernel
theorem dL_sold_262 : decode cL_sold 262 = .ok (.lstore 14, 2) := by decide +kernel
theorem dL_sold_264 : decode cL_sold 264 = .ok (.aload_n 0, 1) := by decide +kernel
theorem dL_sold_265 : decode cL_sold 265 = .ok (.bipush 6, 2) := by decide +kernel
theorem dL_sold_267 : decode cL_sold 267 = .ok (.iload 9, 2) := by decide +kernel
theorem dL_sold_269 : decode cL_sold 269 = .ok (.imul, 1) := by decide +kernel
theorem dL_sold_270 : decode cL_sold 270 = .ok (.iload 19, 2) := by decide +kernel
theorem dL_sold_272 : decode cL_sold 272 = .ok (.iadd, 1) := by decide +kernel
theorem dL_sold_273 : decode cL_sold 273 = .ok (.iload 19, 2) := by decide +kernel
theorem dL_sold_275 : decode cL_sold 275 = .ok (.iload 10, 2) := by decide +kernel
theorem dL_sold_277 : decode cL_sold 277 = .ok (.if_icmp .ne 8, 3) := by decide +kernel
theorem dL_sold_280 : decode cL_sold 280 = .ok (.bipush 64, 2) := by decide +kernel
theorem dL_sold_282 : decode cL_sold 282 = .ok (.goto 4, 3) := by decide +kernel
theorem dL_sold_285 : decode cL_sold 285 = .ok (.iconst 0, 1) := by decide +kernel
theorem dL_sold_286 : decode cL_sold 286 = .ok (.iastore, 1) := by decide +kernel
theorem dL_sold_287 : decode cL_sold 287 = .ok (.iinc 19 1, 3) := by decide +kernel
theorem dL_sold_290 : decode cL_sold 290 = .ok (.goto (-82), 3) := by decide +kernel
theorem dL_sold_293 : decode cL_sold 293 = .ok (.iconst 0, 1) := by decide +kernel
theorem dL_sold_294 : decode cL_sold 294 = .ok (.istore 19, 2) := by decide +kernel
theorem dL_sold_296 : decode cL_sold 296 = .ok (.iload 19, 2) := by decide +kernel
theorem dL_sold_298 : decode cL_sold 298 = .ok (.aload 8, 2) := by decide +kernel
theorem dL_sold_300 : decode cL_sold 300 = .ok (.iconst 2, 1) := by decide +kernel
theorem dL_sold_301 : decode cL_sold 301 = .ok (.iaload, 1) := by decide +kernel
theorem dL_sold_302 : decode cL_sold 302 = .ok (.if_icmp .ge 47, 3) := by decide +kernel
theorem dL_sold_305 : decode cL_sold 305 = .ok (.aload 4, 2) := by decide +kernel
theorem dL_sold_307 : decode cL_sold 307 = .ok (.iload 19, 2) := by decide +kernel
theorem dL_sold_309 : decode cL_sold 309 = .ok (.aload_n 1, 1) := by decide +kernel
theorem dL_sold_310 : decode cL_sold 310 = .ok (.iload 19, 2) := by decide +kernel
theorem dL_sold_312 : decode cL_sold 312 = .ok (.iaload, 1) := by decide +kernel
theorem dL_sold_313 : decode cL_sold 313 = .ok (.iconst 4, 1) := by decide +kernel
theorem dL_sold_314 : decode cL_sold 314 = .ok (.idiv, 1) := by decide +kernel
theorem dL_sold_315 : decode cL_sold 315 = .ok (.iconst 4, 1) := by decide +kernel
theorem dL_sold_316 : decode cL_sold 316 = .ok (.irem, 1) := by decide +kernel
theorem dL_sold_317 : decode cL_sold 317 = .ok (.iload 9, 2) := by decide +kernel
theorem dL_sold_319 : decode cL_sold 319 = .ok (.if_icmp .ne 18, 3) := by decide +kernel
theorem dL_sold_322 : decode cL_sold 322 = .ok (.aload 4, 2) := by decide +kernel
theorem dL_sold_324 : decode cL_sold 324 = .ok (.iload 19, 2) := by decide +kernel
theorem dL_sold_326 : decode cL_sold 326 = .ok (.laload, 1) := by decide +kernel
theorem dL_sold_327 : decode cL_sold 327 = .ok (.lconst 0, 1) := by decide +kernel
theorem dL_sold_328 : decode cL_sold 328 = .ok (.lcmp, 1) := by decide +kernel
theorem dL_sold_329 : decode cL_sold 329 = .ok (.ifCond .ge 8, 3) := by decide +kernel
theorem dL_sold_332 : decode cL_sold 332 = .ok (.lload 12, 2) := by decide +kernel
theorem dL_sold_334 : decode cL_sold 334 = .ok (.goto 8, 3) := by decide +kernel
theorem dL_sold_337 : decode cL_sold 337 = .ok (.aload 4, 2) := by decide +kernel
theorem dL_sold_339 : decode cL_sold 339 = .ok (.iload 19, 2) := by decide +kernel
theorem dL_sold_341 : decode cL_sold 341 = .ok (.laload, 1) := by decide +kernel
theorem dL_sold_342 : decode cL_sold 342 = .ok (.lastore, 1) := by decide +kernel
theorem dL_sold_343 : decode cL_sold 343 = .ok (.iinc 19 1, 3) := by decide +kernel
theorem dL_sold_346 : decode cL_sold 346 = .ok (.goto (-50), 3) := by decide +kernel
theorem dL_sold_349 : decode cL_sold 349 = .ok (.lload 14, 2) := by decide +kernel
theorem dL_sold_351 : decode cL_sold 351 = .ok (.lreturn, 1) := by decide +kernel
theorem dL_does_0 : decode cL_does 0 = .ok (.iload_n 1, 1) := by decide +kernel
theorem dL_does_1 : decode cL_does 1 = .ok (.ifCond .ne 12, 3) := by decide +kernel
theorem dL_does_4 : decode cL_does 4 = .ok (.aload_n 0, 1) := by decide +kernel
theorem dL_does_5 : decode cL_does 5 = .ok (.iload_n 2, 1) := by decide +kernel
theorem dL_does_6 : decode cL_does 6 = .ok (.invokevirtual 43, 3) := by decide +kernel
theorem dL_does_9 : decode cL_does 9 = .ok (.i2l, 1) := by decide +kernel
theorem dL_does_10 : decode cL_does 10 = .ok (.goto 84, 3) := by decide +kernel
theorem dL_does_13 : decode cL_does 13 = .ok (.iload_n 1, 1) := by decide +kernel
theorem dL_does_14 : decode cL_does 14 = .ok (.iconst 1, 1) := by decide +kernel
theorem dL_does_15 : decode cL_does 15 = .ok (.if_icmp .ne 17, 3) := by decide +kernel
theorem dL_does_18 : decode cL_does 18 = .ok (.aload_n 0, 1) := by decide +kernel
theorem dL_does_19 : decode cL_does 19 = .ok (.iload_n 2, 1) := by decide +kernel
theorem dL_does_20 : decode cL_does 20 = .ok (.iload_n 3, 1) := by decide +kernel
theorem dL_does_21 : decode cL_does 21 = .ok (.iload 4, 2) := by decide +kernel
theorem dL_does_23 : decode cL_does 23 = .ok (.iload 5, 2) := by decide +kernel
theorem dL_does_25 : decode cL_does 25 = .ok (.invokevirtual 49, 3) := by decide +kernel
theorem dL_does_28 : decode cL_does 28 = .ok (.i2l, 1) := by decide +kernel
theorem dL_does_29 : decode cL_does 29 = .ok (.goto 65, 3) := by decide +kernel
theorem dL_does_32 : decode cL_does 32 = .ok (.iload_n 1, 1) := by decide +kernel
theorem dL_does_33 : decode cL_does 33 = .ok (.iconst 2, 1) := by decide +kernel
theorem dL_does_34 : decode cL_does 34 = .ok (.if_icmp .ne 13, 3) := by decide +kernel
theorem dL_does_37 : decode cL_does 37 = .ok (.aload_n 0, 1) := by decide +kernel
theorem dL_does_38 : decode cL_does 38 = .ok (.iload_n 2, 1) := by decide +kernel
theorem dL_does_39 : decode cL_does 39 = .ok (.iload_n 3, 1) := by decide +kernel
theorem dL_does_40 : decode cL_does 40 = .ok (.invokevirtual 53, 3) := by decide +kernel
theorem dL_does_43 : decode cL_does 43 = .ok (.i2l, 1) := by decide +kernel
theorem dL_does_44 : decode cL_does 44 = .ok (.goto 50, 3) := by decide +kernel
theorem dL_does_47 : decode cL_does 47 = .ok (.iload_n 1, 1) := by decide +kernel
theorem dL_does_48 : decode cL_does 48 = .ok (.iconst 3, 1) := by decide +kernel
theorem dL_does_49 : decode cL_does 49 = .ok (.if_icmp .ne 15, 3) := by decide +kernel
theorem dL_does_52 : decode cL_does 52 = .ok (.aload_n 0, 1) := by decide +kernel
theorem dL_does_53 : decode cL_does 53 = .ok (.iload_n 2, 1) := by decide +kernel
theorem dL_does_54 : decode cL_does 54 = .ok (.iload_n 3, 1) := by decide +kernel
theorem dL_does_55 : decode cL_does 55 = .ok (.iload 4, 2) := by decide +kernel
theorem dL_does_57 : decode cL_does 57 = .ok (.invokevirtual 57, 3) := by decide +kernel
theorem dL_does_60 : decode cL_does 60 = .ok (.i2l, 1) := by decide +kernel
theorem dL_does_61 : decode cL_does 61 = .ok (.goto 33, 3) := by decide +kernel
theorem dL_does_64 : decode cL_does 64 = .ok (.iload_n 1, 1) := by decide +kernel
theorem dL_does_65 : decode cL_does 65 = .ok (.iconst 4, 1) := by decide +kernel
theorem dL_does_66 : decode cL_does 66 = .ok (.if_icmp .ne 21, 3) := by decide +kernel
theorem dL_does_69 : decode cL_does 69 = .ok (.aload_n 0, 1) := by decide +kernel
theorem dL_does_70 : decode cL_does 70 = .ok (.iload_n 2, 1) := by decide +kernel
theorem dL_does_71 : decode cL_does 71 = .ok (.iload_n 3, 1) := by decide +kernel
theorem dL_does_72 : decode cL_does 72 = .ok (.iconst 1, 1) := by decide +kernel
theorem dL_does_73 : decode cL_does 73 = .ok (.if_icmp .ne 7, 3) := by decide +kernel
theorem dL_does_76 : decode cL_does 76 = .ok (.iconst 1, 1) := by decide +kernel
theorem dL_does_77 : decode cL_does 77 = .ok (.goto 4, 3) := by decide +kernel
theorem dL_does_80 : decode cL_does 80 = .ok (.iconst 0, 1) := by decide +kernel
theorem dL_does_81 : decode cL_does 81 = .ok (.invokestatic 61, 3) := by decide +kernel
theorem dL_does_84 : decode cL_does 84 = .ok (.goto 10, 3) := by decide +kernel
theorem dL_does_87 : decode cL_does 87 = .ok (.aload_n 0, 1) := by decide +kernel
theorem dL_does_88 : decode cL_does 88 = .ok (.iload_n 2, 1) := by decide +kernel
theorem dL_does_89 : decode cL_does 89 = .ok (.i2c, 1) := by decide +kernel
theorem dL_does_90 : decode cL_does 90 = .ok (.invokevirtual 65, 3) := by decide +kernel
theorem dL_does_93 : decode cL_does 93 = .ok (.i2l, 1) := by decide +kernel
theorem dL_does_94 : decode cL_does 94 = .ok (.lreturn, 1) := by decide +kernel
theorem dL_does_95 : decode cL_does 95 = .ok (.astore 6, 2) := by decide +kernel
theorem dL_does_97 : decode cL_does 97 = .ok (.ldc2_w 71, 3) := by decide +kernel
theorem dL_does_100 : decode cL_does 100 = .ok (.lreturn, 1) := by decide +kernel
theorem dL_does_101 : decode cL_does 101 = .ok (.astore 6, 2) := by decide +kernel
theorem dL_does_103 : decode cL_does 103 = .ok (.ldc2_w 75, 3) := by decide +kernel
theorem dL_does_106 : decode cL_does 106 = .ok (.lreturn, 1) := by decide +kernel
theorem dL_does_107 : decode cL_does 107 = .ok (.astore 6, 2) := by decide +kernel
theorem dL_does_109 : decode cL_does 109 = .ok (.ldc2_w 79, 3) := by decide +kernel
theorem dL_does_112 : decode cL_does 112 = .ok (.lreturn, 1) := by decide +kernel
theorem dL_discharges_0 : decode cL_discharges 0 = .ok (.aload_n 0, 1) := by decide +kernel
theorem dL_discharges_1 : decode cL_discharges 1 = .ok (.iload_n 1, 1) := by decide +kernel
theorem dL_discharges_2 : decode cL_discharges 2 = .ok (.iload_n 2, 1) := by decide +kernel
theorem dL_discharges_3 : decode cL_discharges 3 = .ok (.invokevirtual 81, 3) := by decide +kernel
theorem dL_discharges_6 : decode cL_discharges 6 = .ok (.lconst 0, 1) := by decide +kernel
theorem dL_discharges_7 : decode cL_discharges 7 = .ok (.lreturn, 1) := by decide +kernel
theorem dL_isHall_0 : decode cL_isHall 0 = .ok (.iconst 1, 1) := by decide +kernel
theorem dL_isHall_1 : decode cL_isHall 1 = .ok (.istore 17, 2) := by decide +kernel
theorem dL_isHall_3 : decode cL_isHall 3 = .ok (.bipush 6, 2) := by decide +kernel
theorem dL_isHall_5 : decode cL_isHall 5 = .ok (.newarray .int, 2) := by decide +kernel
theorem dL_isHall_7 : decode cL_isHall 7 = .ok (.astore 18, 2) := by decide +kernel
theorem dL_isHall_9 : decode cL_isHall 9 = .ok (.aload_n 1, 1) := by decide +kernel
theorem dL_isHall_10 : decode cL_isHall 10 = .ok (.aload_n 2, 1) := by decide +kernel
theorem dL_isHall_11 : decode cL_isHall 11 = .ok (.aload 13, 2) := by decide +kernel
theorem dL_isHall_13 : decode cL_isHall 13 = .ok (.aload 18, 2) := by decide +kernel
theorem dL_isHall_15 : decode cL_isHall 15 = .ok (.invokestatic 7, 3) := by decide +kernel
theorem dL_isHall_18 : decode cL_isHall 18 = .ok (.iconst 0, 1) := by decide +kernel
theorem dL_isHall_19 : decode cL_isHall 19 = .ok (.istore 19, 2) := by decide +kernel
theorem dL_isHall_21 : decode cL_isHall 21 = .ok (.iload 19, 2) := by decide +kernel
theorem dL_isHall_23 : decode cL_isHall 23 = .ok (.aload 13, 2) := by decide +kernel
theorem dL_isHall_25 : decode cL_isHall 25 = .ok (.iconst 0, 1) := by decide +kernel
theorem dL_isHall_26 : decode cL_isHall 26 = .ok (.iaload, 1) := by decide +kernel
theorem dL_isHall_27 : decode cL_isHall 27 = .ok (.if_icmp .ge 52, 3) := by decide +kernel
theorem dL_isHall_30 : decode cL_isHall 30 = .ok (.iload 17, 2) := by decide +kernel
theorem dL_isHall_32 : decode cL_isHall 32 = .ok (.ifCond .eq 47, 3) := by decide +kernel
theorem dL_isHall_35 : decode cL_isHall 35 = .ok (.aload_n 0, 1) := by decide +kernel
theorem dL_isHall_36 : decode cL_isHall 36 = .ok (.iload 19, 2) := by decide +kernel
theorem dL_isHall_38 : decode cL_isHall 38 = .ok (.invokevirtual 85, 3) := by decide +kernel
theorem dL_isHall_41 : decode cL_isHall 41 = .ok (.aload 18, 2) := by decide +kernel
theorem dL_isHall_43 : decode cL_isHall 43 = .ok (.iload 19, 2) := by decide +kernel
theorem dL_isHall_45 : decode cL_isHall 45 = .ok (.iaload, 1) := by decide +kernel
theorem dL_isHall_46 : decode cL_isHall 46 = .ok (.iconst 1, 1) := by decide +kernel
theorem dL_isHall_47 : decode cL_isHall 47 = .ok (.isub, 1) := by decide +kernel
theorem dL_isHall_48 : decode cL_isHall 48 = .ok (.if_icmp .ne 22, 3) := by decide +kernel
theorem dL_isHall_51 : decode cL_isHall 51 = .ok (.aload_n 0, 1) := by decide +kernel
theorem dL_isHall_52 : decode cL_isHall 52 = .ok (.iload 19, 2) := by decide +kernel
theorem dL_isHall_54 : decode cL_isHall 54 = .ok (.invokevirtual 88, 3) := by decide +kernel
theorem dL_isHall_57 : decode cL_isHall 57 = .ok (.aload 12, 2) := by decide +kernel
theorem dL_isHall_59 : decode cL_isHall 59 = .ok (.iload 19, 2) := by decide +kernel
theorem dL_isHall_61 : decode cL_isHall 61 = .ok (.laload, 1) := by decide +kernel
theorem dL_isHall_62 : decode cL_isHall 62 = .ok (.lcmp, 1) := by decide +kernel
theorem dL_isHall_63 : decode cL_isHall 63 = .ok (.ifCond .ne 7, 3) := by decide +kernel
theorem dL_isHall_66 : decode cL_isHall 66 = .ok (.iconst 1, 1) := by decide +kernel
theorem dL_isHall_67 : decode cL_isHall 67 = .ok (.goto 4, 3) := by decide +kernel
theorem dL_isHall_70 : decode cL_isHall 70 = .ok (.iconst 0, 1) := by decide +kernel
theorem dL_isHall_71 : decode cL_isHall 71 = .ok (.istore 17, 2) := by decide +kernel
theorem dL_isHall_73 : decode cL_isHall 73 = .ok (.iinc 19 1, 3) := by decide +kernel
theorem dL_isHall_76 : decode cL_isHall 76 = .ok (.goto (-55), 3) := by decide +kernel
theorem dL_isHall_79 : decode cL_isHall 79 = .ok (.lload 14, 2) := by decide +kernel
theorem dL_isHall_81 : decode cL_isHall 81 = .ok (.iload 16, 2) := by decide +kernel
theorem dL_isHall_83 : decode cL_isHall 83 = .ok (.bipush 11, 2) := by decide +kernel
theorem dL_isHall_85 : decode cL_isHall 85 = .ok (.irem, 1) := by decide +kernel
theorem dL_isHall_86 : decode cL_isHall 86 = .ok (.i2l, 1) := by decide +kernel
theorem dL_isHall_87 : decode cL_isHall 87 = .ok (.lmul, 1) := by decide +kernel
theorem dL_isHall_88 : decode cL_isHall 88 = .ok (.ldc2_w 92, 3) := by decide +kernel
theorem dL_isHall_91 : decode cL_isHall 91 = .ok (.ldiv, 1) := by decide +kernel
theorem dL_isHall_92 : decode cL_isHall 92 = .ok (.lstore 19, 2) := by decide +kernel
theorem dL_isHall_94 : decode cL_isHall 94 = .ok (.iconst 0, 1) := by decide +kernel
theorem dL_isHall_95 : decode cL_isHall 95 = .ok (.istore 21, 2) := by decide +kernel
theorem dL_isHall_97 : decode cL_isHall 97 = .ok (.iload 21, 2) := by decide +kernel
theorem dL_isHall_99 : decode cL_isHall 99 = .ok (.aload 13, 2) := by decide +kernel
theorem dL_isHall_101 : decode cL_isHall 101 = .ok (.iconst 1, 1) := by decide +kernel
theorem dL_isHall_102 : decode cL_isHall 102 = .ok (.iaload, 1) := by decide +kernel
theorem dL_isHall_103 : decode cL_isHall 103 = .ok (.if_icmp .ge 294, 3) := by decide +kernel
theorem dL_isHall_106 : decode cL_isHall 106 = .ok (.iload 17, 2) := by decide +kernel
theorem dL_isHall_108 : decode cL_isHall 108 = .ok (.ifCond .eq 289, 3) := by decide +kernel
theorem dL_isHall_111 : decode cL_isHall 111 = .ok (.aload_n 0, 1) := by decide +kernel
theorem dL_isHall_112 : decode cL_isHall 112 = .ok (.iload 21, 2) := by decide +kernel
theorem dL_isHall_114 : decode cL_isHall 114 = .ok (.invokevirtual 94, 3) := by decide +kernel
theorem dL_isHall_117 : decode cL_isHall 117 = .ok (.aload 4, 2) := by decide +kernel
theorem dL_isHall_119 : decode cL_isHall 119 = .ok (.aload 5, 2) := by decide +kernel
theorem dL_isHall_121 : decode cL_isHall 121 = .ok (.iload 21, 2) := by decide +kernel
theorem dL_isHall_123 : decode cL_isHall 123 = .ok (.lload 14, 2) := by decide +kernel
theorem dL_isHall_125 : decode cL_isHall 125 = .ok (.invokestatic 97, 3) := by decide +kernel
theorem dL_isHall_128 : decode cL_isHall 128 = .ok (.if_icmp .ne 31, 3) := by decide +kernel
theorem dL_isHall_131 : decode cL_isHall 131 = .ok (.aload_n 0, 1) := by decide +kernel
theorem dL_isHall_132 : decode cL_isHall 132 = .ok (.iload 21, 2) := by decide +kernel
theorem dL_isHall_134 : decode cL_isHall 134 = .ok (.invokevirtual 100, 3) := by decide +kernel
theorem dL_isHall_137 : decode cL_isHall 137 = .ok (.aload 6, 2) := by decide +kernel
theorem dL_isHall_139 : decode cL_isHall 139 = .ok (.aload 7, 2) := by decide +kernel
theorem dL_isHall_141 : decode cL_isHall 141 = .ok (.aload 8, 2) := by decide +kernel
theorem dL_isHall_143 : decode cL_isHall 143 = .ok (.aload 13, 2) := by decide +kernel
theorem dL_isHall_145 : decode cL_isHall 145 = .ok (.iload 21, 2) := by decide +kernel
theorem dL_isHall_147 : decode cL_isHall 147 = .ok (.lload 14, 2) := by decide +kernel
theorem dL_isHall_149 : decode cL_isHall 149 = .ok (.invokestatic 103, 3) := by decide +kernel
theorem dL_isHall_152 : decode cL_isHall 152 = .ok (.if_icmp .ne 7, 3) := by decide +kernel
theorem dL_isHall_155 : decode cL_isHall 155 = .ok (.iconst 1, 1) := by decide +kernel
theorem dL_isHall_156 : decode cL_isHall 156 = .ok (.goto 4, 3) := by decide +kernel
theorem dL_isHall_159 : decode cL_isHall 159 = .ok (.iconst 0, 1) := by decide +kernel
theorem dL_isHall_160 : decode cL_isHall 160 = .ok (.istore 17, 2) := by decide +kernel
theorem dL_isHall_162 : decode cL_isHall 162 = .ok (.iconst 0, 1) := by decide +kernel
theorem dL_isHall_163 : decode cL_isHall 163 = .ok (.istore 22, 2) := by decide +kernel
theorem dL_isHall_165 : decode cL_isHall 165 = .ok (.iload 22, 2) := by decide +kernel
theorem dL_isHall_167 : decode cL_isHall 167 = .ok (.aload 13, 2) := by decide +kernel
theorem dL_isHall_169 : decode cL_isHall 169 = .ok (.iconst 0, 1) := by decide +kernel
theorem dL_isHall_170 : decode cL_isHall 170 = .ok (.iaload, 1) := by decide +kernel
theorem dL_isHall_171 : decode cL_isHall 171 = .ok (.if_icmp .ge 42, 3) := by decide +kernel
theorem dL_isHall_174 : decode cL_isHall 174 = .ok (.iload 17, 2) := by decide +kernel
theorem dL_isHall_176 : decode cL_isHall 176 = .ok (.ifCond .eq 37, 3) := by decide +kernel
theorem dL_isHall_179 : decode cL_isHall 179 = .ok (.aload_n 0, 1) := by decide +kernel
theorem dL_isHall_180 : decode cL_isHall 180 = .ok (.iload 21, 2) := by decide +kernel
theorem dL_isHall_182 : decode cL_isHall 182 = .ok (.iload 22, 2) := by decide +kernel
theorem dL_isHall_184 : decode cL_isHall 184 = .ok (.invokevirtual 106, 3) := by decide +kernel
theorem dL_isHall_187 : decode cL_isHall 187 = .ok (.aload_n 3, 1) := by decide +kernel
theorem dL_isHall_188 : decode cL_isHall 188 = .ok (.bipush 6, 2) := by decide +kernel
theorem dL_isHall_190 : decode cL_isHall 190 = .ok (.iload 21, 2) := by decide +kernel
theorem dL_isHall_192 : decode cL_isHall 192 = .ok (.imul, 1) := by decide +kernel
theorem dL_isHall_193 : decode cL_isHall 193 = .ok (.iload 22, 2) := by decide +kernel
theorem dL_isHall_195 : decode cL_isHall 195 = .ok (.iadd, 1) := by decide +kernel
theorem dL_isHall_196 : decode cL_isHall 196 = .ok (.iaload, 1) := by decide +kernel
theorem dL_isHall_197 : decode cL_isHall 197 = .ok (.if_icmp .ne 7, 3) := by decide +kernel
theorem dL_isHall_200 : decode cL_isHall 200 = .ok (.iconst 1, 1) := by decide +kernel
theorem dL_isHall_201 : decode cL_isHall 201 = .ok (.goto 4, 3) := by decide +kernel
theorem dL_isHall_204 : decode cL_isHall 204 = .ok (.iconst 0, 1) := by decide +kernel
theorem dL_isHall_205 : decode cL_isHall 205 = .ok (.istore 17, 2) := by decide +kernel
theorem dL_isHall_207 : decode cL_isHall 207 = .ok (.iinc 22 1, 3) := by decide +kernel
theorem dL_isHall_210 : decode cL_isHall 210 = .ok (.goto (-45), 3) := by decide +kernel
theorem dL_isHall_213 : decode cL_isHall 213 = .ok (.iconst 0, 1) := by decide +kernel
theorem dL_isHall_214 : decode cL_isHall 214 = .ok (.istore 22, 2) := by decide +kernel
theorem dL_isHall_216 : decode cL_isHall 216 = .ok (.iload 22, 2) := by decide +kernel
theorem dL_isHall_218 : decode cL_isHall 218 = .ok (.iconst 3, 1) := by decide +kernel
theorem dL_isHall_219 : decode cL_isHall 219 = .ok (.if_icmp .ge 172, 3) := by decide +kernel
theorem dL_isHall_222 : decode cL_isHall 222 = .ok (.iload 17, 2) := by decide +kernel
theorem dL_isHall_224 : decode cL_isHall 224 = .ok (.ifCond .eq 167, 3) := by decide +kernel
theorem dL_isHall_227 : decode cL_isHall 227 = .ok (.aload 6, 2) := by decide +kernel
theorem dL_isHall_229 : decode cL_isHall 229 = .ok (.aload 7, 2) := by decide +kernel
theorem dL_isHall_231 : decode cL_isHall 231 = .ok (.aload 8, 2) := by decide +kernel
theorem dL_isHall_233 : decode cL_isHall 233 = .ok (.aload 9, 2) := by decide +kernel
theorem dL_isHall_235 : decode cL_isHall 235 = .ok (.aload 11, 2) := by decide +kernel
theorem dL_isHall_237 : decode cL_isHall 237 = .ok (.aload 13, 2) := by decide +kernel
theorem dL_isHall_239 : decode cL_isHall 239 = .ok (.iload 21, 2) := by decide +kernel
theorem dL_isHall_241 : decode cL_isHall 241 = .ok (.lload 14, 2) := by decide +kernel
theorem dL_isHall_243 : decode cL_isHall 243 = .ok (.iload 22, 2) := by decide +kernel
theorem dL_isHall_245 : decode cL_isHall 245 = .ok (.invokestatic 39, 3) := by decide +kernel
theorem dL_isHall_248 : decode cL_isHall 248 = .ok (.istore 23, 2) := by decide +kernel
theorem dL_isHall_250 : decode cL_isHall 250 = .ok (.aload 6, 2) := by decide +kernel
theorem dL_isHall_252 : decode cL_isHall 252 = .ok (.aload 7, 2) := by decide +kernel
theorem dL_isHall_254 : decode cL_isHall 254 = .ok (.aload 8, 2) := by decide +kernel
theorem dL_isHall_256 : decode cL_isHall 256 = .ok (.aload 9, 2) := by decide +kernel
theorem dL_isHall_258 : decode cL_isHall 258 = .ok (.aload 11, 2) := by decide +kernel
theorem dL_isHall_260 : decode cL_isHall 260 = .ok (.aload 13, 2) := by decide +kernel
theorem dL_isHall_262 : decode cL_isHall 262 = .ok (.iload 21, 2) := by decide +kernel
theorem dL_isHall_264 : decode cL_isHall 264 = .ok (.lload 19, 2) := by decide +kernel
theorem dL_isHall_266 : decode cL_isHall 266 = .ok (.lload 14, 2) := by decide +kernel
theorem dL_isHall_268 : decode cL_isHall 268 = .ok (.lcmp, 1) := by decide +kernel
theorem dL_isHall_269 : decode cL_isHall 269 = .ok (.ifCond .le 8, 3) := by decide +kernel
theorem dL_isHall_272 : decode cL_isHall 272 = .ok (.lload 14, 2) := by decide +kernel
theorem dL_isHall_274 : decode cL_isHall 274 = .ok (.goto 5, 3) := by decide +kernel
theorem dL_isHall_277 : decode cL_isHall 277 = .ok (.lload 19, 2) := by decide +kernel
theorem dL_isHall_279 : decode cL_isHall 279 = .ok (.iload 22, 2) := by decide +kernel
theorem dL_isHall_281 : decode cL_isHall 281 = .ok (.invokestatic 39, 3) := by decide +kernel
theorem dL_isHall_284 : decode cL_isHall 284 = .ok (.istore 24, 2) := by decide +kernel
theorem dL_isHall_286 : decode cL_isHall 286 = .ok (.aload_n 0, 1) := by decide +kernel
theorem dL_isHall_287 : decode cL_isHall 287 = .ok (.iload 21, 2) := by decide +kernel
theorem dL_isHall_289 : decode cL_isHall 289 = .ok (.lload 14, 2) := by decide +kernel
theorem dL_isHall_291 : decode cL_isHall 291 = .ok (.iload 22, 2) := by decide +kernel
theorem dL_isHall_293 : decode cL_isHall 293 = .ok (.invokevirtual 109, 3) := by decide +kernel
theorem dL_isHall_296 : decode cL_isHall 296 = .ok (.iload 23, 2) := by decide +kernel
theorem dL_isHall_298 : decode cL_isHall 298 = .ok (.ifCond .ge 7, 3) := by decide +kernel
theorem dL_isHall_301 : decode cL_isHall 301 = .ok (.iconst (-1), 1) := by decide +kernel
theorem dL_isHall_302 : decode cL_isHall 302 = .ok (.goto 10, 3) := by decide +kernel
theorem dL_isHall_305 : decode cL_isHall 305 = .ok (.aload 10, 2) := by decide +kernel
theorem dL_isHall_307 : decode cL_isHall 307 = .ok (.iload 23, 2) := by decide +kernel
theorem dL_isHall_309 : decode cL_isHall 309 = .ok (.iaload, 1) := by decide +kernel
theorem dL_isHall_310 : decode cL_isHall 310 = .ok (.iconst 1, 1) := by decide +kernel
theorem dL_isHall_311 : decode cL_isHall 311 = .ok (.isub, 1) := by decide +kernel
theorem dL_isHall_312 : decode cL_isHall 312 = .ok (.if_icmp .ne 70, 3) := by decide +kernel
theorem dL_isHall_315 : decode cL_isHall 315 = .ok (.aload_n 0, 1) := by decide +kernel
theorem dL_isHall_316 : decode cL_isHall 316 = .ok (.iload 21, 2) := by decide +kernel
theorem dL_isHall_318 : decode cL_isHall 318 = .ok (.lload 19, 2) := by decide +kernel
theorem dL_isHall_320 : decode cL_isHall 320 = .ok (.lload 14, 2) := by decide +kernel
theorem dL_isHall_322 : decode cL_isHall 322 = .ok (.lcmp, 1) := by decide +kernel
theorem dL_isHall_323 : decode cL_isHall 323 = .ok (.ifCond .le 8, 3) := by decide +kernel
theorem dL_isHall_326 : decode cL_isHall 326 = .ok (.lload 14, 2) := by decide +kernel
theorem dL_isHall_328 : decode cL_isHall 328 = .ok (.goto 5, 3) := by decide +kernel
theorem dL_isHall_331 : decode cL_isHall 331 = .ok (.lload 19, 2) := by decide +kernel
theorem dL_isHall_333 : decode cL_isHall 333 = .ok (.iload 22, 2) := by decide +kernel
theorem dL_isHall_335 : decode cL_isHall 335 = .ok (.invokevirtual 109, 3) := by decide +kernel
theorem dL_isHall_338 : decode cL_isHall 338 = .ok (.iload 24, 2) := by decide +kernel
theorem dL_isHall_340 : decode cL_isHall 340 = .ok (.ifCond .ge 7, 3) := by decide +kernel
theorem dL_isHall_343 : decode cL_isHall 343 = .ok (.iconst (-1), 1) := by decide +kernel
theorem dL_isHall_344 : decode cL_isHall 344 = .ok (.goto 10, 3) := by decide +kernel
theorem dL_isHall_347 : decode cL_isHall 347 = .ok (.aload 10, 2) := by decide +kernel
theorem dL_isHall_349 : decode cL_isHall 349 = .ok (.iload 24, 2) := by decide +kernel
theorem dL_isHall_351 : decode cL_isHall 351 = .ok (.iaload, 1) := by decide +kernel
theorem dL_isHall_352 : decode cL_isHall 352 = .ok (.iconst 1, 1) := by decide +kernel
theorem dL_isHall_353 : decode cL_isHall 353 = .ok (.isub, 1) := by decide +kernel
theorem dL_isHall_354 : decode cL_isHall 354 = .ok (.if_icmp .ne 28, 3) := by decide +kernel
theorem dL_isHall_357 : decode cL_isHall 357 = .ok (.iload 23, 2) := by decide +kernel
theorem dL_isHall_359 : decode cL_isHall 359 = .ok (.ifCond .lt 19, 3) := by decide +kernel
theorem dL_isHall_362 : decode cL_isHall 362 = .ok (.aload_n 0, 1) := by decide +kernel
theorem dL_isHall_363 : decode cL_isHall 363 = .ok (.aload 10, 2) := by decide +kernel
theorem dL_isHall_365 : decode cL_isHall 365 = .ok (.iload 23, 2) := by decide +kernel
theorem dL_isHall_367 : decode cL_isHall 367 = .ok (.iaload, 1) := by decide +kernel
theorem dL_isHall_368 : decode cL_isHall 368 = .ok (.iconst 1, 1) := by decide +kernel
theorem dL_isHall_369 : decode cL_isHall 369 = .ok (.isub, 1) := by decide +kernel
theorem dL_isHall_370 : decode cL_isHall 370 = .ok (.invokevirtual 113, 3) := by decide +kernel
theorem dL_isHall_373 : decode cL_isHall 373 = .ok (.iload 22, 2) := by decide +kernel
theorem dL_isHall_375 : decode cL_isHall 375 = .ok (.if_icmp .ne 7, 3) := by decide +kernel
theorem dL_isHall_378 : decode cL_isHall 378 = .ok (.iconst 1, 1) := by decide +kernel
theorem dL_isHall_379 : decode cL_isHall 379 = .ok (.goto 4, 3) := by decide +kernel
theorem dL_isHall_382 : decode cL_isHall 382 = .ok (.iconst 0, 1) := by decide +kernel
theorem dL_isHall_383 : decode cL_isHall 383 = .ok (.istore 17, 2) := by decide +kernel
theorem dL_isHall_385 : decode cL_isHall 385 = .ok (.iinc 22 1, 3) := by decide +kernel
theorem dL_isHall_388 : decode cL_isHall 388 = .ok (.goto (-172), 3) := by decide +kernel
theorem dL_isHall_391 : decode cL_isHall 391 = .ok (.iinc 21 1, 3) := by decide +kernel
theorem dL_isHall_394 : decode cL_isHall 394 = .ok (.goto (-297), 3) := by decide +kernel
theorem dL_isHall_397 : decode cL_isHall 397 = .ok (.iconst 0, 1) := by decide +kernel
theorem dL_isHall_398 : decode cL_isHall 398 = .ok (.istore 21, 2) := by decide +kernel
theorem dL_isHall_400 : decode cL_isHall 400 = .ok (.iload 21, 2) := by decide +kernel
theorem dL_isHall_402 : decode cL_isHall 402 = .ok (.aload 13, 2) := by decide +kernel
theorem dL_isHall_404 : decode cL_isHall 404 = .ok (.iconst 2, 1) := by decide +kernel
theorem dL_isHall_405 : decode cL_isHall 405 = .ok (.iaload, 1) := by decide +kernel
theorem dL_isHall_406 : decode cL_isHall 406 = .ok (.if_icmp .ge 64, 3) := by decide +kernel
theorem dL_isHall_409 : decode cL_isHall 409 = .ok (.iload 17, 2) := by decide +kernel
theorem dL_isHall_411 : decode cL_isHall 411 = .ok (.ifCond .eq 59, 3) := by decide +kernel
theorem dL_isHall_414 : decode cL_isHall 414 = .ok (.aload 10, 2) := by decide +kernel
theorem dL_isHall_416 : decode cL_isHall 416 = .ok (.iload 21, 2) := by decide +kernel
theorem dL_isHall_418 : decode cL_isHall 418 = .ok (.iaload, 1) := by decide +kernel
theorem dL_isHall_419 : decode cL_isHall 419 = .ok (.ifCond .eq 38, 3) := by decide +kernel
theorem dL_isHall_422 : decode cL_isHall 422 = .ok (.aload 6, 2) := by decide +kernel
theorem dL_isHall_424 : decode cL_isHall 424 = .ok (.aload 7, 2) := by decide +kernel
theorem dL_isHall_426 : decode cL_isHall 426 = .ok (.aload 8, 2) := by decide +kernel
theorem dL_isHall_428 : decode cL_isHall 428 = .ok (.aload 11, 2) := by decide +kernel
theorem dL_isHall_430 : decode cL_isHall 430 = .ok (.aload 13, 2) := by decide +kernel
theorem dL_isHall_432 : decode cL_isHall 432 = .ok (.iload 21, 2) := by decide +kernel
theorem dL_isHall_434 : decode cL_isHall 434 = .ok (.lload 14, 2) := by decide +kernel
theorem dL_isHall_436 : decode cL_isHall 436 = .ok (.invokestatic 25, 3) := by decide +kernel
theorem dL_isHall_439 : decode cL_isHall 439 = .ok (.ifCond .ne 18, 3) := by decide +kernel
theorem dL_isHall_442 : decode cL_isHall 442 = .ok (.aload_n 0, 1) := by decide +kernel
theorem dL_isHall_443 : decode cL_isHall 443 = .ok (.aload 10, 2) := by decide +kernel
theorem dL_isHall_445 : decode cL_isHall 445 = .ok (.iload 21, 2) := by decide +kernel
theorem dL_isHall_447 : decode cL_isHall 447 = .ok (.iaload, 1) := by decide +kernel
theorem dL_isHall_448 : decode cL_isHall 448 = .ok (.iconst 1, 1) := by decide +kernel
theorem dL_isHall_449 : decode cL_isHall 449 = .ok (.isub, 1) := by decide +kernel
theorem dL_isHall_450 : decode cL_isHall 450 = .ok (.invokevirtual 113, 3) := by decide +kernel
theorem dL_isHall_453 : decode cL_isHall 453 = .ok (.iconst (-1), 1) := by decide +kernel
theorem dL_isHall_454 : decode cL_isHall 454 = .ok (.if_icmp .ne 7, 3) := by decide +kernel
theorem dL_isHall_457 : decode cL_isHall 457 = .ok (.iconst 1, 1) := by decide +kernel
theorem dL_isHall_458 : decode cL_isHall 458 = .ok (.goto 4, 3) := by decide +kernel
theorem dL_isHall_461 : decode cL_isHall 461 = .ok (.iconst 0, 1) := by decide +kernel
theorem dL_isHall_462 : decode cL_isHall 462 = .ok (.istore 17, 2) := by decide +kernel
theorem dL_isHall_464 : decode cL_isHall 464 = .ok (.iinc 21 1, 3) := by decide +kernel
theorem dL_isHall_467 : decode cL_isHall 467 = .ok (.goto (-67), 3) := by decide +kernel
theorem dL_isHall_470 : decode cL_isHall 470 = .ok (.iload 17, 2) := by decide +kernel
theorem dL_isHall_472 : decode cL_isHall 472 = .ok (.ireturn, 1) := by decide +kernel
theorem dL_law_0 : decode cL_law 0 = .ok (.new 44, 3) := by decide +kernel
theorem dL_law_3 : decode cL_law 3 = .ok (.dup, 1) := by decide +kernel
theorem dL_law_4 : decode cL_law 4 = .ok (.invokespecial 116, 3) := by decide +kernel
theorem dL_law_7 : decode cL_law 7 = .ok (.astore_n 1, 1) := by decide +kernel
theorem dL_law_8 : decode cL_law 8 = .ok (.bipush 6, 2) := by decide +kernel
theorem dL_law_10 : decode cL_law 10 = .ok (.newarray .int, 2) := by decide +kernel
theorem dL_law_12 : decode cL_law 12 = .ok (.astore_n 2, 1) := by decide +kernel
theorem dL_law_13 : decode cL_law 13 = .ok (.bipush 36, 2) := by decide +kernel
theorem dL_law_15 : decode cL_law 15 = .ok (.newarray .int, 2) := by decide +kernel
theorem dL_law_17 : decode cL_law 17 = .ok (.astore_n 3, 1) := by decide +kernel
theorem dL_law_18 : decode cL_law 18 = .ok (.bipush 18, 2) := by decide +kernel
theorem dL_law_20 : decode cL_law 20 = .ok (.newarray .int, 2) := by decide +kernel
theorem dL_law_22 : decode cL_law 22 = .ok (.astore 4, 2) := by decide +kernel
theorem dL_law_24 : decode cL_law 24 = .ok (.iconst 3, 1) := by decide +kernel
theorem dL_law_25 : decode cL_law 25 = .ok (.newarray .long, 2) := by decide +kernel
theorem dL_law_27 : decode cL_law 27 = .ok (.astore 5, 2) := by decide +kernel
theorem dL_law_29 : decode cL_law 29 = .ok (.iconst 3, 1) := by decide +kernel
theorem dL_law_30 : decode cL_law 30 = .ok (.newarray .int, 2) := by decide +kernel
theorem dL_law_32 : decode cL_law 32 = .ok (.astore 6, 2) := by decide +kernel
theorem dL_law_34 : decode cL_law 34 = .ok (.iconst 3, 1) := by decide +kernel
theorem dL_law_35 : decode cL_law 35 = .ok (.newarray .long, 2) := by decide +kernel
theorem dL_law_37 : decode cL_law 37 = .ok (.astore 7, 2) := by decide +kernel
theorem dL_law_39 : decode cL_law 39 = .ok (.bipush 40, 2) := by decide +kernel
theorem dL_law_41 : decode cL_law 41 = .ok (.newarray .int, 2) := by decide +kernel
theorem dL_law_43 : decode cL_law 43 = .ok (.astore 8, 2) := by decide +kernel
theorem dL_law_45 : decode cL_law 45 = .ok (.bipush 40, 2) := by decide +kernel
theorem dL_law_47 : decode cL_law 47 = .ok (.newarray .int, 2) := by decide +kernel
theorem dL_law_49 : decode cL_law 49 = .ok (.astore 9, 2) := by decide +kernel
theorem dL_law_51 : decode cL_law 51 = .ok (.bipush 40, 2) := by decide +kernel
theorem dL_law_53 : decode cL_law 53 = .ok (.newarray .long, 2) := by decide +kernel
theorem dL_law_55 : decode cL_law 55 = .ok (.astore 10, 2) := by decide +kernel
theorem dL_law_57 : decode cL_law 57 = .ok (.bipush 40, 2) := by decide +kernel
theorem dL_law_59 : decode cL_law 59 = .ok (.newarray .long, 2) := by decide +kernel
theorem dL_law_61 : decode cL_law 61 = .ok (.astore 11, 2) := by decide +kernel
theorem dL_law_63 : decode cL_law 63 = .ok (.bipush 40, 2) := by decide +kernel
theorem dL_law_65 : decode cL_law 65 = .ok (.newarray .int, 2) := by decide +kernel
theorem dL_law_67 : decode cL_law 67 = .ok (.astore 12, 2) := by decide +kernel
theorem dL_law_69 : decode cL_law 69 = .ok (.bipush 40, 2) := by decide +kernel
theorem dL_law_71 : decode cL_law 71 = .ok (.newarray .int, 2) := by decide +kernel
theorem dL_law_73 : decode cL_law 73 = .ok (.astore 13, 2) := by decide +kernel
theorem dL_law_75 : decode cL_law 75 = .ok (.bipush 40, 2) := by decide +kernel
theorem dL_law_77 : decode cL_law 77 = .ok (.newarray .int, 2) := by decide +kernel
theorem dL_law_79 : decode cL_law 79 = .ok (.astore 14, 2) := by decide +kernel
theorem dL_law_81 : decode cL_law 81 = .ok (.bipush 6, 2) := by decide +kernel
theorem dL_law_83 : decode cL_law 83 = .ok (.newarray .long, 2) := by decide +kernel
theorem dL_law_85 : decode cL_law 85 = .ok (.astore 15, 2) := by decide +kernel
theorem dL_law_87 : decode cL_law 87 = .ok (.iconst 4, 1) := by decide +kernel
theorem dL_law_88 : decode cL_law 88 = .ok (.newarray .int, 2) := by decide +kernel
theorem dL_law_90 : decode cL_law 90 = .ok (.astore 16, 2) := by decide +kernel
theorem dL_law_92 : decode cL_law 92 = .ok (.lconst 0, 1) := by decide +kernel
theorem dL_law_93 : decode cL_law 93 = .ok (.lstore 17, 2) := by decide +kernel
theorem dL_law_95 : decode cL_law 95 = .ok (.iconst 1, 1) := by decide +kernel
theorem dL_law_96 : decode cL_law 96 = .ok (.istore 19, 2) := by decide +kernel
theorem dL_law_98 : decode cL_law 98 = .ok (.iconst 0, 1) := by decide +kernel
theorem dL_law_99 : decode cL_law 99 = .ok (.istore 20, 2) := by decide +kernel
theorem dL_law_101 : decode cL_law 101 = .ok (.iload 20, 2) := by decide +kernel
theorem dL_law_103 : decode cL_law 103 = .ok (.sipush 130, 3) := by decide +kernel
theorem dL_law_106 : decode cL_law 106 = .ok (.if_icmp .ge 1957, 3) := by decide +kernel
theorem dL_law_109 : decode cL_law 109 = .ok (.iload 19, 2) := by decide +kernel
theorem dL_law_111 : decode cL_law 111 = .ok (.ifCond .eq 1952, 3) := by decide +kernel
theorem dL_law_114 : decode cL_law 114 = .ok (.iload 20, 2) := by decide +kernel
theorem dL_law_116 : decode cL_law 116 = .ok (.aload_n 0, 1) := by decide +kernel
theorem dL_law_117 : decode cL_law 117 = .ok (.arraylength, 1) := by decide +kernel
theorem dL_law_118 : decode cL_law 118 = .ok (.if_icmp .ge 13, 3) := by decide +kernel
theorem dL_law_121 : decode cL_law 121 = .ok (.aload_n 0, 1) := by decide +kernel
theorem dL_law_122 : decode cL_law 122 = .ok (.iload 20, 2) := by decide +kernel
theorem dL_law_124 : decode cL_law 124 = .ok (.iaload, 1) := by decide +kernel
theorem dL_law_125 : decode cL_law 125 = .ok (.ldc 117, 2) := by decide +kernel
theorem dL_law_127 : decode cL_law 127 = .ok (.iand, 1) := by decide +kernel
theorem dL_law_128 : decode cL_law 128 = .ok (.goto 24, 3) := by decide +kernel
theorem dL_law_131 : decode cL_law 131 = .ok (.ldc 118, 2) := by decide +kernel
theorem dL_law_133 : decode cL_law 133 = .ok (.iload 20, 2) := by decide +kernel
theorem dL_law_135 : decode cL_law 135 = .ok (.imul, 1) := by decide +kernel
theorem dL_law_136 : decode cL_law 136 = .ok (.iload 20, 2) := by decide +kernel
theorem dL_law_138 : decode cL_law 138 = .ok (.imul, 1) := by decide +kernel
theorem dL_law_139 : decode cL_law 139 = .ok (.sipush 9059, 3) := by decide +kernel
theorem dL_law_142 : decode cL_law 142 = .ok (.iload 20, 2) := by decide +kernel
theorem dL_law_144 : decode cL_law 144 = .ok (.imul, 1) := by decide +kernel
theorem dL_law_145 : decode cL_law 145 = .ok (.iadd, 1) := by decide +kernel
theorem dL_law_146 : decode cL_law 146 = .ok (.bipush 31, 2) := by decide +kernel
theorem dL_law_148 : decode cL_law 148 = .ok (.iadd, 1) := by decide +kernel
theorem dL_law_149 : decode cL_law 149 = .ok (.ldc 117, 2) := by decide +kernel
theorem dL_law_151 : decode cL_law 151 = .ok (.iand, 1) := by decide +kernel
theorem dL_law_152 : decode cL_law 152 = .ok (.istore 21, 2) := by decide +kernel
theorem dL_law_154 : decode cL_law 154 = .ok (.iload 20, 2) := by decide +kernel
theorem dL_law_156 : decode cL_law 156 = .ok (.bipush 6, 2) := by decide +kernel
theorem dL_law_158 : decode cL_law 158 = .ok (.if_icmp .ge 7, 3) := by decide +kernel
theorem dL_law_161 : decode cL_law 161 = .ok (.iconst 0, 1) := by decide +kernel
theorem dL_law_162 : decode cL_law 162 = .ok (.goto 19, 3) := by decide +kernel
theorem dL_law_165 : decode cL_law 165 = .ok (.iload 20, 2) := by decide +kernel
theorem dL_law_167 : decode cL_law 167 = .ok (.bipush 9, 2) := by decide +kernel
theorem dL_law_169 : decode cL_law 169 = .ok (.if_icmp .ge 7, 3) := by decide +kernel
theorem dL_law_172 : decode cL_law 172 = .ok (.iconst 1, 1) := by decide +kernel
theorem dL_law_173 : decode cL_law 173 = .ok (.goto 8, 3) := by decide +kernel
theorem dL_law_176 : decode cL_law 176 = .ok (.iload 21, 2) := by decide +kernel
theorem dL_law_178 : decode cL_law 178 = .ok (.bipush 29, 2) := by decide +kernel
theorem dL_law_180 : decode cL_law 180 = .ok (.irem, 1) := by decide +kernel
theorem dL_law_181 : decode cL_law 181 = .ok (.istore 22, 2) := by decide +kernel
theorem dL_law_183 : decode cL_law 183 = .ok (.iload 21, 2) := by decide +kernel
theorem dL_law_185 : decode cL_law 185 = .ok (.bipush 29, 2) := by decide +kernel
theorem dL_law_187 : decode cL_law 187 = .ok (.idiv, 1) := by decide +kernel
theorem dL_law_188 : decode cL_law 188 = .ok (.istore 23, 2) := by decide +kernel
theorem dL_law_190 : decode cL_law 190 = .ok (.aload 16, 2) := by decide +kernel
theorem dL_law_192 : decode cL_law 192 = .ok (.iconst 1, 1) := by decide +kernel
theorem dL_law_193 : decode cL_law 193 = .ok (.iaload, 1) := by decide +kernel
theorem dL_law_194 : decode cL_law 194 = .ok (.ifCond .ne 7, 3) := by decide +kernel
