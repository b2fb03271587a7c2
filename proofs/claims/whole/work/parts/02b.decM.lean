theorem dX7_init_0 : decode cX7_init 0 = .ok (.aload_n 0, 1) := by decide +kernel
theorem dX7_init_1 : decode cX7_init 1 = .ok (.invokespecial 3, 3) := by decide +kernel
theorem dX7_init_4 : decode cX7_init 4 = .ok (.aload_n 0, 1) := by decide +kernel
theorem dX7_init_5 : decode cX7_init 5 = .ok (.bipush 8, 2) := by decide +kernel
theorem dX7_init_7 : decode cX7_init 7 = .ok (.newarray .int, 2) := by decide +kernel
theorem dX7_init_9 : decode cX7_init 9 = .ok (.putfield 9, 3) := by decide +kernel
theorem dX7_init_12 : decode cX7_init 12 = .ok (.aload_n 0, 1) := by decide +kernel
theorem dX7_init_13 : decode cX7_init 13 = .ok (.bipush 10, 2) := by decide +kernel
theorem dX7_init_15 : decode cX7_init 15 = .ok (.newarray .int, 2) := by decide +kernel
theorem dX7_init_17 : decode cX7_init 17 = .ok (.putfield 13, 3) := by decide +kernel
theorem dX7_init_20 : decode cX7_init 20 = .ok (.aload_n 0, 1) := by decide +kernel
theorem dX7_init_21 : decode cX7_init 21 = .ok (.bipush 100, 2) := by decide +kernel
theorem dX7_init_23 : decode cX7_init 23 = .ok (.newarray .int, 2) := by decide +kernel
theorem dX7_init_25 : decode cX7_init 25 = .ok (.putfield 16, 3) := by decide +kernel
theorem dX7_init_28 : decode cX7_init 28 = .ok (.aload_n 0, 1) := by decide +kernel
theorem dX7_init_29 : decode cX7_init 29 = .ok (.bipush 48, 2) := by decide +kernel
theorem dX7_init_31 : decode cX7_init 31 = .ok (.newarray .int, 2) := by decide +kernel
theorem dX7_init_33 : decode cX7_init 33 = .ok (.putfield 19, 3) := by decide +kernel
theorem dX7_init_36 : decode cX7_init 36 = .ok (.aload_n 0, 1) := by decide +kernel
theorem dX7_init_37 : decode cX7_init 37 = .ok (.bipush 60, 2) := by decide +kernel
theorem dX7_init_39 : decode cX7_init 39 = .ok (.newarray .int, 2) := by decide +kernel
theorem dX7_init_41 : decode cX7_init 41 = .ok (.putfield 22, 3) := by decide +kernel
theorem dX7_init_44 : decode cX7_init 44 = .ok (.aload_n 0, 1) := by decide +kernel
theorem dX7_init_45 : decode cX7_init 45 = .ok (.bipush 6, 2) := by decide +kernel
theorem dX7_init_47 : decode cX7_init 47 = .ok (.newarray .int, 2) := by decide +kernel
theorem dX7_init_49 : decode cX7_init 49 = .ok (.putfield 25, 3) := by decide +kernel
theorem dX7_init_52 : decode cX7_init 52 = .ok (.aload_n 0, 1) := by decide +kernel
theorem dX7_init_53 : decode cX7_init 53 = .ok (.bipush 6, 2) := by decide +kernel
theorem dX7_init_55 : decode cX7_init 55 = .ok (.newarray .long, 2) := by decide +kernel
theorem dX7_init_57 : decode cX7_init 57 = .ok (.putfield 28, 3) := by decide +kernel
theorem dX7_init_60 : decode cX7_init 60 = .ok (.aload_n 0, 1) := by decide +kernel
theorem dX7_init_61 : decode cX7_init 61 = .ok (.bipush 60, 2) := by decide +kernel
theorem dX7_init_63 : decode cX7_init 63 = .ok (.newarray .int, 2) := by decide +kernel
theorem dX7_init_65 : decode cX7_init 65 = .ok (.putfield 32, 3) := by decide +kernel
theorem dX7_init_68 : decode cX7_init 68 = .ok (.aload_n 0, 1) := by decide +kernel
theorem dX7_init_69 : decode cX7_init 69 = .ok (.bipush 60, 2) := by decide +kernel
theorem dX7_init_71 : decode cX7_init 71 = .ok (.newarray .int, 2) := by decide +kernel
theorem dX7_init_73 : decode cX7_init 73 = .ok (.putfield 35, 3) := by decide +kernel
theorem dX7_init_76 : decode cX7_init 76 = .ok (.aload_n 0, 1) := by decide +kernel
theorem dX7_init_77 : decode cX7_init 77 = .ok (.bipush 60, 2) := by decide +kernel
theorem dX7_init_79 : decode cX7_init 79 = .ok (.newarray .int, 2) := by decide +kernel
theorem dX7_init_81 : decode cX7_init 81 = .ok (.putfield 38, 3) := by decide +kernel
theorem dX7_init_84 : decode cX7_init 84 = .ok (.aload_n 0, 1) := by decide +kernel
theorem dX7_init_85 : decode cX7_init 85 = .ok (.bipush 60, 2) := by decide +kernel
theorem dX7_init_87 : decode cX7_init 87 = .ok (.newarray .int, 2) := by decide +kernel
theorem dX7_init_89 : decode cX7_init 89 = .ok (.putfield 41, 3) := by decide +kernel
theorem dX7_init_92 : decode cX7_init 92 = .ok (.aload_n 0, 1) := by decide +kernel
theorem dX7_init_93 : decode cX7_init 93 = .ok (.bipush 60, 2) := by decide +kernel
theorem dX7_init_95 : decode cX7_init 95 = .ok (.newarray .int, 2) := by decide +kernel
theorem dX7_init_97 : decode cX7_init 97 = .ok (.putfield 44, 3) := by decide +kernel
theorem dX7_init_100 : decode cX7_init 100 = .ok (.aload_n 0, 1) := by decide +kernel
theorem dX7_init_101 : decode cX7_init 101 = .ok (.bipush 60, 2) := by decide +kernel
theorem dX7_init_103 : decode cX7_init 103 = .ok (.newarray .long, 2) := by decide +kernel
theorem dX7_init_105 : decode cX7_init 105 = .ok (.putfield 47, 3) := by decide +kernel
theorem dX7_init_108 : decode cX7_init 108 = .ok (.aload_n 0, 1) := by decide +kernel
theorem dX7_init_109 : decode cX7_init 109 = .ok (.bipush 60, 2) := by decide +kernel
theorem dX7_init_111 : decode cX7_init 111 = .ok (.newarray .boolean, 2) := by decide +kernel
theorem dX7_init_113 : decode cX7_init 113 = .ok (.putfield 50, 3) := by decide +kernel
theorem dX7_init_116 : decode cX7_init 116 = .ok (.aload_n 0, 1) := by decide +kernel
theorem dX7_init_117 : decode cX7_init 117 = .ok (.bipush 60, 2) := by decide +kernel
theorem dX7_init_119 : decode cX7_init 119 = .ok (.newarray .boolean, 2) := by decide +kernel
theorem dX7_init_121 : decode cX7_init 121 = .ok (.putfield 54, 3) := by decide +kernel
theorem dX7_init_124 : decode cX7_init 124 = .ok (.aload_n 0, 1) := by decide +kernel
theorem dX7_init_125 : decode cX7_init 125 = .ok (.bipush 60, 2) := by decide +kernel
theorem dX7_init_127 : decode cX7_init 127 = .ok (.newarray .int, 2) := by decide +kernel
theorem dX7_init_129 : decode cX7_init 129 = .ok (.putfield 57, 3) := by decide +kernel
theorem dX7_init_132 : decode cX7_init 132 = .ok (.aload_n 0, 1) := by decide +kernel
theorem dX7_init_133 : decode cX7_init 133 = .ok (.bipush 60, 2) := by decide +kernel
theorem dX7_init_135 : decode cX7_init 135 = .ok (.newarray .int, 2) := by decide +kernel
theorem dX7_init_137 : decode cX7_init 137 = .ok (.putfield 60, 3) := by decide +kernel
theorem dX7_init_140 : decode cX7_init 140 = .ok (.aload_n 0, 1) := by decide +kernel
theorem dX7_init_141 : decode cX7_init 141 = .ok (.bipush 60, 2) := by decide +kernel
theorem dX7_init_143 : decode cX7_init 143 = .ok (.newarray .boolean, 2) := by decide +kernel
theorem dX7_init_145 : decode cX7_init 145 = .ok (.putfield 63, 3) := by decide +kernel
theorem dX7_init_148 : decode cX7_init 148 = .ok (.aload_n 0, 1) := by decide +kernel
theorem dX7_init_149 : decode cX7_init 149 = .ok (.bipush 10, 2) := by decide +kernel
theorem dX7_init_151 : decode cX7_init 151 = .ok (.newarray .long, 2) := by decide +kernel
theorem dX7_init_153 : decode cX7_init 153 = .ok (.putfield 66, 3) := by decide +kernel
theorem dX7_init_156 : decode cX7_init 156 = .ok (.aload_n 0, 1) := by decide +kernel
theorem dX7_init_157 : decode cX7_init 157 = .ok (.bipush 10, 2) := by decide +kernel
theorem dX7_init_159 : decode cX7_init 159 = .ok (.newarray .int, 2) := by decide +kernel
theorem dX7_init_161 : decode cX7_init 161 = .ok (.putfield 69, 3) := by decide +kernel
theorem dX7_init_164 : decode cX7_init 164 = .ok (.aload_n 0, 1) := by decide +kernel
theorem dX7_init_165 : decode cX7_init 165 = .ok (.bipush 10, 2) := by decide +kernel
theorem dX7_init_167 : decode cX7_init 167 = .ok (.newarray .int, 2) := by decide +kernel
theorem dX7_init_169 : decode cX7_init 169 = .ok (.putfield 72, 3) := by decide +kernel
theorem dX7_init_172 : decode cX7_init 172 = .ok (.aload_n 0, 1) := by decide +kernel
theorem dX7_init_173 : decode cX7_init 173 = .ok (.bipush 8, 2) := by decide +kernel
theorem dX7_init_175 : decode cX7_init 175 = .ok (.newarray .int, 2) := by decide +kernel
theorem dX7_init_177 : decode cX7_init 177 = .ok (.putfield 75, 3) := by decide +kernel
theorem dX7_init_180 : decode cX7_init 180 = .ok (.aload_n 0, 1) := by decide +kernel
theorem dX7_init_181 : decode cX7_init 181 = .ok (.bipush 60, 2) := by decide +kernel
theorem dX7_init_183 : decode cX7_init 183 = .ok (.newarray .boolean, 2) := by decide +kernel
theorem dX7_init_185 : decode cX7_init 185 = .ok (.putfield 78, 3) := by decide +kernel
theorem dX7_init_188 : decode cX7_init 188 = .ok (.aload_n 0, 1) := by decide +kernel
theorem dX7_init_189 : decode cX7_init 189 = .ok (.iconst 0, 1) := by decide +kernel
theorem dX7_init_190 : decode cX7_init 190 = .ok (.putfield 81, 3) := by decide +kernel
theorem dX7_init_193 : decode cX7_init 193 = .ok (.return_, 1) := by decide +kernel
theorem dX7_thrown_0 : decode cX7_thrown 0 = .ok (.aload_n 0, 1) := by decide +kernel
theorem dX7_thrown_1 : decode cX7_thrown 1 = .ok (.getfield 81, 3) := by decide +kernel
theorem dX7_thrown_4 : decode cX7_thrown 4 = .ok (.ireturn, 1) := by decide +kernel
theorem dX7_in_0 : decode cX7_in 0 = .ok (.iload_n 0, 1) := by decide +kernel
theorem dX7_in_1 : decode cX7_in 1 = .ok (.iload_n 1, 1) := by decide +kernel
theorem dX7_in_2 : decode cX7_in 2 = .ok (.if_icmp .lt 12, 3) := by decide +kernel
theorem dX7_in_5 : decode cX7_in 5 = .ok (.iload_n 0, 1) := by decide +kernel
theorem dX7_in_6 : decode cX7_in 6 = .ok (.iload_n 2, 1) := by decide +kernel
theorem dX7_in_7 : decode cX7_in 7 = .ok (.if_icmp .gt 7, 3) := by decide +kernel
theorem dX7_in_10 : decode cX7_in 10 = .ok (.iconst 1, 1) := by decide +kernel
theorem dX7_in_11 : decode cX7_in 11 = .ok (.goto 4, 3) := by decide +kernel
theorem dX7_in_14 : decode cX7_in 14 = .ok (.iconst 0, 1) := by decide +kernel
theorem dX7_in_15 : decode cX7_in 15 = .ok (.ireturn, 1) := by decide +kernel
theorem dX7_isLand_0 : decode cX7_isLand 0 = .ok (.iload_n 0, 1) := by decide +kernel
theorem dX7_isLand_1 : decode cX7_isLand 1 = .ok (.iconst 0, 1) := by decide +kernel
theorem dX7_isLand_2 : decode cX7_isLand 2 = .ok (.iconst 3, 1) := by decide +kernel
theorem dX7_isLand_3 : decode cX7_isLand 3 = .ok (.invokestatic 85, 3) := by decide +kernel
theorem dX7_isLand_6 : decode cX7_isLand 6 = .ok (.ireturn, 1) := by decide +kernel
theorem dX7_isParty_0 : decode cX7_isParty 0 = .ok (.iload_n 1, 1) := by decide +kernel
theorem dX7_isParty_1 : decode cX7_isParty 1 = .ok (.iconst 0, 1) := by decide +kernel
theorem dX7_isParty_2 : decode cX7_isParty 2 = .ok (.aload_n 0, 1) := by decide +kernel
theorem dX7_isParty_3 : decode cX7_isParty 3 = .ok (.getfield 89, 3) := by decide +kernel
theorem dX7_isParty_6 : decode cX7_isParty 6 = .ok (.iconst 1, 1) := by decide +kernel
theorem dX7_isParty_7 : decode cX7_isParty 7 = .ok (.isub, 1) := by decide +kernel
theorem dX7_isParty_8 : decode cX7_isParty 8 = .ok (.invokestatic 85, 3) := by decide +kernel
theorem dX7_isParty_11 : decode cX7_isParty 11 = .ok (.ireturn, 1) := by decide +kernel
theorem dX7_isShip_0 : decode cX7_isShip 0 = .ok (.iload_n 1, 1) := by decide +kernel
theorem dX7_isShip_1 : decode cX7_isShip 1 = .ok (.iconst 0, 1) := by decide +kernel
theorem dX7_isShip_2 : decode cX7_isShip 2 = .ok (.aload_n 0, 1) := by decide +kernel
theorem dX7_isShip_3 : decode cX7_isShip 3 = .ok (.getfield 92, 3) := by decide +kernel
theorem dX7_isShip_6 : decode cX7_isShip 6 = .ok (.iconst 1, 1) := by decide +kernel
theorem dX7_isShip_7 : decode cX7_isShip 7 = .ok (.isub, 1) := by decide +kernel
theorem dX7_isShip_8 : decode cX7_isShip 8 = .ok (.invokestatic 85, 3) := by decide +kernel
theorem dX7_isShip_11 : decode cX7_isShip 11 = .ok (.ireturn, 1) := by decide +kernel
theorem dX7_isMortgage_0 : decode cX7_isMortgage 0 = .ok (.iload_n 1, 1) := by decide +kernel
theorem dX7_isMortgage_1 : decode cX7_isMortgage 1 = .ok (.iconst 0, 1) := by decide +kernel
theorem dX7_isMortgage_2 : decode cX7_isMortgage 2 = .ok (.aload_n 0, 1) := by decide +kernel
theorem dX7_isMortgage_3 : decode cX7_isMortgage 3 = .ok (.getfield 95, 3) := by decide +kernel
theorem dX7_isMortgage_6 : decode cX7_isMortgage 6 = .ok (.iconst 1, 1) := by decide +kernel
theorem dX7_isMortgage_7 : decode cX7_isMortgage 7 = .ok (.isub, 1) := by decide +kernel
theorem dX7_isMortgage_8 : decode cX7_isMortgage 8 = .ok (.invokestatic 85, 3) := by decide +kernel
theorem dX7_isMortgage_11 : decode cX7_isMortgage 11 = .ok (.ireturn, 1) := by decide +kernel
theorem dX7_letter_0 : decode cX7_letter 0 = .ok (.aload_n 0, 1) := by decide +kernel
theorem dX7_letter_1 : decode cX7_letter 1 = .ok (.iload_n 1, 1) := by decide +kernel
theorem dX7_letter_2 : decode cX7_letter 2 = .ok (.bipush 97, 2) := by decide +kernel
theorem dX7_letter_4 : decode cX7_letter 4 = .ok (.if_icmp .lt 9, 3) := by decide +kernel
theorem dX7_letter_7 : decode cX7_letter 7 = .ok (.iload_n 1, 1) := by decide +kernel
theorem dX7_letter_8 : decode cX7_letter 8 = .ok (.bipush 122, 2) := by decide +kernel
theorem dX7_letter_10 : decode cX7_letter 10 = .ok (.if_icmp .le 7, 3) := by decide +kernel
theorem dX7_letter_13 : decode cX7_letter 13 = .ok (.iconst 1, 1) := by decide +kernel
theorem dX7_letter_14 : decode cX7_letter 14 = .ok (.goto 17, 3) := by decide +kernel
theorem dX7_letter_17 : decode cX7_letter 17 = .ok (.aload_n 0, 1) := by decide +kernel
theorem dX7_letter_18 : decode cX7_letter 18 = .ok (.getfield 98, 3) := by decide +kernel
theorem dX7_letter_21 : decode cX7_letter 21 = .ok (.bipush 8, 2) := by decide +kernel
theorem dX7_letter_23 : decode cX7_letter 23 = .ok (.if_icmp .ne 7, 3) := by decide +kernel
theorem dX7_letter_26 : decode cX7_letter 26 = .ok (.iconst 2, 1) := by decide +kernel
theorem dX7_letter_27 : decode cX7_letter 27 = .ok (.goto 4, 3) := by decide +kernel
theorem dX7_letter_30 : decode cX7_letter 30 = .ok (.iconst 0, 1) := by decide +kernel
theorem dX7_letter_31 : decode cX7_letter 31 = .ok (.putfield 81, 3) := by decide +kernel
theorem dX7_letter_34 : decode cX7_letter 34 = .ok (.aload_n 0, 1) := by decide +kernel
theorem dX7_letter_35 : decode cX7_letter 35 = .ok (.getfield 81, 3) := by decide +kernel
theorem dX7_letter_38 : decode cX7_letter 38 = .ok (.ifCond .le 5, 3) := by decide +kernel
theorem dX7_letter_41 : decode cX7_letter 41 = .ok (.iconst 0, 1) := by decide +kernel
theorem dX7_letter_42 : decode cX7_letter 42 = .ok (.ireturn, 1) := by decide +kernel
theorem dX7_letter_43 : decode cX7_letter 43 = .ok (.aload_n 0, 1) := by decide +kernel
theorem dX7_letter_44 : decode cX7_letter 44 = .ok (.getfield 9, 3) := by decide +kernel
theorem dX7_letter_47 : decode cX7_letter 47 = .ok (.aload_n 0, 1) := by decide +kernel
theorem dX7_letter_48 : decode cX7_letter 48 = .ok (.getfield 98, 3) := by decide +kernel
theorem dX7_letter_51 : decode cX7_letter 51 = .ok (.iload_n 1, 1) := by decide +kernel
theorem dX7_letter_52 : decode cX7_letter 52 = .ok (.iastore, 1) := by decide +kernel
theorem dX7_letter_53 : decode cX7_letter 53 = .ok (.aload_n 0, 1) := by decide +kernel
theorem dX7_letter_54 : decode cX7_letter 54 = .ok (.dup, 1) := by decide +kernel
theorem dX7_letter_55 : decode cX7_letter 55 = .ok (.getfield 98, 3) := by decide +kernel
theorem dX7_letter_58 : decode cX7_letter 58 = .ok (.iconst 1, 1) := by decide +kernel
theorem dX7_letter_59 : decode cX7_letter 59 = .ok (.iadd, 1) := by decide +kernel
theorem dX7_letter_60 : decode cX7_letter 60 = .ok (.putfield 98, 3) := by decide +kernel
theorem dX7_letter_63 : decode cX7_letter 63 = .ok (.aload_n 0, 1) := by decide +kernel
theorem dX7_letter_64 : decode cX7_letter 64 = .ok (.getfield 98, 3) := by decide +kernel
theorem dX7_letter_67 : decode cX7_letter 67 = .ok (.ireturn, 1) := by decide +kernel
theorem dX7_person_0 : decode cX7_person 0 = .ok (.aload_n 0, 1) := by decide +kernel
theorem dX7_person_1 : decode cX7_person 1 = .ok (.iload_n 1, 1) := by decide +kernel
theorem dX7_person_2 : decode cX7_person 2 = .ok (.invokestatic 101, 3) := by decide +kernel
theorem dX7_person_5 : decode cX7_person 5 = .ok (.ifCond .ne 7, 3) := by decide +kernel
theorem dX7_person_8 : decode cX7_person 8 = .ok (.iconst 1, 1) := by decide +kernel
theorem dX7_person_9 : decode cX7_person 9 = .ok (.goto 17, 3) := by decide +kernel
theorem dX7_person_12 : decode cX7_person 12 = .ok (.aload_n 0, 1) := by decide +kernel
theorem dX7_person_13 : decode cX7_person 13 = .ok (.getfield 89, 3) := by decide +kernel
theorem dX7_person_16 : decode cX7_person 16 = .ok (.bipush 10, 2) := by decide +kernel
theorem dX7_person_18 : decode cX7_person 18 = .ok (.if_icmp .ne 7, 3) := by decide +kernel
theorem dX7_person_21 : decode cX7_person 21 = .ok (.iconst 2, 1) := by decide +kernel
theorem dX7_person_22 : decode cX7_person 22 = .ok (.goto 4, 3) := by decide +kernel
theorem dX7_person_25 : decode cX7_person 25 = .ok (.iconst 0, 1) := by decide +kernel
theorem dX7_person_26 : decode cX7_person 26 = .ok (.putfield 81, 3) := by decide +kernel
theorem dX7_person_29 : decode cX7_person 29 = .ok (.aload_n 0, 1) := by decide +kernel
theorem dX7_person_30 : decode cX7_person 30 = .ok (.getfield 81, 3) := by decide +kernel
theorem dX7_person_33 : decode cX7_person 33 = .ok (.ifCond .le 5, 3) := by decide +kernel
theorem dX7_person_36 : decode cX7_person 36 = .ok (.iconst 0, 1) := by decide +kernel
theorem dX7_person_37 : decode cX7_person 37 = .ok (.ireturn, 1) := by decide +kernel
theorem dX7_person_38 : decode cX7_person 38 = .ok (.aload_n 0, 1) := by decide +kernel
theorem dX7_person_39 : decode cX7_person 39 = .ok (.getfield 13, 3) := by decide +kernel
theorem dX7_person_42 : decode cX7_person 42 = .ok (.aload_n 0, 1) := by decide +kernel
theorem dX7_person_43 : decode cX7_person 43 = .ok (.getfield 89, 3) := by decide +kernel
theorem dX7_person_46 : decode cX7_person 46 = .ok (.iload_n 1, 1) := by decide +kernel
theorem dX7_person_47 : decode cX7_person 47 = .ok (.iastore, 1) := by decide +kernel
theorem dX7_person_48 : decode cX7_person 48 = .ok (.aload_n 0, 1) := by decide +kernel
theorem dX7_person_49 : decode cX7_person 49 = .ok (.dup, 1) := by decide +kernel
theorem dX7_person_50 : decode cX7_person 50 = .ok (.getfield 89, 3) := by decide +kernel
theorem dX7_person_53 : decode cX7_person 53 = .ok (.iconst 1, 1) := by decide +kernel
theorem dX7_person_54 : decode cX7_person 54 = .ok (.iadd, 1) := by decide +kernel
theorem dX7_person_55 : decode cX7_person 55 = .ok (.putfield 89, 3) := by decide +kernel
theorem dX7_person_58 : decode cX7_person 58 = .ok (.aload_n 0, 1) := by decide +kernel
theorem dX7_person_59 : decode cX7_person 59 = .ok (.getfield 89, 3) := by decide +kernel
theorem dX7_person_62 : decode cX7_person 62 = .ok (.iconst 1, 1) := by decide +kernel
theorem dX7_person_63 : decode cX7_person 63 = .ok (.isub, 1) := by decide +kernel
theorem dX7_person_64 : decode cX7_person 64 = .ok (.ireturn, 1) := by decide +kernel
theorem dX7_company_0 : decode cX7_company 0 = .ok (.aload_n 0, 1) := by decide +kernel
theorem dX7_company_1 : decode cX7_company 1 = .ok (.aload_n 0, 1) := by decide +kernel
theorem dX7_company_2 : decode cX7_company 2 = .ok (.getfield 89, 3) := by decide +kernel
theorem dX7_company_5 : decode cX7_company 5 = .ok (.bipush 10, 2) := by decide +kernel
theorem dX7_company_7 : decode cX7_company 7 = .ok (.if_icmp .ne 7, 3) := by decide +kernel
theorem dX7_company_10 : decode cX7_company 10 = .ok (.iconst 1, 1) := by decide +kernel
theorem dX7_company_11 : decode cX7_company 11 = .ok (.goto 4, 3) := by decide +kernel
theorem dX7_company_14 : decode cX7_company 14 = .ok (.iconst 0, 1) := by decide +kernel
theorem dX7_company_15 : decode cX7_company 15 = .ok (.putfield 81, 3) := by decide +kernel
theorem dX7_company_18 : decode cX7_company 18 = .ok (.aload_n 0, 1) := by decide +kernel
theorem dX7_company_19 : decode cX7_company 19 = .ok (.getfield 81, 3) := by decide +kernel
theorem dX7_company_22 : decode cX7_company 22 = .ok (.ifCond .le 5, 3) := by decide +kernel
theorem dX7_company_25 : decode cX7_company 25 = .ok (.iconst 0, 1) := by decide +kernel
theorem dX7_company_26 : decode cX7_company 26 = .ok (.ireturn, 1) := by decide +kernel
theorem dX7_company_27 : decode cX7_company 27 = .ok (.aload_n 0, 1) := by decide +kernel
theorem dX7_company_28 : decode cX7_company 28 = .ok (.getfield 13, 3) := by decide +kernel
theorem dX7_company_31 : decode cX7_company 31 = .ok (.aload_n 0, 1) := by decide +kernel
theorem dX7_company_32 : decode cX7_company 32 = .ok (.getfield 89, 3) := by decide +kernel
theorem dX7_company_35 : decode cX7_company 35 = .ok (.iconst (-1), 1) := by decide +kernel
theorem dX7_company_36 : decode cX7_company 36 = .ok (.iastore, 1) := by decide +kernel
theorem dX7_company_37 : decode cX7_company 37 = .ok (.aload_n 0, 1) := by decide +kernel
theorem dX7_company_38 : decode cX7_company 38 = .ok (.dup, 1) := by decide +kernel
theorem dX7_company_39 : decode cX7_company 39 = .ok (.getfield 89, 3) := by decide +kernel
theorem dX7_company_42 : decode cX7_company 42 = .ok (.iconst 1, 1) := by decide +kernel
theorem dX7_company_43 : decode cX7_company 43 = .ok (.iadd, 1) := by decide +kernel
theorem dX7_company_44 : decode cX7_company 44 = .ok (.putfield 89, 3) := by decide +kernel
theorem dX7_company_47 : decode cX7_company 47 = .ok (.aload_n 0, 1) := by decide +kernel
theorem dX7_company_48 : decode cX7_company 48 = .ok (.getfield 89, 3) := by decide +kernel
theorem dX7_company_51 : decode cX7_company 51 = .ok (.iconst 1, 1) := by decide +kernel
theorem dX7_company_52 : decode cX7_company 52 = .ok (.isub, 1) := by decide +kernel
theorem dX7_company_53 : decode cX7_company 53 = .ok (.ireturn, 1) := by decide +kernel
theorem dX7_part_0 : decode cX7_part 0 = .ok (.aload_n 0, 1) := by decide +kernel
theorem dX7_part_1 : decode cX7_part 1 = .ok (.aload_n 0, 1) := by decide +kernel
theorem dX7_part_2 : decode cX7_part 2 = .ok (.iload_n 1, 1) := by decide +kernel
theorem dX7_part_3 : decode cX7_part 3 = .ok (.invokevirtual 105, 3) := by decide +kernel
theorem dX7_part_6 : decode cX7_part 6 = .ok (.ifCond .eq 11, 3) := by decide +kernel
theorem dX7_part_9 : decode cX7_part 9 = .ok (.aload_n 0, 1) := by decide +kernel
theorem dX7_part_10 : decode cX7_part 10 = .ok (.iload_n 2, 1) := by decide +kernel
theorem dX7_part_11 : decode cX7_part 11 = .ok (.invokevirtual 105, 3) := by decide +kernel
theorem dX7_part_14 : decode cX7_part 14 = .ok (.ifCond .ne 7, 3) := by decide +kernel
theorem dX7_part_17 : decode cX7_part 17 = .ok (.iconst 1, 1) := by decide +kernel
theorem dX7_part_18 : decode cX7_part 18 = .ok (.goto 18, 3) := by decide +kernel
theorem dX7_part_21 : decode cX7_part 21 = .ok (.iload_n 3, 1) := by decide +kernel
theorem dX7_part_22 : decode cX7_part 22 = .ok (.iconst 0, 1) := by decide +kernel
theorem dX7_part_23 : decode cX7_part 23 = .ok (.bipush 64, 2) := by decide +kernel
theorem dX7_part_25 : decode cX7_part 25 = .ok (.invokestatic 85, 3) := by decide +kernel
theorem dX7_part_28 : decode cX7_part 28 = .ok (.ifCond .ne 7, 3) := by decide +kernel
theorem dX7_part_31 : decode cX7_part 31 = .ok (.iconst 2, 1) := by decide +kernel
theorem dX7_part_32 : decode cX7_part 32 = .ok (.goto 4, 3) := by decide +kernel
theorem dX7_part_35 : decode cX7_part 35 = .ok (.iconst 0, 1) := by decide +kernel
theorem dX7_part_36 : decode cX7_part 36 = .ok (.putfield 81, 3) := by decide +kernel
theorem dX7_part_39 : decode cX7_part 39 = .ok (.aload_n 0, 1) := by decide +kernel
theorem dX7_part_40 : decode cX7_part 40 = .ok (.getfield 81, 3) := by decide +kernel
theorem dX7_part_43 : decode cX7_part 43 = .ok (.ifCond .ne 79, 3) := by decide +kernel
theorem dX7_part_46 : decode cX7_part 46 = .ok (.iload_n 3, 1) := by decide +kernel
theorem dX7_part_47 : decode cX7_part 47 = .ok (.aload_n 0, 1) := by decide +kernel
theorem dX7_part_48 : decode cX7_part 48 = .ok (.getfield 16, 3) := by decide +kernel
theorem dX7_part_51 : decode cX7_part 51 = .ok (.bipush 10, 2) := by decide +kernel
theorem dX7_part_53 : decode cX7_part 53 = .ok (.iload_n 1, 1) := by decide +kernel
theorem dX7_part_54 : decode cX7_part 54 = .ok (.imul, 1) := by decide +kernel
theorem dX7_part_55 : decode cX7_part 55 = .ok (.iload_n 2, 1) := by decide +kernel
theorem dX7_part_56 : decode cX7_part 56 = .ok (.iadd, 1) := by decide +kernel
theorem dX7_part_57 : decode cX7_part 57 = .ok (.iaload, 1) := by decide +kernel
theorem dX7_part_58 : decode cX7_part 58 = .ok (.isub, 1) := by decide +kernel
theorem dX7_part_59 : decode cX7_part 59 = .ok (.istore 4, 2) := by decide +kernel
theorem dX7_part_61 : decode cX7_part 61 = .ok (.iconst 0, 1) := by decide +kernel
theorem dX7_part_62 : decode cX7_part 62 = .ok (.istore 5, 2) := by decide +kernel
theorem dX7_part_64 : decode cX7_part 64 = .ok (.iload 5, 2) := by decide +kernel
theorem dX7_part_66 : decode cX7_part 66 = .ok (.aload_n 0, 1) := by decide +kernel
theorem dX7_part_67 : decode cX7_part 67 = .ok (.getfield 89, 3) := by decide +kernel
theorem dX7_part_70 : decode cX7_part 70 = .ok (.if_icmp .ge 26, 3) := by decide +kernel
theorem dX7_part_73 : decode cX7_part 73 = .ok (.iload 4, 2) := by decide +kernel
theorem dX7_part_75 : decode cX7_part 75 = .ok (.aload_n 0, 1) := by decide +kernel
theorem dX7_part_76 : decode cX7_part 76 = .ok (.getfield 16, 3) := by decide +kernel
theorem dX7_part_79 : decode cX7_part 79 = .ok (.bipush 10, 2) := by decide +kernel
theorem dX7_part_81 : decode cX7_part 81 = .ok (.iload_n 1, 1) := by decide +kernel
theorem dX7_part_82 : decode cX7_part 82 = .ok (.imul, 1) := by decide +kernel
theorem dX7_part_83 : decode cX7_part 83 = .ok (.iload 5, 2) := by decide +kernel
theorem dX7_part_85 : decode cX7_part 85 = .ok (.iadd, 1) := by decide +kernel
theorem dX7_part_86 : decode cX7_part 86 = .ok (.iaload, 1) := by decide +kernel
theorem dX7_part_87 : decode cX7_part 87 = .ok (.iadd, 1) := by decide +kernel
theorem dX7_part_88 : decode cX7_part 88 = .ok (.istore 4, 2) := by decide +kernel
theorem dX7_part_90 : decode cX7_part 90 = .ok (.iinc 5 1, 3) := by decide +kernel
theorem dX7_part_93 : decode cX7_part 93 = .ok (.goto (-29), 3) := by decide +kernel
theorem dX7_part_96 : decode cX7_part 96 = .ok (.aload_n 0, 1) := by decide +kernel
theorem dX7_part_97 : decode cX7_part 97 = .ok (.aload_n 0, 1) := by decide +kernel
theorem dX7_part_98 : decode cX7_part 98 = .ok (.getfield 13, 3) := by decide +kernel
theorem dX7_part_101 : decode cX7_part 101 = .ok (.iload_n 1, 1) := by decide +kernel
theorem dX7_part_102 : decode cX7_part 102 = .ok (.iaload, 1) := by decide +kernel
theorem dX7_part_103 : decode cX7_part 103 = .ok (.iconst (-1), 1) := by decide +kernel
theorem dX7_part_104 : decode cX7_part 104 = .ok (.if_icmp .ne 10, 3) := by decide +kernel
theorem dX7_part_107 : decode cX7_part 107 = .ok (.iload 4, 2) := by decide +kernel
theorem dX7_part_109 : decode cX7_part 109 = .ok (.bipush 64, 2) := by decide +kernel
theorem dX7_part_111 : decode cX7_part 111 = .ok (.if_icmp .le 7, 3) := by decide +kernel
theorem dX7_part_114 : decode cX7_part 114 = .ok (.iconst 3, 1) := by decide +kernel
theorem dX7_part_115 : decode cX7_part 115 = .ok (.goto 4, 3) := by decide +kernel
theorem dX7_part_118 : decode cX7_part 118 = .ok (.iconst 0, 1) := by decide +kernel
theorem dX7_part_119 : decode cX7_part 119 = .ok (.putfield 81, 3) := by decide +kernel
theorem dX7_part_122 : decode cX7_part 122 = .ok (.aload_n 0, 1) := by decide +kernel
theorem dX7_part_123 : decode cX7_part 123 = .ok (.getfield 81, 3) := by decide +kernel
theorem dX7_part_126 : decode cX7_part 126 = .ok (.ifCond .le 5, 3) := by decide +kernel
theorem dX7_part_129 : decode cX7_part 129 = .ok (.iconst 0, 1) := by decide +kernel
theorem dX7_part_130 : decode cX7_part 130 = .ok (.ireturn, 1) := by decide +kernel
theorem dX7_part_131 : decode cX7_part 131 = .ok (.aload_n 0, 1) := by decide +kernel
theorem dX7_part_132 : decode cX7_part 132 = .ok (.getfield 16, 3) := by decide +kernel
theorem dX7_part_135 : decode cX7_part 135 = .ok (.bipush 10, 2) := by decide +kernel
theorem dX7_part_137 : decode cX7_part 137 = .ok (.iload_n 1, 1) := by decide +kernel
theorem dX7_part_138 : decode cX7_part 138 = .ok (.imul, 1) := by decide +kernel
theorem dX7_part_139 : decode cX7_part 139 = .ok (.iload_n 2, 1) := by decide +kernel
theorem dX7_part_140 : decode cX7_part 140 = .ok (.iadd, 1) := by decide +kernel
theorem dX7_part_141 : decode cX7_part 141 = .ok (.iaload, 1) := by decide +kernel
theorem dX7_part_142 : decode cX7_part 142 = .ok (.istore 4, 2) := by decide +kernel
theorem dX7_part_144 : decode cX7_part 144 = .ok (.aload_n 0, 1) := by decide +kernel
theorem dX7_part_145 : decode cX7_part 145 = .ok (.getfield 16, 3) := by decide +kernel
theorem dX7_part_148 : decode cX7_part 148 = .ok (.bipush 10, 2) := by decide +kernel
theorem dX7_part_150 : decode cX7_part 150 = .ok (.iload_n 1, 1) := by decide +kernel
theorem dX7_part_151 : decode cX7_part 151 = .ok (.imul, 1) := by decide +kernel
theorem dX7_part_152 : decode cX7_part 152 = .ok (.iload_n 2, 1) := by decide +kernel
theorem dX7_part_153 : decode cX7_part 153 = .ok (.iadd, 1) := by decide +kernel
theorem dX7_part_154 : decode cX7_part 154 = .ok (.iload_n 3, 1) := by decide +kernel
theorem dX7_part_155 : decode cX7_part 155 = .ok (.iastore, 1) := by decide +kernel
theorem dX7_part_156 : decode cX7_part 156 = .ok (.iconst 0, 1) := by decide +kernel
theorem dX7_part_157 : decode cX7_part 157 = .ok (.istore 5, 2) := by decide +kernel
theorem dX7_part_159 : decode cX7_part 159 = .ok (.iload 5, 2) := by decide +kernel
theorem dX7_part_161 : decode cX7_part 161 = .ok (.aload_n 0, 1) := by decide +kernel
theorem dX7_part_162 : decode cX7_part 162 = .ok (.getfield 92, 3) := by decide +kernel
theorem dX7_part_165 : decode cX7_part 165 = .ok (.if_icmp .ge 15, 3) := by decide +kernel
theorem dX7_part_168 : decode cX7_part 168 = .ok (.aload_n 0, 1) := by decide +kernel
theorem dX7_part_169 : decode cX7_part 169 = .ok (.iload 5, 2) := by decide +kernel
theorem dX7_part_171 : decode cX7_part 171 = .ok (.invokevirtual 108, 3) := by decide +kernel
theorem dX7_part_174 : decode cX7_part 174 = .ok (.iinc 5 1, 3) := by decide +kernel
theorem dX7_part_177 : decode cX7_part 177 = .ok (.goto (-18), 3) := by decide +kernel
theorem dX7_part_180 : decode cX7_part 180 = .ok (.iload 4, 2) := by decide +kernel
theorem dX7_part_182 : decode cX7_part 182 = .ok (.ireturn, 1) := by decide +kernel
theorem dX7_landOf_0 : decode cX7_landOf 0 = .ok (.iconst 0, 1) := by decide +kernel
theorem dX7_landOf_1 : decode cX7_landOf 1 = .ok (.istore_n 2, 1) := by decide +kernel
theorem dX7_landOf_2 : decode cX7_landOf 2 = .ok (.iload_n 2, 1) := by decide +kernel
theorem dX7_landOf_3 : decode cX7_landOf 3 = .ok (.iconst 4, 1) := by decide +kernel
theorem dX7_landOf_4 : decode cX7_landOf 4 = .ok (.if_icmp .ge 67, 3) := by decide +kernel
theorem dX7_landOf_7 : decode cX7_landOf 7 = .ok (.iconst 0, 1) := by decide +kernel
theorem dX7_landOf_8 : decode cX7_landOf 8 = .ok (.istore_n 3, 1) := by decide +kernel
theorem dX7_landOf_9 : decode cX7_landOf 9 = .ok (.iconst 0, 1) := by decide +kernel
theorem dX7_landOf_10 : decode cX7_landOf 10 = .ok (.istore 4, 2) := by decide +kernel
theorem dX7_landOf_12 : decode cX7_landOf 12 = .ok (.iload 4, 2) := by decide +kernel
theorem dX7_landOf_14 : decode cX7_landOf 14 = .ok (.aload_n 0, 1) := by decide +kernel
theorem dX7_landOf_15 : decode cX7_landOf 15 = .ok (.getfield 89, 3) := by decide +kernel
theorem dX7_landOf_18 : decode cX7_landOf 18 = .ok (.if_icmp .ge 39, 3) := by decide +kernel
theorem dX7_landOf_21 : decode cX7_landOf 21 = .ok (.iload_n 3, 1) := by decide +kernel
theorem dX7_landOf_22 : decode cX7_landOf 22 = .ok (.aload_n 0, 1) := by decide +kernel
theorem dX7_landOf_23 : decode cX7_landOf 23 = .ok (.getfield 69, 3) := by decide +kernel
theorem dX7_landOf_26 : decode cX7_landOf 26 = .ok (.iload 4, 2) := by decide +kernel
theorem dX7_landOf_28 : decode cX7_landOf 28 = .ok (.iaload, 1) := by decide +kernel
theorem dX7_landOf_29 : decode cX7_landOf 29 = .ok (.iload_n 2, 1) := by decide +kernel
theorem dX7_landOf_30 : decode cX7_landOf 30 = .ok (.if_icmp .ne 18, 3) := by decide +kernel
theorem dX7_landOf_33 : decode cX7_landOf 33 = .ok (.aload_n 0, 1) := by decide +kernel
theorem dX7_landOf_34 : decode cX7_landOf 34 = .ok (.getfield 16, 3) := by decide +kernel
theorem dX7_landOf_37 : decode cX7_landOf 37 = .ok (.bipush 10, 2) := by decide +kernel
theorem dX7_landOf_39 : decode cX7_landOf 39 = .ok (.iload_n 1, 1) := by decide +kernel
theorem dX7_landOf_40 : decode cX7_landOf 40 = .ok (.imul, 1) := by decide +kernel
theorem dX7_landOf_41 : decode cX7_landOf 41 = .ok (.iload 4, 2) := by decide +kernel
theorem dX7_landOf_43 : decode cX7_landOf 43 = .ok (.iadd, 1) := by decide +kernel
theorem dX7_landOf_44 : decode cX7_landOf 44 = .ok (.iaload, 1) := by decide +kernel
theorem dX7_landOf_45 : decode cX7_landOf 45 = .ok (.goto 4, 3) := by decide +kernel
theorem dX7_landOf_48 : decode cX7_landOf 48 = .ok (.iconst 0, 1) := by decide +kernel
theorem dX7_landOf_49 : decode cX7_landOf 49 = .ok (.iadd, 1) := by decide +kernel
theorem dX7_landOf_50 : decode cX7_landOf 50 = .ok (.istore_n 3, 1) := by decide +kernel
theorem dX7_landOf_51 : decode cX7_landOf 51 = .ok (.iinc 4 1, 3) := by decide +kernel
theorem dX7_landOf_54 : decode cX7_landOf 54 = .ok (.goto (-42), 3) := by decide +kernel
theorem dX7_landOf_57 : decode cX7_landOf 57 = .ok (.iload_n 3, 1) := by decide +kernel
theorem dX7_landOf_58 : decode cX7_landOf 58 = .ok (.bipush 32, 2) := by decide +kernel
theorem dX7_landOf_60 : decode cX7_landOf 60 = .ok (.if_icmp .le 5, 3) := by decide +kernel
theorem dX7_landOf_63 : decode cX7_landOf 63 = .ok (.iload_n 2, 1) := by decide +kernel
theorem dX7_landOf_64 : decode cX7_landOf 64 = .ok (.ireturn, 1) := by decide +kernel
theorem dX7_landOf_65 : decode cX7_landOf 65 = .ok (.iinc 2 1, 3) := by decide +kernel
theorem dX7_landOf_68 : decode cX7_landOf 68 = .ok (.goto (-66), 3) := by decide +kernel
theorem dX7_landOf_71 : decode cX7_landOf 71 = .ok (.iconst (-1), 1) := by decide +kernel
theorem dX7_landOf_72 : decode cX7_landOf 72 = .ok (.ireturn, 1) := by decide +kernel
theorem dX7_findLands_0 : decode cX7_findLands 0 = .ok (.iconst 0, 1) := by decide +kernel
theorem dX7_findLands_1 : decode cX7_findLands 1 = .ok (.istore_n 1, 1) := by decide +kernel
theorem dX7_findLands_2 : decode cX7_findLands 2 = .ok (.iload_n 1, 1) := by decide +kernel
theorem dX7_findLands_3 : decode cX7_findLands 3 = .ok (.aload_n 0, 1) := by decide +kernel
theorem dX7_findLands_4 : decode cX7_findLands 4 = .ok (.getfield 89, 3) := by decide +kernel
theorem dX7_findLands_7 : decode cX7_findLands 7 = .ok (.if_icmp .ge 21, 3) := by decide +kernel
theorem dX7_findLands_10 : decode cX7_findLands 10 = .ok (.aload_n 0, 1) := by decide +kernel
theorem dX7_findLands_11 : decode cX7_findLands 11 = .ok (.getfield 69, 3) := by decide +kernel
theorem dX7_findLands_14 : decode cX7_findLands 14 = .ok (.iload_n 1, 1) := by decide +kernel
theorem dX7_findLands_15 : decode cX7_findLands 15 = .ok (.aload_n 0, 1) := by decide +kernel
theorem dX7_findLands_16 : decode cX7_findLands 16 = .ok (.getfield 13, 3) := by decide +kernel
theorem dX7_findLands_19 : decode cX7_findLands 19 = .ok (.iload_n 1, 1) := by decide +kernel
theorem dX7_findLands_20 : decode cX7_findLands 20 = .ok (.iaload, 1) := by decide +kernel
theorem dX7_findLands_21 : decode cX7_findLands 21 = .ok (.iastore, 1) := by decide +kernel
theorem dX7_findLands_22 : decode cX7_findLands 22 = .ok (.iinc 1 1, 3) := by decide +kernel
theorem dX7_findLands_25 : decode cX7_findLands 25 = .ok (.goto (-23), 3) := by decide +kernel
theorem dX7_findLands_28 : decode cX7_findLands 28 = .ok (.iconst 0, 1) := by decide +kernel
theorem dX7_findLands_29 : decode cX7_findLands 29 = .ok (.istore_n 1, 1) := by decide +kernel
theorem dX7_findLands_30 : decode cX7_findLands 30 = .ok (.iload_n 1, 1) := by decide +kernel
theorem dX7_findLands_31 : decode cX7_findLands 31 = .ok (.iconst 5, 1) := by decide +kernel
theorem dX7_findLands_32 : decode cX7_findLands 32 = .ok (.if_icmp .ge 83, 3) := by decide +kernel
theorem dX7_findLands_35 : decode cX7_findLands 35 = .ok (.iconst 0, 1) := by decide +kernel
theorem dX7_findLands_36 : decode cX7_findLands 36 = .ok (.istore_n 2, 1) := by decide +kernel
theorem dX7_findLands_37 : decode cX7_findLands 37 = .ok (.iload_n 2, 1) := by decide +kernel
theorem dX7_findLands_38 : decode cX7_findLands 38 = .ok (.aload_n 0, 1) := by decide +kernel
theorem dX7_findLands_39 : decode cX7_findLands 39 = .ok (.getfield 89, 3) := by decide +kernel
theorem dX7_findLands_42 : decode cX7_findLands 42 = .ok (.if_icmp .ge 39, 3) := by decide +kernel
theorem dX7_findLands_45 : decode cX7_findLands 45 = .ok (.aload_n 0, 1) := by decide +kernel
theorem dX7_findLands_46 : decode cX7_findLands 46 = .ok (.getfield 72, 3) := by decide +kernel
theorem dX7_findLands_49 : decode cX7_findLands 49 = .ok (.iload_n 2, 1) := by decide +kernel
theorem dX7_findLands_50 : decode cX7_findLands 50 = .ok (.aload_n 0, 1) := by decide +kernel
theorem dX7_findLands_51 : decode cX7_findLands 51 = .ok (.getfield 13, 3) := by decide +kernel
theorem dX7_findLands_54 : decode cX7_findLands 54 = .ok (.iload_n 2, 1) := by decide +kernel
theorem dX7_findLands_55 : decode cX7_findLands 55 = .ok (.iaload, 1) := by decide +kernel
theorem dX7_findLands_56 : decode cX7_findLands 56 = .ok (.iconst (-1), 1) := by decide +kernel
theorem dX7_findLands_57 : decode cX7_findLands 57 = .ok (.if_icmp .ne 11, 3) := by decide +kernel
theorem dX7_findLands_60 : decode cX7_findLands 60 = .ok (.aload_n 0, 1) := by decide +kernel
theorem dX7_findLands_61 : decode cX7_findLands 61 = .ok (.iload_n 2, 1) := by decide +kernel
theorem dX7_findLands_62 : decode cX7_findLands 62 = .ok (.invokevirtual 112, 3) := by decide +kernel
theorem dX7_findLands_65 : decode cX7_findLands 65 = .ok (.goto 9, 3) := by decide +kernel
theorem dX7_findLands_68 : decode cX7_findLands 68 = .ok (.aload_n 0, 1) := by decide +kernel
theorem dX7_findLands_69 : decode cX7_findLands 69 = .ok (.getfield 13, 3) := by decide +kernel
theorem dX7_findLands_72 : decode cX7_findLands 72 = .ok (.iload_n 2, 1) := by decide +kernel
theorem dX7_findLands_73 : decode cX7_findLands 73 = .ok (.iaload, 1) := by decide +kernel
theorem dX7_findLands_74 : decode cX7_findLands 74 = .ok (.iastore, 1) := by decide +kernel
theorem dX7_findLands_75 : decode cX7_findLands 75 = .ok (.iinc 2 1, 3) := by decide +kernel
theorem dX7_findLands_78 : decode cX7_findLands 78 = .ok (.goto (-41), 3) := by decide +kernel
theorem dX7_findLands_81 : decode cX7_findLands 81 = .ok (.iconst 0, 1) := by decide +kernel
theorem dX7_findLands_82 : decode cX7_findLands 82 = .ok (.istore_n 2, 1) := by decide +kernel
theorem dX7_findLands_83 : decode cX7_findLands 83 = .ok (.iload_n 2, 1) := by decide +kernel
theorem dX7_findLands_84 : decode cX7_findLands 84 = .ok (.aload_n 0, 1) := by decide +kernel
theorem dX7_findLands_85 : decode cX7_findLands 85 = .ok (.getfield 89, 3) := by decide +kernel
theorem dX7_findLands_88 : decode cX7_findLands 88 = .ok (.if_icmp .ge 21, 3) := by decide +kernel
theorem dX7_findLands_91 : decode cX7_findLands 91 = .ok (.aload_n 0, 1) := by decide +kernel
theorem dX7_findLands_92 : decode cX7_findLands 92 = .ok (.getfield 69, 3) := by decide +kernel
theorem dX7_findLands_95 : decode cX7_findLands 95 = .ok (.iload_n 2, 1) := by decide +kernel
theorem dX7_findLands_96 : decode cX7_findLands 96 = .ok (.aload_n 0, 1) := by decide +kernel
theorem dX7_findLands_97 : decode cX7_findLands 97 = .ok (.getfield 72, 3) := by decide +kernel
theorem dX7_findLands_100 : decode cX7_findLands 100 = .ok (.iload_n 2, 1) := by decide +kernel
theorem dX7_findLands_101 : decode cX7_findLands 101 = .ok (.iaload, 1) := by decide +kernel
theorem dX7_findLands_102 : decode cX7_findLands 102 = .ok (.iastore, 1) := by decide +kernel
theorem dX7_findLands_103 : decode cX7_findLands 103 = .ok (.iinc 2 1, 3) := by decide +kernel
theorem dX7_findLands_106 : decode cX7_findLands 106 = .ok (.goto (-23), 3) := by decide +kernel
theorem dX7_findLands_109 : decode cX7_findLands 109 = .ok (.iinc 1 1, 3) := by decide +kernel
theorem dX7_findLands_112 : decode cX7_findLands 112 = .ok (.goto (-82), 3) := by decide +kernel
theorem dX7_findLands_115 : decode cX7_findLands 115 = .ok (.return_, 1) := by decide +kernel
theorem dX7_land_0 : decode cX7_land 0 = .ok (.aload_n 0, 1) := by decide +kernel
theorem dX7_land_1 : decode cX7_land 1 = .ok (.aload_n 0, 1) := by decide +kernel
theorem dX7_land_2 : decode cX7_land 2 = .ok (.iload_n 1, 1) := by decide +kernel
theorem dX7_land_3 : decode cX7_land 3 = .ok (.invokevirtual 105, 3) := by decide +kernel
theorem dX7_land_6 : decode cX7_land 6 = .ok (.ifCond .eq 7, 3) := by decide +kernel
theorem dX7_land_9 : decode cX7_land 9 = .ok (.iconst 0, 1) := by decide +kernel
theorem dX7_land_10 : decode cX7_land 10 = .ok (.goto 4, 3) := by decide +kernel
theorem dX7_land_13 : decode cX7_land 13 = .ok (.iconst 1, 1) := by decide +kernel
theorem dX7_land_14 : decode cX7_land 14 = .ok (.putfield 81, 3) := by decide +kernel
theorem dX7_land_17 : decode cX7_land 17 = .ok (.aload_n 0, 1) := by decide +kernel
theorem dX7_land_18 : decode cX7_land 18 = .ok (.getfield 81, 3) := by decide +kernel
theorem dX7_land_21 : decode cX7_land 21 = .ok (.ifCond .le 5, 3) := by decide +kernel
theorem dX7_land_24 : decode cX7_land 24 = .ok (.iconst 0, 1) := by decide +kernel
theorem dX7_land_25 : decode cX7_land 25 = .ok (.ireturn, 1) := by decide +kernel
theorem dX7_land_26 : decode cX7_land 26 = .ok (.aload_n 0, 1) := by decide +kernel
theorem dX7_land_27 : decode cX7_land 27 = .ok (.invokevirtual 116, 3) := by decide +kernel
theorem dX7_land_30 : decode cX7_land 30 = .ok (.aload_n 0, 1) := by decide +kernel
theorem dX7_land_31 : decode cX7_land 31 = .ok (.getfield 69, 3) := by decide +kernel
theorem dX7_land_34 : decode cX7_land 34 = .ok (.iload_n 1, 1) := by decide +kernel
theorem dX7_land_35 : decode cX7_land 35 = .ok (.iaload, 1) := by decide +kernel
theorem dX7_land_36 : decode cX7_land 36 = .ok (.ireturn, 1) := by decide +kernel
theorem dX7_isVowel_0 : decode cX7_isVowel 0 = .ok (.iload_n 0, 1) := by decide +kernel
theorem dX7_isVowel_1 : decode cX7_isVowel 1 = .ok (.bipush 97, 2) := by decide +kernel
theorem dX7_isVowel_3 : decode cX7_isVowel 3 = .ok (.if_icmp .eq 27, 3) := by decide +kernel
theorem dX7_isVowel_6 : decode cX7_isVowel 6 = .ok (.iload_n 0, 1) := by decide +kernel
theorem dX7_isVowel_7 : decode cX7_isVowel 7 = .ok (.bipush 101, 2) := by decide +kernel
theorem dX7_isVowel_9 : decode cX7_isVowel 9 = .ok (.if_icmp .eq 21, 3) := by decide +kernel
theorem dX7_isVowel_12 : decode cX7_isVowel 12 = .ok (.iload_n 0, 1) := by decide +kernel
theorem dX7_isVowel_13 : decode cX7_isVowel 13 = .ok (.bipush 105, 2) := by decide +kernel
theorem dX7_isVowel_15 : decode cX7_isVowel 15 = .ok (.if_icmp .eq 15, 3) := by decide +kernel
theorem dX7_isVowel_18 : decode cX7_isVowel 18 = .ok (.iload_n 0, 1) := by decide +kernel
theorem dX7_isVowel_19 : decode cX7_isVowel 19 = .ok (.bipush 111, 2) := by decide +kernel
theorem dX7_isVowel_21 : decode cX7_isVowel 21 = .ok (.if_icmp .eq 9, 3) := by decide +kernel
theorem dX7_isVowel_24 : decode cX7_isVowel 24 = .ok (.iload_n 0, 1) := by decide +kernel
theorem dX7_isVowel_25 : decode cX7_isVowel 25 = .ok (.bipush 117, 2) := by decide +kernel
theorem dX7_isVowel_27 : decode cX7_isVowel 27 = .ok (.if_icmp .ne 7, 3) := by decide +kernel
theorem dX7_isVowel_30 : decode cX7_isVowel 30 = .ok (.iconst 1, 1) := by decide +kernel
theorem dX7_isVowel_31 : decode cX7_isVowel 31 = .ok (.goto 4, 3) := by decide +kernel
theorem dX7_isVowel_34 : decode cX7_isVowel 34 = .ok (.iconst 0, 1) := by decide +kernel
theorem dX7_isVowel_35 : decode cX7_isVowel 35 = .ok (.ireturn, 1) := by decide +kernel
theorem dX7_hear_0 : decode cX7_hear 0 = .ok (.iconst 0, 1) := by decide +kernel
theorem dX7_hear_1 : decode cX7_hear 1 = .ok (.istore_n 1, 1) := by decide +kernel
theorem dX7_hear_2 : decode cX7_hear 2 = .ok (.iconst 0, 1) := by decide +kernel
theorem dX7_hear_3 : decode cX7_hear 3 = .ok (.istore_n 2, 1) := by decide +kernel
theorem dX7_hear_4 : decode cX7_hear 4 = .ok (.iload_n 2, 1) := by decide +kernel
theorem dX7_hear_5 : decode cX7_hear 5 = .ok (.bipush 8, 2) := by decide +kernel
theorem dX7_hear_7 : decode cX7_hear 7 = .ok (.if_icmp .ge 16, 3) := by decide +kernel
theorem dX7_hear_10 : decode cX7_hear 10 = .ok (.aload_n 0, 1) := by decide +kernel
theorem dX7_hear_11 : decode cX7_hear 11 = .ok (.getfield 75, 3) := by decide +kernel
theorem dX7_hear_14 : decode cX7_hear 14 = .ok (.iload_n 2, 1) := by decide +kernel
theorem dX7_hear_15 : decode cX7_hear 15 = .ok (.iconst 0, 1) := by decide +kernel
theorem dX7_hear_16 : decode cX7_hear 16 = .ok (.iastore, 1) := by decide +kernel
theorem dX7_hear_17 : decode cX7_hear 17 = .ok (.iinc 2 1, 3) := by decide +kernel
theorem dX7_hear_20 : decode cX7_hear 20 = .ok (.goto (-16), 3) := by decide +kernel
theorem dX7_hear_23 : decode cX7_hear 23 = .ok (.iconst 0, 1) := by decide +kernel
theorem dX7_hear_24 : decode cX7_hear 24 = .ok (.istore_n 2, 1) := by decide +kernel
theorem dX7_hear_25 : decode cX7_hear 25 = .ok (.iload_n 2, 1) := by decide +kernel
theorem dX7_hear_26 : decode cX7_hear 26 = .ok (.aload_n 0, 1) := by decide +kernel
theorem dX7_hear_27 : decode cX7_hear 27 = .ok (.getfield 98, 3) := by decide +kernel
theorem dX7_hear_30 : decode cX7_hear 30 = .ok (.if_icmp .ge 57, 3) := by decide +kernel
theorem dX7_hear_33 : decode cX7_hear 33 = .ok (.aload_n 0, 1) := by decide +kernel
theorem dX7_hear_34 : decode cX7_hear 34 = .ok (.getfield 9, 3) := by decide +kernel
theorem dX7_hear_37 : decode cX7_hear 37 = .ok (.iload_n 2, 1) := by decide +kernel
theorem dX7_hear_38 : decode cX7_hear 38 = .ok (.iaload, 1) := by decide +kernel
theorem dX7_hear_39 : decode cX7_hear 39 = .ok (.invokestatic 119, 3) := by decide +kernel
theorem dX7_hear_42 : decode cX7_hear 42 = .ok (.ifCond .ne 39, 3) := by decide +kernel
theorem dX7_hear_45 : decode cX7_hear 45 = .ok (.iload_n 1, 1) := by decide +kernel
theorem dX7_hear_46 : decode cX7_hear 46 = .ok (.ifCond .eq 20, 3) := by decide +kernel
theorem dX7_hear_49 : decode cX7_hear 49 = .ok (.aload_n 0, 1) := by decide +kernel
theorem dX7_hear_50 : decode cX7_hear 50 = .ok (.getfield 75, 3) := by decide +kernel
theorem dX7_hear_53 : decode cX7_hear 53 = .ok (.iload_n 1, 1) := by decide +kernel
theorem dX7_hear_54 : decode cX7_hear 54 = .ok (.iconst 1, 1) := by decide +kernel
theorem dX7_hear_55 : decode cX7_hear 55 = .ok (.isub, 1) := by decide +kernel
theorem dX7_hear_56 : decode cX7_hear 56 = .ok (.iaload, 1) := by decide +kernel
theorem dX7_hear_57 : decode cX7_hear 57 = .ok (.aload_n 0, 1) := by decide +kernel
theorem dX7_hear_58 : decode cX7_hear 58 = .ok (.getfield 9, 3) := by decide +kernel
theorem dX7_hear_61 : decode cX7_hear 61 = .ok (.iload_n 2, 1) := by decide +kernel
theorem dX7_hear_62 : decode cX7_hear 62 = .ok (.iaload, 1) := by decide +kernel
theorem dX7_hear_63 : decode cX7_hear 63 = .ok (.if_icmp .eq 18, 3) := by decide +kernel
theorem dX7_hear_66 : decode cX7_hear 66 = .ok (.aload_n 0, 1) := by decide +kernel
theorem dX7_hear_67 : decode cX7_hear 67 = .ok (.getfield 75, 3) := by decide +kernel
theorem dX7_hear_70 : decode cX7_hear 70 = .ok (.iload_n 1, 1) := by decide +kernel
theorem dX7_hear_71 : decode cX7_hear 71 = .ok (.aload_n 0, 1) := by decide +kernel
theorem dX7_hear_72 : decode cX7_hear 72 = .ok (.getfield 9, 3) := by decide +kernel
theorem dX7_hear_75 : decode cX7_hear 75 = .ok (.iload_n 2, 1) := by decide +kernel
theorem dX7_hear_76 : decode cX7_hear 76 = .ok (.iaload, 1) := by decide +kernel
theorem dX7_hear_77 : decode cX7_hear 77 = .ok (.iastore, 1) := by decide +kernel
theorem dX7_hear_78 : decode cX7_hear 78 = .ok (.iinc 1 1, 3) := by decide +kernel
theorem dX7_hear_81 : decode cX7_hear 81 = .ok (.iinc 2 1, 3) := by decide +kernel
theorem dX7_hear_84 : decode cX7_hear 84 = .ok (.goto (-59), 3) := by decide +kernel
theorem dX7_hear_87 : decode cX7_hear 87 = .ok (.return_, 1) := by decide +kernel
theorem dX7_isHeard_0 : decode cX7_isHeard 0 = .ok (.iconst 1, 1) := by decide +kernel
theorem dX7_isHeard_1 : decode cX7_isHeard 1 = .ok (.istore_n 2, 1) := by decide +kernel
theorem dX7_isHeard_2 : decode cX7_isHeard 2 = .ok (.iconst 0, 1) := by decide +kernel
theorem dX7_isHeard_3 : decode cX7_isHeard 3 = .ok (.istore_n 3, 1) := by decide +kernel
theorem dX7_isHeard_4 : decode cX7_isHeard 4 = .ok (.iload_n 3, 1) := by decide +kernel
theorem dX7_isHeard_5 : decode cX7_isHeard 5 = .ok (.bipush 8, 2) := by decide +kernel
theorem dX7_isHeard_7 : decode cX7_isHeard 7 = .ok (.if_icmp .ge 39, 3) := by decide +kernel
theorem dX7_isHeard_10 : decode cX7_isHeard 10 = .ok (.iload_n 2, 1) := by decide +kernel
theorem dX7_isHeard_11 : decode cX7_isHeard 11 = .ok (.ifCond .eq 27, 3) := by decide +kernel
theorem dX7_isHeard_14 : decode cX7_isHeard 14 = .ok (.aload_n 0, 1) := by decide +kernel
theorem dX7_isHeard_15 : decode cX7_isHeard 15 = .ok (.getfield 19, 3) := by decide +kernel
theorem dX7_isHeard_18 : decode cX7_isHeard 18 = .ok (.bipush 8, 2) := by decide +kernel
theorem dX7_isHeard_20 : decode cX7_isHeard 20 = .ok (.iload_n 1, 1) := by decide +kernel
theorem dX7_isHeard_21 : decode cX7_isHeard 21 = .ok (.imul, 1) := by decide +kernel
theorem dX7_isHeard_22 : decode cX7_isHeard 22 = .ok (.iload_n 3, 1) := by decide +kernel
theorem dX7_isHeard_23 : decode cX7_isHeard 23 = .ok (.iadd, 1) := by decide +kernel
theorem dX7_isHeard_24 : decode cX7_isHeard 24 = .ok (.iaload, 1) := by decide +kernel
theorem dX7_isHeard_25 : decode cX7_isHeard 25 = .ok (.aload_n 0, 1) := by decide +kernel
theorem dX7_isHeard_26 : decode cX7_isHeard 26 = .ok (.getfield 75, 3) := by decide +kernel
theorem dX7_isHeard_29 : decode cX7_isHeard 29 = .ok (.iload_n 3, 1) := by decide +kernel
theorem dX7_isHeard_30 : decode cX7_isHeard 30 = .ok (.iaload, 1) := by decide +kernel
theorem dX7_isHeard_31 : decode cX7_isHeard 31 = .ok (.if_icmp .ne 7, 3) := by decide +kernel
theorem dX7_isHeard_34 : decode cX7_isHeard 34 = .ok (.iconst 1, 1) := by decide +kernel
theorem dX7_isHeard_35 : decode cX7_isHeard 35 = .ok (.goto 4, 3) := by decide +kernel
theorem dX7_isHeard_38 : decode cX7_isHeard 38 = .ok (.iconst 0, 1) := by decide +kernel
theorem dX7_isHeard_39 : decode cX7_isHeard 39 = .ok (.istore_n 2, 1) := by decide +kernel
theorem dX7_isHeard_40 : decode cX7_isHeard 40 = .ok (.iinc 3 1, 3) := by decide +kernel
theorem dX7_isHeard_43 : decode cX7_isHeard 43 = .ok (.goto (-39), 3) := by decide +kernel
theorem dX7_isHeard_46 : decode cX7_isHeard 46 = .ok (.iload_n 2, 1) := by decide +kernel
theorem dX7_isHeard_47 : decode cX7_isHeard 47 = .ok (.ireturn, 1) := by decide +kernel
theorem dX7_ship_0 : decode cX7_ship 0 = .ok (.aload_n 0, 1) := by decide +kernel
theorem dX7_ship_1 : decode cX7_ship 1 = .ok (.aload_n 0, 1) := by decide +kernel
theorem dX7_ship_2 : decode cX7_ship 2 = .ok (.iload_n 1, 1) := by decide +kernel
theorem dX7_ship_3 : decode cX7_ship 3 = .ok (.invokevirtual 105, 3) := by decide +kernel
theorem dX7_ship_6 : decode cX7_ship 6 = .ok (.ifCond .ne 7, 3) := by decide +kernel
theorem dX7_ship_9 : decode cX7_ship 9 = .ok (.iconst 1, 1) := by decide +kernel
theorem dX7_ship_10 : decode cX7_ship 10 = .ok (.goto 24, 3) := by decide +kernel
theorem dX7_ship_13 : decode cX7_ship 13 = .ok (.aload_n 0, 1) := by decide +kernel
theorem dX7_ship_14 : decode cX7_ship 14 = .ok (.getfield 98, 3) := by decide +kernel
theorem dX7_ship_17 : decode cX7_ship 17 = .ok (.ifCond .eq 12, 3) := by decide +kernel
theorem dX7_ship_20 : decode cX7_ship 20 = .ok (.aload_n 0, 1) := by decide +kernel
theorem dX7_ship_21 : decode cX7_ship 21 = .ok (.getfield 92, 3) := by decide +kernel
theorem dX7_ship_24 : decode cX7_ship 24 = .ok (.bipush 6, 2) := by decide +kernel
theorem dX7_ship_26 : decode cX7_ship 26 = .ok (.if_icmp .ne 7, 3) := by decide +kernel
theorem dX7_ship_29 : decode cX7_ship 29 = .ok (.iconst 2, 1) := by decide +kernel
theorem dX7_ship_30 : decode cX7_ship 30 = .ok (.goto 4, 3) := by decide +kernel
theorem dX7_ship_33 : decode cX7_ship 33 = .ok (.iconst 0, 1) := by decide +kernel
theorem dX7_ship_34 : decode cX7_ship 34 = .ok (.putfield 81, 3) := by decide +kernel
theorem dX7_ship_37 : decode cX7_ship 37 = .ok (.aload_n 0, 1) := by decide +kernel
theorem dX7_ship_38 : decode cX7_ship 38 = .ok (.getfield 81, 3) := by decide +kernel
theorem dX7_ship_41 : decode cX7_ship 41 = .ok (.ifCond .le 5, 3) := by decide +kernel
theorem dX7_ship_44 : decode cX7_ship 44 = .ok (.iconst 0, 1) := by decide +kernel
theorem dX7_ship_45 : decode cX7_ship 45 = .ok (.ireturn, 1) := by decide +kernel
theorem dX7_ship_46 : decode cX7_ship 46 = .ok (.aload_n 0, 1) := by decide +kernel
theorem dX7_ship_47 : decode cX7_ship 47 = .ok (.invokevirtual 122, 3) := by decide +kernel
theorem dX7_ship_50 : decode cX7_ship 50 = .ok (.aload_n 0, 1) := by decide +kernel
theorem dX7_ship_51 : decode cX7_ship 51 = .ok (.iconst 0, 1) := by decide +kernel
theorem dX7_ship_52 : decode cX7_ship 52 = .ok (.putfield 98, 3) := by decide +kernel
theorem dX7_ship_55 : decode cX7_ship 55 = .ok (.iconst 0, 1) := by decide +kernel
theorem dX7_ship_56 : decode cX7_ship 56 = .ok (.istore_n 2, 1) := by decide +kernel
theorem dX7_ship_57 : decode cX7_ship 57 = .ok (.iload_n 2, 1) := by decide +kernel
theorem dX7_ship_58 : decode cX7_ship 58 = .ok (.aload_n 0, 1) := by decide +kernel
theorem dX7_ship_59 : decode cX7_ship 59 = .ok (.getfield 92, 3) := by decide +kernel
theorem dX7_ship_62 : decode cX7_ship 62 = .ok (.if_icmp .ge 19, 3) := by decide +kernel
theorem dX7_ship_65 : decode cX7_ship 65 = .ok (.aload_n 0, 1) := by decide +kernel
theorem dX7_ship_66 : decode cX7_ship 66 = .ok (.iload_n 2, 1) := by decide +kernel
theorem dX7_ship_67 : decode cX7_ship 67 = .ok (.invokevirtual 125, 3) := by decide +kernel
theorem dX7_ship_70 : decode cX7_ship 70 = .ok (.ifCond .eq 5, 3) := by decide +kernel
theorem dX7_ship_73 : decode cX7_ship 73 = .ok (.iconst (-1), 1) := by decide +kernel
theorem dX7_ship_74 : decode cX7_ship 74 = .ok (.ireturn, 1) := by decide +kernel
theorem dX7_ship_75 : decode cX7_ship 75 = .ok (.iinc 2 1, 3) := by decide +kernel
theorem dX7_ship_78 : decode cX7_ship 78 = .ok (.goto (-21), 3) := by decide +kernel
theorem dX7_ship_81 : decode cX7_ship 81 = .ok (.iconst 0, 1) := by decide +kernel
theorem dX7_ship_82 : decode cX7_ship 82 = .ok (.istore_n 2, 1) := by decide +kernel
theorem dX7_ship_83 : decode cX7_ship 83 = .ok (.iload_n 2, 1) := by decide +kernel
theorem dX7_ship_84 : decode cX7_ship 84 = .ok (.bipush 8, 2) := by decide +kernel
theorem dX7_ship_86 : decode cX7_ship 86 = .ok (.if_icmp .ge 29, 3) := by decide +kernel
theorem dX7_ship_89 : decode cX7_ship 89 = .ok (.aload_n 0, 1) := by decide +kernel
theorem dX7_ship_90 : decode cX7_ship 90 = .ok (.getfield 19, 3) := by decide +kernel
theorem dX7_ship_93 : decode cX7_ship 93 = .ok (.bipush 8, 2) := by decide +kernel
theorem dX7_ship_95 : decode cX7_ship 95 = .ok (.aload_n 0, 1) := by decide +kernel
theorem dX7_ship_96 : decode cX7_ship 96 = .ok (.getfield 92, 3) := by decide +kernel
theorem dX7_ship_99 : decode cX7_ship 99 = .ok (.imul, 1) := by decide +kernel
theorem dX7_ship_100 : decode cX7_ship 100 = .ok (.iload_n 2, 1) := by decide +kernel
theorem dX7_ship_101 : decode cX7_ship 101 = .ok (.iadd, 1) := by decide +kernel
theorem dX7_ship_102 : decode cX7_ship 102 = .ok (.aload_n 0, 1) := by decide +kernel
theorem dX7_ship_103 : decode cX7_ship 103 = .ok (.getfield 75, 3) := by decide +kernel
theorem dX7_ship_106 : decode cX7_ship 106 = .ok (.iload_n 2, 1) := by decide +kernel
theorem dX7_ship_107 : decode cX7_ship 107 = .ok (.iaload, 1) := by decide +kernel
theorem dX7_ship_108 : decode cX7_ship 108 = .ok (.iastore, 1) := by decide +kernel
theorem dX7_ship_109 : decode cX7_ship 109 = .ok (.iinc 2 1, 3) := by decide +kernel
theorem dX7_ship_112 : decode cX7_ship 112 = .ok (.goto (-29), 3) := by decide +kernel
theorem dX7_ship_115 : decode cX7_ship 115 = .ok (.aload_n 0, 1) := by decide +kernel
theorem dX7_ship_116 : decode cX7_ship 116 = .ok (.getfield 22, 3) := by decide +kernel
theorem dX7_ship_119 : decode cX7_ship 119 = .ok (.bipush 10, 2) := by decide +kernel
theorem dX7_ship_121 : decode cX7_ship 121 = .ok (.aload_n 0, 1) := by decide +kernel
theorem dX7_ship_122 : decode cX7_ship 122 = .ok (.getfield 92, 3) := by decide +kernel
theorem dX7_ship_125 : decode cX7_ship 125 = .ok (.imul, 1) := by decide +kernel
theorem dX7_ship_126 : decode cX7_ship 126 = .ok (.iload_n 1, 1) := by decide +kernel
theorem dX7_ship_127 : decode cX7_ship 127 = .ok (.iadd, 1) := by decide +kernel
theorem dX7_ship_128 : decode cX7_ship 128 = .ok (.bipush 64, 2) := by decide +kernel
theorem dX7_ship_130 : decode cX7_ship 130 = .ok (.iastore, 1) := by decide +kernel
theorem dX7_ship_131 : decode cX7_ship 131 = .ok (.aload_n 0, 1) := by decide +kernel
theorem dX7_ship_132 : decode cX7_ship 132 = .ok (.getfield 25, 3) := by decide +kernel
theorem dX7_ship_135 : decode cX7_ship 135 = .ok (.aload_n 0, 1) := by decide +kernel
theorem dX7_ship_136 : decode cX7_ship 136 = .ok (.getfield 92, 3) := by decide +kernel
theorem dX7_ship_139 : decode cX7_ship 139 = .ok (.iconst (-1), 1) := by decide +kernel
theorem dX7_ship_140 : decode cX7_ship 140 = .ok (.iastore, 1) := by decide +kernel
theorem dX7_ship_141 : decode cX7_ship 141 = .ok (.aload_n 0, 1) := by decide +kernel
theorem dX7_ship_142 : decode cX7_ship 142 = .ok (.getfield 28, 3) := by decide +kernel
theorem dX7_ship_145 : decode cX7_ship 145 = .ok (.aload_n 0, 1) := by decide +kernel
theorem dX7_ship_146 : decode cX7_ship 146 = .ok (.getfield 92, 3) := by decide +kernel
theorem dX7_ship_149 : decode cX7_ship 149 = .ok (.ldc2_w 128, 3) := by decide +kernel
theorem dX7_ship_152 : decode cX7_ship 152 = .ok (.lastore, 1) := by decide +kernel
theorem dX7_ship_153 : decode cX7_ship 153 = .ok (.aload_n 0, 1) := by decide +kernel
theorem dX7_ship_154 : decode cX7_ship 154 = .ok (.dup, 1) := by decide +kernel
theorem dX7_ship_155 : decode cX7_ship 155 = .ok (.getfield 92, 3) := by decide +kernel
theorem dX7_ship_158 : decode cX7_ship 158 = .ok (.iconst 1, 1) := by decide +kernel
theorem dX7_ship_159 : decode cX7_ship 159 = .ok (.iadd, 1) := by decide +kernel
theorem dX7_ship_160 : decode cX7_ship 160 = .ok (.putfield 92, 3) := by decide +kernel
theorem dX7_ship_163 : decode cX7_ship 163 = .ok (.aload_n 0, 1) := by decide +kernel
theorem dX7_ship_164 : decode cX7_ship 164 = .ok (.getfield 92, 3) := by decide +kernel
theorem dX7_ship_167 : decode cX7_ship 167 = .ok (.iconst 1, 1) := by decide +kernel
theorem dX7_ship_168 : decode cX7_ship 168 = .ok (.isub, 1) := by decide +kernel
theorem dX7_ship_169 : decode cX7_ship 169 = .ok (.ireturn, 1) := by decide +kernel
theorem dX7_canFly_0 : decode cX7_canFly 0 = .ok (.iconst 0, 1) := by decide +kernel
theorem dX7_canFly_1 : decode cX7_canFly 1 = .ok (.istore_n 3, 1) := by decide +kernel
theorem dX7_canFly_2 : decode cX7_canFly 2 = .ok (.aload_n 0, 1) := by decide +kernel
theorem dX7_canFly_3 : decode cX7_canFly 3 = .ok (.invokevirtual 116, 3) := by decide +kernel
theorem dX7_canFly_6 : decode cX7_canFly 6 = .ok (.iconst 0, 1) := by decide +kernel
theorem dX7_canFly_7 : decode cX7_canFly 7 = .ok (.istore 4, 2) := by decide +kernel
theorem dX7_canFly_9 : decode cX7_canFly 9 = .ok (.iload 4, 2) := by decide +kernel
theorem dX7_canFly_11 : decode cX7_canFly 11 = .ok (.aload_n 0, 1) := by decide +kernel
theorem dX7_canFly_12 : decode cX7_canFly 12 = .ok (.getfield 89, 3) := by decide +kernel
theorem dX7_canFly_15 : decode cX7_canFly 15 = .ok (.if_icmp .ge 39, 3) := by decide +kernel
theorem dX7_canFly_18 : decode cX7_canFly 18 = .ok (.iload_n 3, 1) := by decide +kernel
theorem dX7_canFly_19 : decode cX7_canFly 19 = .ok (.aload_n 0, 1) := by decide +kernel
theorem dX7_canFly_20 : decode cX7_canFly 20 = .ok (.getfield 69, 3) := by decide +kernel
theorem dX7_canFly_23 : decode cX7_canFly 23 = .ok (.iload 4, 2) := by decide +kernel
theorem dX7_canFly_25 : decode cX7_canFly 25 = .ok (.iaload, 1) := by decide +kernel
theorem dX7_canFly_26 : decode cX7_canFly 26 = .ok (.iload_n 2, 1) := by decide +kernel
theorem dX7_canFly_27 : decode cX7_canFly 27 = .ok (.if_icmp .ne 18, 3) := by decide +kernel
theorem dX7_canFly_30 : decode cX7_canFly 30 = .ok (.aload_n 0, 1) := by decide +kernel
theorem dX7_canFly_31 : decode cX7_canFly 31 = .ok (.getfield 22, 3) := by decide +kernel
theorem dX7_canFly_34 : decode cX7_canFly 34 = .ok (.bipush 10, 2) := by decide +kernel
theorem dX7_canFly_36 : decode cX7_canFly 36 = .ok (.iload_n 1, 1) := by decide +kernel
theorem dX7_canFly_37 : decode cX7_canFly 37 = .ok (.imul, 1) := by decide +kernel
theorem dX7_canFly_38 : decode cX7_canFly 38 = .ok (.iload 4, 2) := by decide +kernel
theorem dX7_canFly_40 : decode cX7_canFly 40 = .ok (.iadd, 1) := by decide +kernel
theorem dX7_canFly_41 : decode cX7_canFly 41 = .ok (.iaload, 1) := by decide +kernel
theorem dX7_canFly_42 : decode cX7_canFly 42 = .ok (.goto 4, 3) := by decide +kernel
theorem dX7_canFly_45 : decode cX7_canFly 45 = .ok (.iconst 0, 1) := by decide +kernel
theorem dX7_canFly_46 : decode cX7_canFly 46 = .ok (.iadd, 1) := by decide +kernel
theorem dX7_canFly_47 : decode cX7_canFly 47 = .ok (.istore_n 3, 1) := by decide +kernel
theorem dX7_canFly_48 : decode cX7_canFly 48 = .ok (.iinc 4 1, 3) := by decide +kernel
theorem dX7_canFly_51 : decode cX7_canFly 51 = .ok (.goto (-42), 3) := by decide +kernel
theorem dX7_canFly_54 : decode cX7_canFly 54 = .ok (.iload_n 3, 1) := by decide +kernel
theorem dX7_canFly_55 : decode cX7_canFly 55 = .ok (.bipush 32, 2) := by decide +kernel
theorem dX7_canFly_57 : decode cX7_canFly 57 = .ok (.if_icmp .le 7, 3) := by decide +kernel
theorem dX7_canFly_60 : decode cX7_canFly 60 = .ok (.iconst 1, 1) := by decide +kernel
theorem dX7_canFly_61 : decode cX7_canFly 61 = .ok (.goto 4, 3) := by decide +kernel
theorem dX7_canFly_64 : decode cX7_canFly 64 = .ok (.iconst 0, 1) := by decide +kernel
theorem dX7_canFly_65 : decode cX7_canFly 65 = .ok (.ireturn, 1) := by decide +kernel
theorem dX7_lookAtFlag_0 : decode cX7_lookAtFlag 0 = .ok (.aload_n 0, 1) := by decide +kernel
theorem dX7_lookAtFlag_1 : decode cX7_lookAtFlag 1 = .ok (.getfield 25, 3) := by decide +kernel
theorem dX7_lookAtFlag_4 : decode cX7_lookAtFlag 4 = .ok (.iload_n 1, 1) := by decide +kernel
theorem dX7_lookAtFlag_5 : decode cX7_lookAtFlag 5 = .ok (.iaload, 1) := by decide +kernel
theorem dX7_lookAtFlag_6 : decode cX7_lookAtFlag 6 = .ok (.iconst (-1), 1) := by decide +kernel
theorem dX7_lookAtFlag_7 : decode cX7_lookAtFlag 7 = .ok (.if_icmp .eq 55, 3) := by decide +kernel
theorem dX7_lookAtFlag_10 : decode cX7_lookAtFlag 10 = .ok (.aload_n 0, 1) := by decide +kernel
theorem dX7_lookAtFlag_11 : decode cX7_lookAtFlag 11 = .ok (.getfield 28, 3) := by decide +kernel
theorem dX7_lookAtFlag_14 : decode cX7_lookAtFlag 14 = .ok (.iload_n 1, 1) := by decide +kernel
theorem dX7_lookAtFlag_15 : decode cX7_lookAtFlag 15 = .ok (.aload_n 0, 1) := by decide +kernel
theorem dX7_lookAtFlag_16 : decode cX7_lookAtFlag 16 = .ok (.iload_n 1, 1) := by decide +kernel
theorem dX7_lookAtFlag_17 : decode cX7_lookAtFlag 17 = .ok (.aload_n 0, 1) := by decide +kernel
theorem dX7_lookAtFlag_18 : decode cX7_lookAtFlag 18 = .ok (.getfield 25, 3) := by decide +kernel
theorem dX7_lookAtFlag_21 : decode cX7_lookAtFlag 21 = .ok (.iload_n 1, 1) := by decide +kernel
theorem dX7_lookAtFlag_22 : decode cX7_lookAtFlag 22 = .ok (.iaload, 1) := by decide +kernel
theorem dX7_lookAtFlag_23 : decode cX7_lookAtFlag 23 = .ok (.invokevirtual 130, 3) := by decide +kernel
theorem dX7_lookAtFlag_26 : decode cX7_lookAtFlag 26 = .ok (.ifCond .eq 9, 3) := by decide +kernel
theorem dX7_lookAtFlag_29 : decode cX7_lookAtFlag 29 = .ok (.ldc2_w 128, 3) := by decide +kernel
theorem dX7_lookAtFlag_32 : decode cX7_lookAtFlag 32 = .ok (.goto 29, 3) := by decide +kernel
theorem dX7_lookAtFlag_35 : decode cX7_lookAtFlag 35 = .ok (.aload_n 0, 1) := by decide +kernel
theorem dX7_lookAtFlag_36 : decode cX7_lookAtFlag 36 = .ok (.getfield 28, 3) := by decide +kernel
theorem dX7_lookAtFlag_39 : decode cX7_lookAtFlag 39 = .ok (.iload_n 1, 1) := by decide +kernel
theorem dX7_lookAtFlag_40 : decode cX7_lookAtFlag 40 = .ok (.laload, 1) := by decide +kernel
theorem dX7_lookAtFlag_41 : decode cX7_lookAtFlag 41 = .ok (.ldc2_w 128, 3) := by decide +kernel
theorem dX7_lookAtFlag_44 : decode cX7_lookAtFlag 44 = .ok (.lcmp, 1) := by decide +kernel
theorem dX7_lookAtFlag_45 : decode cX7_lookAtFlag 45 = .ok (.ifCond .ne 10, 3) := by decide +kernel
theorem dX7_lookAtFlag_48 : decode cX7_lookAtFlag 48 = .ok (.aload_n 0, 1) := by decide +kernel
theorem dX7_lookAtFlag_49 : decode cX7_lookAtFlag 49 = .ok (.getfield 134, 3) := by decide +kernel
theorem dX7_lookAtFlag_52 : decode cX7_lookAtFlag 52 = .ok (.goto 9, 3) := by decide +kernel
theorem dX7_lookAtFlag_55 : decode cX7_lookAtFlag 55 = .ok (.aload_n 0, 1) := by decide +kernel
theorem dX7_lookAtFlag_56 : decode cX7_lookAtFlag 56 = .ok (.getfield 28, 3) := by decide +kernel
theorem dX7_lookAtFlag_59 : decode cX7_lookAtFlag 59 = .ok (.iload_n 1, 1) := by decide +kernel
theorem dX7_lookAtFlag_60 : decode cX7_lookAtFlag 60 = .ok (.laload, 1) := by decide +kernel
theorem dX7_lookAtFlag_61 : decode cX7_lookAtFlag 61 = .ok (.lastore, 1) := by decide +kernel
theorem dX7_lookAtFlag_62 : decode cX7_lookAtFlag 62 = .ok (.return_, 1) := by decide +kernel
theorem dX7_sell_0 : decode cX7_sell 0 = .ok (.aload_n 0, 1) := by decide +kernel
theorem dX7_sell_1 : decode cX7_sell 1 = .ok (.aload_n 0, 1) := by decide +kernel
theorem dX7_sell_2 : decode cX7_sell 2 = .ok (.iload_n 1, 1) := by decide +kernel
theorem dX7_sell_3 : decode cX7_sell 3 = .ok (.invokevirtual 138, 3) := by decide +kernel
theorem dX7_sell_6 : decode cX7_sell 6 = .ok (.ifCond .eq 19, 3) := by decide +kernel
theorem dX7_sell_9 : decode cX7_sell 9 = .ok (.aload_n 0, 1) := by decide +kernel
theorem dX7_sell_10 : decode cX7_sell 10 = .ok (.iload_n 2, 1) := by decide +kernel
theorem dX7_sell_11 : decode cX7_sell 11 = .ok (.invokevirtual 105, 3) := by decide +kernel
theorem dX7_sell_14 : decode cX7_sell 14 = .ok (.ifCond .eq 11, 3) := by decide +kernel
theorem dX7_sell_17 : decode cX7_sell 17 = .ok (.aload_n 0, 1) := by decide +kernel
theorem dX7_sell_18 : decode cX7_sell 18 = .ok (.iload_n 3, 1) := by decide +kernel
theorem dX7_sell_19 : decode cX7_sell 19 = .ok (.invokevirtual 105, 3) := by decide +kernel
theorem dX7_sell_22 : decode cX7_sell 22 = .ok (.ifCond .ne 7, 3) := by decide +kernel
theorem dX7_sell_25 : decode cX7_sell 25 = .ok (.iconst 1, 1) := by decide +kernel
theorem dX7_sell_26 : decode cX7_sell 26 = .ok (.goto 24, 3) := by decide +kernel
theorem dX7_sell_29 : decode cX7_sell 29 = .ok (.iload_n 2, 1) := by decide +kernel
theorem dX7_sell_30 : decode cX7_sell 30 = .ok (.iload_n 3, 1) := by decide +kernel
theorem dX7_sell_31 : decode cX7_sell 31 = .ok (.if_icmp .eq 14, 3) := by decide +kernel
theorem dX7_sell_34 : decode cX7_sell 34 = .ok (.iload 4, 2) := by decide +kernel
theorem dX7_sell_36 : decode cX7_sell 36 = .ok (.iconst 1, 1) := by decide +kernel
theorem dX7_sell_37 : decode cX7_sell 37 = .ok (.bipush 64, 2) := by decide +kernel
theorem dX7_sell_39 : decode cX7_sell 39 = .ok (.invokestatic 85, 3) := by decide +kernel
theorem dX7_sell_42 : decode cX7_sell 42 = .ok (.ifCond .ne 7, 3) := by decide +kernel
theorem dX7_sell_45 : decode cX7_sell 45 = .ok (.iconst 2, 1) := by decide +kernel
theorem dX7_sell_46 : decode cX7_sell 46 = .ok (.goto 4, 3) := by decide +kernel
theorem dX7_sell_49 : decode cX7_sell 49 = .ok (.iconst 0, 1) := by decide +kernel
theorem dX7_sell_50 : decode cX7_sell 50 = .ok (.putfield 81, 3) := by decide +kernel
theorem dX7_sell_53 : decode cX7_sell 53 = .ok (.aload_n 0, 1) := by decide +kernel
theorem dX7_sell_54 : decode cX7_sell 54 = .ok (.getfield 81, 3) := by decide +kernel
theorem dX7_sell_57 : decode cX7_sell 57 = .ok (.ifCond .ne 28, 3) := by decide +kernel
theorem dX7_sell_60 : decode cX7_sell 60 = .ok (.aload_n 0, 1) := by decide +kernel
theorem dX7_sell_61 : decode cX7_sell 61 = .ok (.aload_n 0, 1) := by decide +kernel
theorem dX7_sell_62 : decode cX7_sell 62 = .ok (.getfield 22, 3) := by decide +kernel
theorem dX7_sell_65 : decode cX7_sell 65 = .ok (.bipush 10, 2) := by decide +kernel
theorem dX7_sell_67 : decode cX7_sell 67 = .ok (.iload_n 1, 1) := by decide +kernel
theorem dX7_sell_68 : decode cX7_sell 68 = .ok (.imul, 1) := by decide +kernel
theorem dX7_sell_69 : decode cX7_sell 69 = .ok (.iload_n 2, 1) := by decide +kernel
theorem dX7_sell_70 : decode cX7_sell 70 = .ok (.iadd, 1) := by decide +kernel
theorem dX7_sell_71 : decode cX7_sell 71 = .ok (.iaload, 1) := by decide +kernel
theorem dX7_sell_72 : decode cX7_sell 72 = .ok (.iload 4, 2) := by decide +kernel
theorem dX7_sell_74 : decode cX7_sell 74 = .ok (.if_icmp .ge 7, 3) := by decide +kernel
theorem dX7_sell_77 : decode cX7_sell 77 = .ok (.iconst 3, 1) := by decide +kernel
theorem dX7_sell_78 : decode cX7_sell 78 = .ok (.goto 4, 3) := by decide +kernel
theorem dX7_sell_81 : decode cX7_sell 81 = .ok (.iconst 0, 1) := by decide +kernel
theorem dX7_sell_82 : decode cX7_sell 82 = .ok (.putfield 81, 3) := by decide +kernel
theorem dX7_sell_85 : decode cX7_sell 85 = .ok (.aload_n 0, 1) := by decide +kernel
theorem dX7_sell_86 : decode cX7_sell 86 = .ok (.getfield 81, 3) := by decide +kernel
theorem dX7_sell_89 : decode cX7_sell 89 = .ok (.ifCond .le 5, 3) := by decide +kernel
theorem dX7_sell_92 : decode cX7_sell 92 = .ok (.iconst 0, 1) := by decide +kernel
theorem dX7_sell_93 : decode cX7_sell 93 = .ok (.ireturn, 1) := by decide +kernel
theorem dX7_sell_94 : decode cX7_sell 94 = .ok (.aload_n 0, 1) := by decide +kernel
theorem dX7_sell_95 : decode cX7_sell 95 = .ok (.getfield 22, 3) := by decide +kernel
theorem dX7_sell_98 : decode cX7_sell 98 = .ok (.bipush 10, 2) := by decide +kernel
theorem dX7_sell_100 : decode cX7_sell 100 = .ok (.iload_n 1, 1) := by decide +kernel
theorem dX7_sell_101 : decode cX7_sell 101 = .ok (.imul, 1) := by decide +kernel
theorem dX7_sell_102 : decode cX7_sell 102 = .ok (.iload_n 2, 1) := by decide +kernel
theorem dX7_sell_103 : decode cX7_sell 103 = .ok (.iadd, 1) := by decide +kernel
theorem dX7_sell_104 : decode cX7_sell 104 = .ok (.dup2, 1) := by decide +kernel
theorem dX7_sell_105 : decode cX7_sell 105 = .ok (.iaload, 1) := by decide +kernel
theorem dX7_sell_106 : decode cX7_sell 106 = .ok (.iload 4, 2) := by decide +kernel
theorem dX7_sell_108 : decode cX7_sell 108 = .ok (.isub, 1) := by decide +kernel
theorem dX7_sell_109 : decode cX7_sell 109 = .ok (.iastore, 1) := by decide +kernel
theorem dX7_sell_110 : decode cX7_sell 110 = .ok (.aload_n 0, 1) := by decide +kernel
theorem dX7_sell_111 : decode cX7_sell 111 = .ok (.getfield 22, 3) := by decide +kernel
theorem dX7_sell_114 : decode cX7_sell 114 = .ok (.bipush 10, 2) := by decide +kernel
theorem dX7_sell_116 : decode cX7_sell 116 = .ok (.iload_n 1, 1) := by decide +kernel
theorem dX7_sell_117 : decode cX7_sell 117 = .ok (.imul, 1) := by decide +kernel
theorem dX7_sell_118 : decode cX7_sell 118 = .ok (.iload_n 3, 1) := by decide +kernel
theorem dX7_sell_119 : decode cX7_sell 119 = .ok (.iadd, 1) := by decide +kernel
theorem dX7_sell_120 : decode cX7_sell 120 = .ok (.dup2, 1) := by decide +kernel
theorem dX7_sell_121 : decode cX7_sell 121 = .ok (.iaload, 1) := by decide +kernel
theorem dX7_sell_122 : decode cX7_sell 122 = .ok (.iload 4, 2) := by decide +kernel
theorem dX7_sell_124 : decode cX7_sell 124 = .ok (.iadd, 1) := by decide +kernel
theorem dX7_sell_125 : decode cX7_sell 125 = .ok (.iastore, 1) := by decide +kernel
theorem dX7_sell_126 : decode cX7_sell 126 = .ok (.aload_n 0, 1) := by decide +kernel
theorem dX7_sell_127 : decode cX7_sell 127 = .ok (.iload_n 1, 1) := by decide +kernel
theorem dX7_sell_128 : decode cX7_sell 128 = .ok (.invokevirtual 108, 3) := by decide +kernel
theorem dX7_sell_131 : decode cX7_sell 131 = .ok (.aload_n 0, 1) := by decide +kernel
theorem dX7_sell_132 : decode cX7_sell 132 = .ok (.getfield 22, 3) := by decide +kernel
theorem dX7_sell_135 : decode cX7_sell 135 = .ok (.bipush 10, 2) := by decide +kernel
theorem dX7_sell_137 : decode cX7_sell 137 = .ok (.iload_n 1, 1) := by decide +kernel
theorem dX7_sell_138 : decode cX7_sell 138 = .ok (.imul, 1) := by decide +kernel
theorem dX7_sell_139 : decode cX7_sell 139 = .ok (.iload_n 3, 1) := by decide +kernel
theorem dX7_sell_140 : decode cX7_sell 140 = .ok (.iadd, 1) := by decide +kernel
theorem dX7_sell_141 : decode cX7_sell 141 = .ok (.iaload, 1) := by decide +kernel
theorem dX7_sell_142 : decode cX7_sell 142 = .ok (.ireturn, 1) := by decide +kernel
theorem dX7_flagNow_0 : decode cX7_flagNow 0 = .ok (.aload_n 0, 1) := by decide +kernel
theorem dX7_flagNow_1 : decode cX7_flagNow 1 = .ok (.getfield 28, 3) := by decide +kernel
theorem dX7_flagNow_4 : decode cX7_flagNow 4 = .ok (.iload_n 1, 1) := by decide +kernel
theorem dX7_flagNow_5 : decode cX7_flagNow 5 = .ok (.laload, 1) := by decide +kernel
theorem dX7_flagNow_6 : decode cX7_flagNow 6 = .ok (.ldc2_w 128, 3) := by decide +kernel
theorem dX7_flagNow_9 : decode cX7_flagNow 9 = .ok (.lcmp, 1) := by decide +kernel
theorem dX7_flagNow_10 : decode cX7_flagNow 10 = .ok (.ifCond .eq 21, 3) := by decide +kernel
theorem dX7_flagNow_13 : decode cX7_flagNow 13 = .ok (.aload_n 0, 1) := by decide +kernel
theorem dX7_flagNow_14 : decode cX7_flagNow 14 = .ok (.getfield 134, 3) := by decide +kernel
theorem dX7_flagNow_17 : decode cX7_flagNow 17 = .ok (.aload_n 0, 1) := by decide +kernel
theorem dX7_flagNow_18 : decode cX7_flagNow 18 = .ok (.getfield 28, 3) := by decide +kernel
theorem dX7_flagNow_21 : decode cX7_flagNow 21 = .ok (.iload_n 1, 1) := by decide +kernel
theorem dX7_flagNow_22 : decode cX7_flagNow 22 = .ok (.laload, 1) := by decide +kernel
theorem dX7_flagNow_23 : decode cX7_flagNow 23 = .ok (.lsub, 1) := by decide +kernel
theorem dX7_flagNow_24 : decode cX7_flagNow 24 = .ok (.ldc2_w 141, 3) := by decide +kernel
theorem dX7_flagNow_27 : decode cX7_flagNow 27 = .ok (.lcmp, 1) := by decide +kernel
theorem dX7_flagNow_28 : decode cX7_flagNow 28 = .ok (.ifCond .ge 12, 3) := by decide +kernel
theorem dX7_flagNow_31 : decode cX7_flagNow 31 = .ok (.aload_n 0, 1) := by decide +kernel
theorem dX7_flagNow_32 : decode cX7_flagNow 32 = .ok (.getfield 25, 3) := by decide +kernel
theorem dX7_flagNow_35 : decode cX7_flagNow 35 = .ok (.iload_n 1, 1) := by decide +kernel
theorem dX7_flagNow_36 : decode cX7_flagNow 36 = .ok (.iaload, 1) := by decide +kernel
theorem dX7_flagNow_37 : decode cX7_flagNow 37 = .ok (.goto 4, 3) := by decide +kernel
theorem dX7_flagNow_40 : decode cX7_flagNow 40 = .ok (.iconst (-1), 1) := by decide +kernel
theorem dX7_flagNow_41 : decode cX7_flagNow 41 = .ok (.ireturn, 1) := by decide +kernel
theorem dX7_fly_0 : decode cX7_fly 0 = .ok (.aload_n 0, 1) := by decide +kernel
theorem dX7_fly_1 : decode cX7_fly 1 = .ok (.aload_n 0, 1) := by decide +kernel
theorem dX7_fly_2 : decode cX7_fly 2 = .ok (.iload_n 1, 1) := by decide +kernel
theorem dX7_fly_3 : decode cX7_fly 3 = .ok (.invokevirtual 138, 3) := by decide +kernel
theorem dX7_fly_6 : decode cX7_fly 6 = .ok (.ifCond .eq 10, 3) := by decide +kernel
theorem dX7_fly_9 : decode cX7_fly 9 = .ok (.iload_n 2, 1) := by decide +kernel
theorem dX7_fly_10 : decode cX7_fly 10 = .ok (.invokestatic 101, 3) := by decide +kernel
theorem dX7_fly_13 : decode cX7_fly 13 = .ok (.ifCond .ne 7, 3) := by decide +kernel
theorem dX7_fly_16 : decode cX7_fly 16 = .ok (.iconst 1, 1) := by decide +kernel
theorem dX7_fly_17 : decode cX7_fly 17 = .ok (.goto 17, 3) := by decide +kernel
theorem dX7_fly_20 : decode cX7_fly 20 = .ok (.aload_n 0, 1) := by decide +kernel
theorem dX7_fly_21 : decode cX7_fly 21 = .ok (.iload_n 1, 1) := by decide +kernel
theorem dX7_fly_22 : decode cX7_fly 22 = .ok (.iload_n 2, 1) := by decide +kernel
theorem dX7_fly_23 : decode cX7_fly 23 = .ok (.invokevirtual 130, 3) := by decide +kernel
theorem dX7_fly_26 : decode cX7_fly 26 = .ok (.ifCond .eq 7, 3) := by decide +kernel
theorem dX7_fly_29 : decode cX7_fly 29 = .ok (.iconst 0, 1) := by decide +kernel
theorem dX7_fly_30 : decode cX7_fly 30 = .ok (.goto 4, 3) := by decide +kernel
theorem dX7_fly_33 : decode cX7_fly 33 = .ok (.iconst 2, 1) := by decide +kernel
theorem dX7_fly_34 : decode cX7_fly 34 = .ok (.putfield 81, 3) := by decide +kernel
theorem dX7_fly_37 : decode cX7_fly 37 = .ok (.aload_n 0, 1) := by decide +kernel
theorem dX7_fly_38 : decode cX7_fly 38 = .ok (.getfield 81, 3) := by decide +kernel
theorem dX7_fly_41 : decode cX7_fly 41 = .ok (.ifCond .le 5, 3) := by decide +kernel
theorem dX7_fly_44 : decode cX7_fly 44 = .ok (.iconst 0, 1) := by decide +kernel
theorem dX7_fly_45 : decode cX7_fly 45 = .ok (.ireturn, 1) := by decide +kernel
theorem dX7_fly_46 : decode cX7_fly 46 = .ok (.aload_n 0, 1) := by decide +kernel
theorem dX7_fly_47 : decode cX7_fly 47 = .ok (.iload_n 1, 1) := by decide +kernel
theorem dX7_fly_48 : decode cX7_fly 48 = .ok (.invokevirtual 143, 3) := by decide +kernel
theorem dX7_fly_51 : decode cX7_fly 51 = .ok (.istore_n 3, 1) := by decide +kernel
theorem dX7_fly_52 : decode cX7_fly 52 = .ok (.aload_n 0, 1) := by decide +kernel
theorem dX7_fly_53 : decode cX7_fly 53 = .ok (.getfield 25, 3) := by decide +kernel
theorem dX7_fly_56 : decode cX7_fly 56 = .ok (.iload_n 1, 1) := by decide +kernel
theorem dX7_fly_57 : decode cX7_fly 57 = .ok (.iload_n 2, 1) := by decide +kernel
theorem dX7_fly_58 : decode cX7_fly 58 = .ok (.iastore, 1) := by decide +kernel
theorem dX7_fly_59 : decode cX7_fly 59 = .ok (.aload_n 0, 1) := by decide +kernel
theorem dX7_fly_60 : decode cX7_fly 60 = .ok (.getfield 28, 3) := by decide +kernel
theorem dX7_fly_63 : decode cX7_fly 63 = .ok (.iload_n 1, 1) := by decide +kernel
theorem dX7_fly_64 : decode cX7_fly 64 = .ok (.ldc2_w 128, 3) := by decide +kernel
theorem dX7_fly_67 : decode cX7_fly 67 = .ok (.lastore, 1) := by decide +kernel
theorem dX7_fly_68 : decode cX7_fly 68 = .ok (.iload_n 3, 1) := by decide +kernel
theorem dX7_fly_69 : decode cX7_fly 69 = .ok (.ireturn, 1) := by decide +kernel
theorem dX7_enter_0 : decode cX7_enter 0 = .ok (.aload_n 0, 1) := by decide +kernel
theorem dX7_enter_1 : decode cX7_enter 1 = .ok (.getfield 32, 3) := by decide +kernel
theorem dX7_enter_4 : decode cX7_enter 4 = .ok (.aload_n 0, 1) := by decide +kernel
theorem dX7_enter_5 : decode cX7_enter 5 = .ok (.getfield 146, 3) := by decide +kernel
theorem dX7_enter_8 : decode cX7_enter 8 = .ok (.iload_n 1, 1) := by decide +kernel
theorem dX7_enter_9 : decode cX7_enter 9 = .ok (.iastore, 1) := by decide +kernel
theorem dX7_enter_10 : decode cX7_enter 10 = .ok (.aload_n 0, 1) := by decide +kernel
theorem dX7_enter_11 : decode cX7_enter 11 = .ok (.getfield 35, 3) := by decide +kernel
theorem dX7_enter_14 : decode cX7_enter 14 = .ok (.aload_n 0, 1) := by decide +kernel
theorem dX7_enter_15 : decode cX7_enter 15 = .ok (.getfield 146, 3) := by decide +kernel
theorem dX7_enter_18 : decode cX7_enter 18 = .ok (.iload_n 2, 1) := by decide +kernel
theorem dX7_enter_19 : decode cX7_enter 19 = .ok (.iastore, 1) := by decide +kernel
theorem dX7_enter_20 : decode cX7_enter 20 = .ok (.aload_n 0, 1) := by decide +kernel
theorem dX7_enter_21 : decode cX7_enter 21 = .ok (.getfield 38, 3) := by decide +kernel
theorem dX7_enter_24 : decode cX7_enter 24 = .ok (.aload_n 0, 1) := by decide +kernel
theorem dX7_enter_25 : decode cX7_enter 25 = .ok (.getfield 146, 3) := by decide +kernel
theorem dX7_enter_28 : decode cX7_enter 28 = .ok (.iload_n 3, 1) := by decide +kernel
theorem dX7_enter_29 : decode cX7_enter 29 = .ok (.iastore, 1) := by decide +kernel
theorem dX7_enter_30 : decode cX7_enter 30 = .ok (.aload_n 0, 1) := by decide +kernel
theorem dX7_enter_31 : decode cX7_enter 31 = .ok (.getfield 41, 3) := by decide +kernel
theorem dX7_enter_34 : decode cX7_enter 34 = .ok (.aload_n 0, 1) := by decide +kernel
theorem dX7_enter_35 : decode cX7_enter 35 = .ok (.getfield 146, 3) := by decide +kernel
theorem dX7_enter_38 : decode cX7_enter 38 = .ok (.iload 4, 2) := by decide +kernel
theorem dX7_enter_40 : decode cX7_enter 40 = .ok (.iastore, 1) := by decide +kernel
theorem dX7_enter_41 : decode cX7_enter 41 = .ok (.aload_n 0, 1) := by decide +kernel
theorem dX7_enter_42 : decode cX7_enter 42 = .ok (.getfield 44, 3) := by decide +kernel
theorem dX7_enter_45 : decode cX7_enter 45 = .ok (.aload_n 0, 1) := by decide +kernel
theorem dX7_enter_46 : decode cX7_enter 46 = .ok (.getfield 146, 3) := by decide +kernel
theorem dX7_enter_49 : decode cX7_enter 49 = .ok (.iload 5, 2) := by decide +kernel
theorem dX7_enter_51 : decode cX7_enter 51 = .ok (.iastore, 1) := by decide +kernel
theorem dX7_enter_52 : decode cX7_enter 52 = .ok (.aload_n 0, 1) := by decide +kernel
theorem dX7_enter_53 : decode cX7_enter 53 = .ok (.getfield 47, 3) := by decide +kernel
theorem dX7_enter_56 : decode cX7_enter 56 = .ok (.aload_n 0, 1) := by decide +kernel
theorem dX7_enter_57 : decode cX7_enter 57 = .ok (.getfield 146, 3) := by decide +kernel
theorem dX7_enter_60 : decode cX7_enter 60 = .ok (.aload_n 0, 1) := by decide +kernel
theorem dX7_enter_61 : decode cX7_enter 61 = .ok (.getfield 134, 3) := by decide +kernel
theorem dX7_enter_64 : decode cX7_enter 64 = .ok (.lastore, 1) := by decide +kernel
theorem dX7_enter_65 : decode cX7_enter 65 = .ok (.aload_n 0, 1) := by decide +kernel
theorem dX7_enter_66 : decode cX7_enter 66 = .ok (.dup, 1) := by decide +kernel
theorem dX7_enter_67 : decode cX7_enter 67 = .ok (.getfield 146, 3) := by decide +kernel
theorem dX7_enter_70 : decode cX7_enter 70 = .ok (.iconst 1, 1) := by decide +kernel
theorem dX7_enter_71 : decode cX7_enter 71 = .ok (.iadd, 1) := by decide +kernel
theorem dX7_enter_72 : decode cX7_enter 72 = .ok (.putfield 146, 3) := by decide +kernel
theorem dX7_enter_75 : decode cX7_enter 75 = .ok (.aload_n 0, 1) := by decide +kernel
theorem dX7_enter_76 : decode cX7_enter 76 = .ok (.getfield 146, 3) := by decide +kernel
theorem dX7_enter_79 : decode cX7_enter 79 = .ok (.ireturn, 1) := by decide +kernel
theorem dX7_notice_0 : decode cX7_notice 0 = .ok (.aload_n 0, 1) := by decide +kernel
theorem dX7_notice_1 : decode cX7_notice 1 = .ok (.aload_n 0, 1) := by decide +kernel
theorem dX7_notice_2 : decode cX7_notice 2 = .ok (.iload_n 1, 1) := by decide +kernel
theorem dX7_notice_3 : decode cX7_notice 3 = .ok (.invokevirtual 138, 3) := by decide +kernel
theorem dX7_notice_6 : decode cX7_notice 6 = .ok (.ifCond .eq 11, 3) := by decide +kernel
theorem dX7_notice_9 : decode cX7_notice 9 = .ok (.aload_n 0, 1) := by decide +kernel
theorem dX7_notice_10 : decode cX7_notice 10 = .ok (.iload_n 2, 1) := by decide +kernel
theorem dX7_notice_11 : decode cX7_notice 11 = .ok (.invokevirtual 105, 3) := by decide +kernel
theorem dX7_notice_14 : decode cX7_notice 14 = .ok (.ifCond .ne 7, 3) := by decide +kernel
theorem dX7_notice_17 : decode cX7_notice 17 = .ok (.iconst 1, 1) := by decide +kernel
theorem dX7_notice_18 : decode cX7_notice 18 = .ok (.goto 17, 3) := by decide +kernel
theorem dX7_notice_21 : decode cX7_notice 21 = .ok (.aload_n 0, 1) := by decide +kernel
theorem dX7_notice_22 : decode cX7_notice 22 = .ok (.getfield 146, 3) := by decide +kernel
theorem dX7_notice_25 : decode cX7_notice 25 = .ok (.bipush 60, 2) := by decide +kernel
theorem dX7_notice_27 : decode cX7_notice 27 = .ok (.if_icmp .ne 7, 3) := by decide +kernel
theorem dX7_notice_30 : decode cX7_notice 30 = .ok (.iconst 2, 1) := by decide +kernel
theorem dX7_notice_31 : decode cX7_notice 31 = .ok (.goto 4, 3) := by decide +kernel
theorem dX7_notice_34 : decode cX7_notice 34 = .ok (.iconst 0, 1) := by decide +kernel
theorem dX7_notice_35 : decode cX7_notice 35 = .ok (.putfield 81, 3) := by decide +kernel
theorem dX7_notice_38 : decode cX7_notice 38 = .ok (.aload_n 0, 1) := by decide +kernel
theorem dX7_notice_39 : decode cX7_notice 39 = .ok (.getfield 81, 3) := by decide +kernel
theorem dX7_notice_42 : decode cX7_notice 42 = .ok (.ifCond .ne 15, 3) := by decide +kernel
theorem dX7_notice_45 : decode cX7_notice 45 = .ok (.aload_n 0, 1) := by decide +kernel
theorem dX7_notice_46 : decode cX7_notice 46 = .ok (.iconst 0, 1) := by decide +kernel
theorem dX7_notice_47 : decode cX7_notice 47 = .ok (.iload_n 1, 1) := by decide +kernel
theorem dX7_notice_48 : decode cX7_notice 48 = .ok (.iload_n 2, 1) := by decide +kernel
theorem dX7_notice_49 : decode cX7_notice 49 = .ok (.iconst 0, 1) := by decide +kernel
theorem dX7_notice_50 : decode cX7_notice 50 = .ok (.iconst 0, 1) := by decide +kernel
theorem dX7_notice_51 : decode cX7_notice 51 = .ok (.invokevirtual 149, 3) := by decide +kernel
theorem dX7_notice_54 : decode cX7_notice 54 = .ok (.goto 4, 3) := by decide +kernel
theorem dX7_notice_57 : decode cX7_notice 57 = .ok (.iconst 0, 1) := by decide +kernel
theorem dX7_notice_58 : decode cX7_notice 58 = .ok (.ireturn, 1) := by decide +kernel
theorem dX7_noticeFor_0 : decode cX7_noticeFor 0 = .ok (.iconst 0, 1) := by decide +kernel
theorem dX7_noticeFor_1 : decode cX7_noticeFor 1 = .ok (.istore_n 3, 1) := by decide +kernel
theorem dX7_noticeFor_2 : decode cX7_noticeFor 2 = .ok (.iload_n 3, 1) := by decide +kernel
theorem dX7_noticeFor_3 : decode cX7_noticeFor 3 = .ok (.aload_n 0, 1) := by decide +kernel
theorem dX7_noticeFor_4 : decode cX7_noticeFor 4 = .ok (.getfield 146, 3) := by decide +kernel
theorem dX7_noticeFor_7 : decode cX7_noticeFor 7 = .ok (.if_icmp .ge 74, 3) := by decide +kernel
theorem dX7_noticeFor_10 : decode cX7_noticeFor 10 = .ok (.aload_n 0, 1) := by decide +kernel
theorem dX7_noticeFor_11 : decode cX7_noticeFor 11 = .ok (.getfield 32, 3) := by decide +kernel
theorem dX7_noticeFor_14 : decode cX7_noticeFor 14 = .ok (.iload_n 3, 1) := by decide +kernel
theorem dX7_noticeFor_15 : decode cX7_noticeFor 15 = .ok (.iaload, 1) := by decide +kernel
theorem dX7_noticeFor_16 : decode cX7_noticeFor 16 = .ok (.ifCond .ne 59, 3) := by decide +kernel
theorem dX7_noticeFor_19 : decode cX7_noticeFor 19 = .ok (.aload_n 0, 1) := by decide +kernel
theorem dX7_noticeFor_20 : decode cX7_noticeFor 20 = .ok (.getfield 35, 3) := by decide +kernel
theorem dX7_noticeFor_23 : decode cX7_noticeFor 23 = .ok (.iload_n 3, 1) := by decide +kernel
theorem dX7_noticeFor_24 : decode cX7_noticeFor 24 = .ok (.iaload, 1) := by decide +kernel
theorem dX7_noticeFor_25 : decode cX7_noticeFor 25 = .ok (.iload_n 1, 1) := by decide +kernel
theorem dX7_noticeFor_26 : decode cX7_noticeFor 26 = .ok (.if_icmp .ne 49, 3) := by decide +kernel
theorem dX7_noticeFor_29 : decode cX7_noticeFor 29 = .ok (.aload_n 0, 1) := by decide +kernel
theorem dX7_noticeFor_30 : decode cX7_noticeFor 30 = .ok (.getfield 38, 3) := by decide +kernel
theorem dX7_noticeFor_33 : decode cX7_noticeFor 33 = .ok (.iload_n 3, 1) := by decide +kernel
theorem dX7_noticeFor_34 : decode cX7_noticeFor 34 = .ok (.iaload, 1) := by decide +kernel
theorem dX7_noticeFor_35 : decode cX7_noticeFor 35 = .ok (.iload_n 2, 1) := by decide +kernel
theorem dX7_noticeFor_36 : decode cX7_noticeFor 36 = .ok (.if_icmp .ne 39, 3) := by decide +kernel
theorem dX7_noticeFor_39 : decode cX7_noticeFor 39 = .ok (.aload_n 0, 1) := by decide +kernel
theorem dX7_noticeFor_40 : decode cX7_noticeFor 40 = .ok (.getfield 50, 3) := by decide +kernel
theorem dX7_noticeFor_43 : decode cX7_noticeFor 43 = .ok (.iload_n 3, 1) := by decide +kernel
theorem dX7_noticeFor_44 : decode cX7_noticeFor 44 = .ok (.baload, 1) := by decide +kernel
theorem dX7_noticeFor_45 : decode cX7_noticeFor 45 = .ok (.ifCond .ne 30, 3) := by decide +kernel
theorem dX7_noticeFor_48 : decode cX7_noticeFor 48 = .ok (.aload_n 0, 1) := by decide +kernel
theorem dX7_noticeFor_49 : decode cX7_noticeFor 49 = .ok (.getfield 54, 3) := by decide +kernel
theorem dX7_noticeFor_52 : decode cX7_noticeFor 52 = .ok (.iload_n 3, 1) := by decide +kernel
theorem dX7_noticeFor_53 : decode cX7_noticeFor 53 = .ok (.baload, 1) := by decide +kernel
theorem dX7_noticeFor_54 : decode cX7_noticeFor 54 = .ok (.ifCond .ne 21, 3) := by decide +kernel
theorem dX7_noticeFor_57 : decode cX7_noticeFor 57 = .ok (.aload_n 0, 1) := by decide +kernel
theorem dX7_noticeFor_58 : decode cX7_noticeFor 58 = .ok (.getfield 134, 3) := by decide +kernel
theorem dX7_noticeFor_61 : decode cX7_noticeFor 61 = .ok (.aload_n 0, 1) := by decide +kernel
theorem dX7_noticeFor_62 : decode cX7_noticeFor 62 = .ok (.getfield 47, 3) := by decide +kernel
theorem dX7_noticeFor_65 : decode cX7_noticeFor 65 = .ok (.iload_n 3, 1) := by decide +kernel
theorem dX7_noticeFor_66 : decode cX7_noticeFor 66 = .ok (.laload, 1) := by decide +kernel
theorem dX7_noticeFor_67 : decode cX7_noticeFor 67 = .ok (.lsub, 1) := by decide +kernel
theorem dX7_noticeFor_68 : decode cX7_noticeFor 68 = .ok (.ldc2_w 153, 3) := by decide +kernel
theorem dX7_noticeFor_71 : decode cX7_noticeFor 71 = .ok (.lcmp, 1) := by decide +kernel
theorem dX7_noticeFor_72 : decode cX7_noticeFor 72 = .ok (.ifCond .le 9, 3) := by decide +kernel
theorem dX7_noticeFor_75 : decode cX7_noticeFor 75 = .ok (.iinc 3 1, 3) := by decide +kernel
theorem dX7_noticeFor_78 : decode cX7_noticeFor 78 = .ok (.goto (-76), 3) := by decide +kernel
theorem dX7_noticeFor_81 : decode cX7_noticeFor 81 = .ok (.iload_n 3, 1) := by decide +kernel
theorem dX7_noticeFor_82 : decode cX7_noticeFor 82 = .ok (.aload_n 0, 1) := by decide +kernel
theorem dX7_noticeFor_83 : decode cX7_noticeFor 83 = .ok (.getfield 146, 3) := by decide +kernel
theorem dX7_noticeFor_86 : decode cX7_noticeFor 86 = .ok (.if_icmp .ge 7, 3) := by decide +kernel
theorem dX7_noticeFor_89 : decode cX7_noticeFor 89 = .ok (.iload_n 3, 1) := by decide +kernel
theorem dX7_noticeFor_90 : decode cX7_noticeFor 90 = .ok (.goto 4, 3) := by decide +kernel
theorem dX7_noticeFor_93 : decode cX7_noticeFor 93 = .ok (.iconst (-1), 1) := by decide +kernel
theorem dX7_noticeFor_94 : decode cX7_noticeFor 94 = .ok (.ireturn, 1) := by decide +kernel
theorem dX7_mortgage_0 : decode cX7_mortgage 0 = .ok (.aload_n 0, 1) := by decide +kernel
theorem dX7_mortgage_1 : decode cX7_mortgage 1 = .ok (.aload_n 0, 1) := by decide +kernel
theorem dX7_mortgage_2 : decode cX7_mortgage 2 = .ok (.iload_n 1, 1) := by decide +kernel
theorem dX7_mortgage_3 : decode cX7_mortgage 3 = .ok (.invokevirtual 138, 3) := by decide +kernel
theorem dX7_mortgage_6 : decode cX7_mortgage 6 = .ok (.ifCond .eq 11, 3) := by decide +kernel
theorem dX7_mortgage_9 : decode cX7_mortgage 9 = .ok (.aload_n 0, 1) := by decide +kernel
theorem dX7_mortgage_10 : decode cX7_mortgage 10 = .ok (.iload_n 2, 1) := by decide +kernel
theorem dX7_mortgage_11 : decode cX7_mortgage 11 = .ok (.invokevirtual 105, 3) := by decide +kernel
theorem dX7_mortgage_14 : decode cX7_mortgage 14 = .ok (.ifCond .ne 7, 3) := by decide +kernel
theorem dX7_mortgage_17 : decode cX7_mortgage 17 = .ok (.iconst 1, 1) := by decide +kernel
theorem dX7_mortgage_18 : decode cX7_mortgage 18 = .ok (.goto 31, 3) := by decide +kernel
theorem dX7_mortgage_21 : decode cX7_mortgage 21 = .ok (.iload_n 3, 1) := by decide +kernel
theorem dX7_mortgage_22 : decode cX7_mortgage 22 = .ok (.iconst 1, 1) := by decide +kernel
theorem dX7_mortgage_23 : decode cX7_mortgage 23 = .ok (.ldc 155, 2) := by decide +kernel
theorem dX7_mortgage_25 : decode cX7_mortgage 25 = .ok (.invokestatic 85, 3) := by decide +kernel
theorem dX7_mortgage_28 : decode cX7_mortgage 28 = .ok (.ifCond .ne 7, 3) := by decide +kernel
theorem dX7_mortgage_31 : decode cX7_mortgage 31 = .ok (.iconst 2, 1) := by decide +kernel
theorem dX7_mortgage_32 : decode cX7_mortgage 32 = .ok (.goto 17, 3) := by decide +kernel
theorem dX7_mortgage_35 : decode cX7_mortgage 35 = .ok (.aload_n 0, 1) := by decide +kernel
theorem dX7_mortgage_36 : decode cX7_mortgage 36 = .ok (.getfield 146, 3) := by decide +kernel
theorem dX7_mortgage_39 : decode cX7_mortgage 39 = .ok (.bipush 60, 2) := by decide +kernel
theorem dX7_mortgage_41 : decode cX7_mortgage 41 = .ok (.if_icmp .ne 7, 3) := by decide +kernel
theorem dX7_mortgage_44 : decode cX7_mortgage 44 = .ok (.iconst 3, 1) := by decide +kernel
theorem dX7_mortgage_45 : decode cX7_mortgage 45 = .ok (.goto 4, 3) := by decide +kernel
theorem dX7_mortgage_48 : decode cX7_mortgage 48 = .ok (.iconst 0, 1) := by decide +kernel
theorem dX7_mortgage_49 : decode cX7_mortgage 49 = .ok (.putfield 81, 3) := by decide +kernel
theorem dX7_mortgage_52 : decode cX7_mortgage 52 = .ok (.aload_n 0, 1) := by decide +kernel
theorem dX7_mortgage_53 : decode cX7_mortgage 53 = .ok (.getfield 81, 3) := by decide +kernel
theorem dX7_mortgage_56 : decode cX7_mortgage 56 = .ok (.ifCond .le 5, 3) := by decide +kernel
theorem dX7_mortgage_59 : decode cX7_mortgage 59 = .ok (.iconst 0, 1) := by decide +kernel
theorem dX7_mortgage_60 : decode cX7_mortgage 60 = .ok (.ireturn, 1) := by decide +kernel
theorem dX7_mortgage_61 : decode cX7_mortgage 61 = .ok (.aload_n 0, 1) := by decide +kernel
theorem dX7_mortgage_62 : decode cX7_mortgage 62 = .ok (.iload_n 1, 1) := by decide +kernel
theorem dX7_mortgage_63 : decode cX7_mortgage 63 = .ok (.iload_n 2, 1) := by decide +kernel
theorem dX7_mortgage_64 : decode cX7_mortgage 64 = .ok (.invokevirtual 156, 3) := by decide +kernel
theorem dX7_mortgage_67 : decode cX7_mortgage 67 = .ok (.istore 4, 2) := by decide +kernel
theorem dX7_mortgage_69 : decode cX7_mortgage 69 = .ok (.aload_n 0, 1) := by decide +kernel
theorem dX7_mortgage_70 : decode cX7_mortgage 70 = .ok (.getfield 57, 3) := by decide +kernel
theorem dX7_mortgage_73 : decode cX7_mortgage 73 = .ok (.aload_n 0, 1) := by decide +kernel
theorem dX7_mortgage_74 : decode cX7_mortgage 74 = .ok (.getfield 95, 3) := by decide +kernel
theorem dX7_mortgage_77 : decode cX7_mortgage 77 = .ok (.aload_n 0, 1) := by decide +kernel
theorem dX7_mortgage_78 : decode cX7_mortgage 78 = .ok (.getfield 146, 3) := by decide +kernel
theorem dX7_mortgage_81 : decode cX7_mortgage 81 = .ok (.iastore, 1) := by decide +kernel
theorem dX7_mortgage_82 : decode cX7_mortgage 82 = .ok (.aload_n 0, 1) := by decide +kernel
theorem dX7_mortgage_83 : decode cX7_mortgage 83 = .ok (.getfield 60, 3) := by decide +kernel
theorem dX7_mortgage_86 : decode cX7_mortgage 86 = .ok (.aload_n 0, 1) := by decide +kernel
theorem dX7_mortgage_87 : decode cX7_mortgage 87 = .ok (.getfield 95, 3) := by decide +kernel
theorem dX7_mortgage_90 : decode cX7_mortgage 90 = .ok (.iload 4, 2) := by decide +kernel
theorem dX7_mortgage_92 : decode cX7_mortgage 92 = .ok (.iconst (-1), 1) := by decide +kernel
theorem dX7_mortgage_93 : decode cX7_mortgage 93 = .ok (.if_icmp .ne 10, 3) := by decide +kernel
theorem dX7_mortgage_96 : decode cX7_mortgage 96 = .ok (.aload_n 0, 1) := by decide +kernel
theorem dX7_mortgage_97 : decode cX7_mortgage 97 = .ok (.getfield 146, 3) := by decide +kernel
theorem dX7_mortgage_100 : decode cX7_mortgage 100 = .ok (.goto 5, 3) := by decide +kernel
theorem dX7_mortgage_103 : decode cX7_mortgage 103 = .ok (.iload 4, 2) := by decide +kernel
theorem dX7_mortgage_105 : decode cX7_mortgage 105 = .ok (.iastore, 1) := by decide +kernel
theorem dX7_mortgage_106 : decode cX7_mortgage 106 = .ok (.iload 4, 2) := by decide +kernel
theorem dX7_mortgage_108 : decode cX7_mortgage 108 = .ok (.iconst (-1), 1) := by decide +kernel
theorem dX7_mortgage_109 : decode cX7_mortgage 109 = .ok (.if_icmp .eq 11, 3) := by decide +kernel
theorem dX7_mortgage_112 : decode cX7_mortgage 112 = .ok (.aload_n 0, 1) := by decide +kernel
theorem dX7_mortgage_113 : decode cX7_mortgage 113 = .ok (.getfield 50, 3) := by decide +kernel
theorem dX7_mortgage_116 : decode cX7_mortgage 116 = .ok (.iload 4, 2) := by decide +kernel
theorem dX7_mortgage_118 : decode cX7_mortgage 118 = .ok (.iconst 1, 1) := by decide +kernel
theorem dX7_mortgage_119 : decode cX7_mortgage 119 = .ok (.bastore, 1) := by decide +kernel
theorem dX7_mortgage_120 : decode cX7_mortgage 120 = .ok (.aload_n 0, 1) := by decide +kernel
theorem dX7_mortgage_121 : decode cX7_mortgage 121 = .ok (.iconst 1, 1) := by decide +kernel
theorem dX7_mortgage_122 : decode cX7_mortgage 122 = .ok (.iload_n 1, 1) := by decide +kernel
theorem dX7_mortgage_123 : decode cX7_mortgage 123 = .ok (.iload_n 2, 1) := by decide +kernel
theorem dX7_mortgage_124 : decode cX7_mortgage 124 = .ok (.iload_n 3, 1) := by decide +kernel
theorem dX7_mortgage_125 : decode cX7_mortgage 125 = .ok (.aload_n 0, 1) := by decide +kernel
theorem dX7_mortgage_126 : decode cX7_mortgage 126 = .ok (.getfield 95, 3) := by decide +kernel
theorem dX7_mortgage_129 : decode cX7_mortgage 129 = .ok (.invokevirtual 149, 3) := by decide +kernel
theorem dX7_mortgage_132 : decode cX7_mortgage 132 = .ok (.istore 5, 2) := by decide +kernel
theorem dX7_mortgage_134 : decode cX7_mortgage 134 = .ok (.aload_n 0, 1) := by decide +kernel
theorem dX7_mortgage_135 : decode cX7_mortgage 135 = .ok (.dup, 1) := by decide +kernel
theorem dX7_mortgage_136 : decode cX7_mortgage 136 = .ok (.getfield 95, 3) := by decide +kernel
theorem dX7_mortgage_139 : decode cX7_mortgage 139 = .ok (.iconst 1, 1) := by decide +kernel
theorem dX7_mortgage_140 : decode cX7_mortgage 140 = .ok (.iadd, 1) := by decide +kernel
theorem dX7_mortgage_141 : decode cX7_mortgage 141 = .ok (.putfield 95, 3) := by decide +kernel
theorem dX7_mortgage_144 : decode cX7_mortgage 144 = .ok (.aload_n 0, 1) := by decide +kernel
theorem dX7_mortgage_145 : decode cX7_mortgage 145 = .ok (.getfield 95, 3) := by decide +kernel
theorem dX7_mortgage_148 : decode cX7_mortgage 148 = .ok (.iconst 1, 1) := by decide +kernel
theorem dX7_mortgage_149 : decode cX7_mortgage 149 = .ok (.isub, 1) := by decide +kernel
theorem dX7_mortgage_150 : decode cX7_mortgage 150 = .ok (.ireturn, 1) := by decide +kernel
theorem dX7_discharge_0 : decode cX7_discharge 0 = .ok (.aload_n 0, 1) := by decide +kernel
theorem dX7_discharge_1 : decode cX7_discharge 1 = .ok (.aload_n 0, 1) := by decide +kernel
theorem dX7_discharge_2 : decode cX7_discharge 2 = .ok (.iload_n 1, 1) := by decide +kernel
theorem dX7_discharge_3 : decode cX7_discharge 3 = .ok (.invokevirtual 160, 3) := by decide +kernel
theorem dX7_discharge_6 : decode cX7_discharge 6 = .ok (.ifCond .ne 7, 3) := by decide +kernel
theorem dX7_discharge_9 : decode cX7_discharge 9 = .ok (.iconst 1, 1) := by decide +kernel
theorem dX7_discharge_10 : decode cX7_discharge 10 = .ok (.goto 4, 3) := by decide +kernel
theorem dX7_discharge_13 : decode cX7_discharge 13 = .ok (.iconst 0, 1) := by decide +kernel
theorem dX7_discharge_14 : decode cX7_discharge 14 = .ok (.putfield 81, 3) := by decide +kernel
theorem dX7_discharge_17 : decode cX7_discharge 17 = .ok (.aload_n 0, 1) := by decide +kernel
theorem dX7_discharge_18 : decode cX7_discharge 18 = .ok (.getfield 81, 3) := by decide +kernel
theorem dX7_discharge_21 : decode cX7_discharge 21 = .ok (.ifCond .ne 45, 3) := by decide +kernel
theorem dX7_discharge_24 : decode cX7_discharge 24 = .ok (.aload_n 0, 1) := by decide +kernel
theorem dX7_discharge_25 : decode cX7_discharge 25 = .ok (.aload_n 0, 1) := by decide +kernel
theorem dX7_discharge_26 : decode cX7_discharge 26 = .ok (.getfield 146, 3) := by decide +kernel
theorem dX7_discharge_29 : decode cX7_discharge 29 = .ok (.bipush 60, 2) := by decide +kernel
theorem dX7_discharge_31 : decode cX7_discharge 31 = .ok (.if_icmp .eq 27, 3) := by decide +kernel
theorem dX7_discharge_34 : decode cX7_discharge 34 = .ok (.aload_n 0, 1) := by decide +kernel
theorem dX7_discharge_35 : decode cX7_discharge 35 = .ok (.getfield 54, 3) := by decide +kernel
theorem dX7_discharge_38 : decode cX7_discharge 38 = .ok (.aload_n 0, 1) := by decide +kernel
theorem dX7_discharge_39 : decode cX7_discharge 39 = .ok (.getfield 57, 3) := by decide +kernel
theorem dX7_discharge_42 : decode cX7_discharge 42 = .ok (.iload_n 1, 1) := by decide +kernel
theorem dX7_discharge_43 : decode cX7_discharge 43 = .ok (.iaload, 1) := by decide +kernel
theorem dX7_discharge_44 : decode cX7_discharge 44 = .ok (.baload, 1) := by decide +kernel
theorem dX7_discharge_45 : decode cX7_discharge 45 = .ok (.ifCond .ne 13, 3) := by decide +kernel
theorem dX7_discharge_48 : decode cX7_discharge 48 = .ok (.aload_n 0, 1) := by decide +kernel
theorem dX7_discharge_49 : decode cX7_discharge 49 = .ok (.getfield 63, 3) := by decide +kernel
theorem dX7_discharge_52 : decode cX7_discharge 52 = .ok (.iload_n 1, 1) := by decide +kernel
theorem dX7_discharge_53 : decode cX7_discharge 53 = .ok (.baload, 1) := by decide +kernel
theorem dX7_discharge_54 : decode cX7_discharge 54 = .ok (.iload_n 2, 1) := by decide +kernel
theorem dX7_discharge_55 : decode cX7_discharge 55 = .ok (.if_icmp .ne 7, 3) := by decide +kernel
theorem dX7_discharge_58 : decode cX7_discharge 58 = .ok (.iconst 2, 1) := by decide +kernel
theorem dX7_discharge_59 : decode cX7_discharge 59 = .ok (.goto 4, 3) := by decide +kernel
theorem dX7_discharge_62 : decode cX7_discharge 62 = .ok (.iconst 0, 1) := by decide +kernel
theorem dX7_discharge_63 : decode cX7_discharge 63 = .ok (.putfield 81, 3) := by decide +kernel
theorem dX7_discharge_66 : decode cX7_discharge 66 = .ok (.aload_n 0, 1) := by decide +kernel
theorem dX7_discharge_67 : decode cX7_discharge 67 = .ok (.getfield 81, 3) := by decide +kernel
theorem dX7_discharge_70 : decode cX7_discharge 70 = .ok (.ifCond .ne 46, 3) := by decide +kernel
theorem dX7_discharge_73 : decode cX7_discharge 73 = .ok (.aload_n 0, 1) := by decide +kernel
theorem dX7_discharge_74 : decode cX7_discharge 74 = .ok (.getfield 57, 3) := by decide +kernel
theorem dX7_discharge_77 : decode cX7_discharge 77 = .ok (.iload_n 1, 1) := by decide +kernel
theorem dX7_discharge_78 : decode cX7_discharge 78 = .ok (.iaload, 1) := by decide +kernel
theorem dX7_discharge_79 : decode cX7_discharge 79 = .ok (.istore_n 3, 1) := by decide +kernel
theorem dX7_discharge_80 : decode cX7_discharge 80 = .ok (.aload_n 0, 1) := by decide +kernel
theorem dX7_discharge_81 : decode cX7_discharge 81 = .ok (.iload_n 2, 1) := by decide +kernel
theorem dX7_discharge_82 : decode cX7_discharge 82 = .ok (.ifCond .eq 7, 3) := by decide +kernel
theorem dX7_discharge_85 : decode cX7_discharge 85 = .ok (.iconst 2, 1) := by decide +kernel
theorem dX7_discharge_86 : decode cX7_discharge 86 = .ok (.goto 4, 3) := by decide +kernel
theorem dX7_discharge_89 : decode cX7_discharge 89 = .ok (.iconst 3, 1) := by decide +kernel
theorem dX7_discharge_90 : decode cX7_discharge 90 = .ok (.aload_n 0, 1) := by decide +kernel
theorem dX7_discharge_91 : decode cX7_discharge 91 = .ok (.getfield 35, 3) := by decide +kernel
theorem dX7_discharge_94 : decode cX7_discharge 94 = .ok (.iload_n 3, 1) := by decide +kernel
theorem dX7_discharge_95 : decode cX7_discharge 95 = .ok (.iaload, 1) := by decide +kernel
theorem dX7_discharge_96 : decode cX7_discharge 96 = .ok (.aload_n 0, 1) := by decide +kernel
theorem dX7_discharge_97 : decode cX7_discharge 97 = .ok (.getfield 38, 3) := by decide +kernel
theorem dX7_discharge_100 : decode cX7_discharge 100 = .ok (.iload_n 3, 1) := by decide +kernel
theorem dX7_discharge_101 : decode cX7_discharge 101 = .ok (.iaload, 1) := by decide +kernel
theorem dX7_discharge_102 : decode cX7_discharge 102 = .ok (.iconst 0, 1) := by decide +kernel
theorem dX7_discharge_103 : decode cX7_discharge 103 = .ok (.iload_n 1, 1) := by decide +kernel
theorem dX7_discharge_104 : decode cX7_discharge 104 = .ok (.invokevirtual 149, 3) := by decide +kernel
theorem dX7_discharge_107 : decode cX7_discharge 107 = .ok (.istore 4, 2) := by decide +kernel
theorem dX7_discharge_109 : decode cX7_discharge 109 = .ok (.aload_n 0, 1) := by decide +kernel
theorem dX7_discharge_110 : decode cX7_discharge 110 = .ok (.getfield 63, 3) := by decide +kernel
theorem dX7_discharge_113 : decode cX7_discharge 113 = .ok (.iload_n 1, 1) := by decide +kernel
theorem dX7_discharge_114 : decode cX7_discharge 114 = .ok (.iload_n 2, 1) := by decide +kernel
theorem dX7_discharge_115 : decode cX7_discharge 115 = .ok (.bastore, 1) := by decide +kernel
theorem dX7_discharge_116 : decode cX7_discharge 116 = .ok (.return_, 1) := by decide +kernel
theorem dX7_lien_0 : decode cX7_lien 0 = .ok (.aload_n 0, 1) := by decide +kernel
theorem dX7_lien_1 : decode cX7_lien 1 = .ok (.aload_n 0, 1) := by decide +kernel
theorem dX7_lien_2 : decode cX7_lien 2 = .ok (.iload_n 1, 1) := by decide +kernel
theorem dX7_lien_3 : decode cX7_lien 3 = .ok (.invokevirtual 138, 3) := by decide +kernel
theorem dX7_lien_6 : decode cX7_lien 6 = .ok (.ifCond .eq 11, 3) := by decide +kernel
theorem dX7_lien_9 : decode cX7_lien 9 = .ok (.aload_n 0, 1) := by decide +kernel
theorem dX7_lien_10 : decode cX7_lien 10 = .ok (.iload_n 2, 1) := by decide +kernel
theorem dX7_lien_11 : decode cX7_lien 11 = .ok (.invokevirtual 105, 3) := by decide +kernel
theorem dX7_lien_14 : decode cX7_lien 14 = .ok (.ifCond .ne 7, 3) := by decide +kernel
theorem dX7_lien_17 : decode cX7_lien 17 = .ok (.iconst 1, 1) := by decide +kernel
theorem dX7_lien_18 : decode cX7_lien 18 = .ok (.goto 41, 3) := by decide +kernel
theorem dX7_lien_21 : decode cX7_lien 21 = .ok (.iload_n 3, 1) := by decide +kernel
theorem dX7_lien_22 : decode cX7_lien 22 = .ok (.iconst 0, 1) := by decide +kernel
theorem dX7_lien_23 : decode cX7_lien 23 = .ok (.iconst 3, 1) := by decide +kernel
theorem dX7_lien_24 : decode cX7_lien 24 = .ok (.invokestatic 85, 3) := by decide +kernel
theorem dX7_lien_27 : decode cX7_lien 27 = .ok (.ifCond .eq 14, 3) := by decide +kernel
theorem dX7_lien_30 : decode cX7_lien 30 = .ok (.iload 4, 2) := by decide +kernel
theorem dX7_lien_32 : decode cX7_lien 32 = .ok (.iconst 1, 1) := by decide +kernel
theorem dX7_lien_33 : decode cX7_lien 33 = .ok (.ldc 155, 2) := by decide +kernel
theorem dX7_lien_35 : decode cX7_lien 35 = .ok (.invokestatic 85, 3) := by decide +kernel
theorem dX7_lien_38 : decode cX7_lien 38 = .ok (.ifCond .ne 7, 3) := by decide +kernel
theorem dX7_lien_41 : decode cX7_lien 41 = .ok (.iconst 2, 1) := by decide +kernel
theorem dX7_lien_42 : decode cX7_lien 42 = .ok (.goto 17, 3) := by decide +kernel
theorem dX7_lien_45 : decode cX7_lien 45 = .ok (.aload_n 0, 1) := by decide +kernel
theorem dX7_lien_46 : decode cX7_lien 46 = .ok (.getfield 146, 3) := by decide +kernel
theorem dX7_lien_49 : decode cX7_lien 49 = .ok (.bipush 60, 2) := by decide +kernel
theorem dX7_lien_51 : decode cX7_lien 51 = .ok (.if_icmp .ne 7, 3) := by decide +kernel
theorem dX7_lien_54 : decode cX7_lien 54 = .ok (.iconst 3, 1) := by decide +kernel
theorem dX7_lien_55 : decode cX7_lien 55 = .ok (.goto 4, 3) := by decide +kernel
theorem dX7_lien_58 : decode cX7_lien 58 = .ok (.iconst 0, 1) := by decide +kernel
theorem dX7_lien_59 : decode cX7_lien 59 = .ok (.putfield 81, 3) := by decide +kernel
theorem dX7_lien_62 : decode cX7_lien 62 = .ok (.aload_n 0, 1) := by decide +kernel
theorem dX7_lien_63 : decode cX7_lien 63 = .ok (.getfield 81, 3) := by decide +kernel
theorem dX7_lien_66 : decode cX7_lien 66 = .ok (.ifCond .ne 16, 3) := by decide +kernel
theorem dX7_lien_69 : decode cX7_lien 69 = .ok (.aload_n 0, 1) := by decide +kernel
theorem dX7_lien_70 : decode cX7_lien 70 = .ok (.iconst 4, 1) := by decide +kernel
theorem dX7_lien_71 : decode cX7_lien 71 = .ok (.iload_n 1, 1) := by decide +kernel
theorem dX7_lien_72 : decode cX7_lien 72 = .ok (.iload_n 2, 1) := by decide +kernel
theorem dX7_lien_73 : decode cX7_lien 73 = .ok (.iload 4, 2) := by decide +kernel
theorem dX7_lien_75 : decode cX7_lien 75 = .ok (.iload_n 3, 1) := by decide +kernel
theorem dX7_lien_76 : decode cX7_lien 76 = .ok (.invokevirtual 149, 3) := by decide +kernel
theorem dX7_lien_79 : decode cX7_lien 79 = .ok (.goto 4, 3) := by decide +kernel
theorem dX7_lien_82 : decode cX7_lien 82 = .ok (.iconst 0, 1) := by decide +kernel
theorem dX7_lien_83 : decode cX7_lien 83 = .ok (.ireturn, 1) := by decide +kernel
theorem dX7_isLien_0 : decode cX7_isLien 0 = .ok (.aload_n 0, 1) := by decide +kernel
theorem dX7_isLien_1 : decode cX7_isLien 1 = .ok (.getfield 32, 3) := by decide +kernel
theorem dX7_isLien_4 : decode cX7_isLien 4 = .ok (.iload_n 1, 1) := by decide +kernel
theorem dX7_isLien_5 : decode cX7_isLien 5 = .ok (.iaload, 1) := by decide +kernel
theorem dX7_isLien_6 : decode cX7_isLien 6 = .ok (.iconst 4, 1) := by decide +kernel
theorem dX7_isLien_7 : decode cX7_isLien 7 = .ok (.if_icmp .ne 44, 3) := by decide +kernel
theorem dX7_isLien_10 : decode cX7_isLien 10 = .ok (.aload_n 0, 1) := by decide +kernel
theorem dX7_isLien_11 : decode cX7_isLien 11 = .ok (.getfield 35, 3) := by decide +kernel
theorem dX7_isLien_14 : decode cX7_isLien 14 = .ok (.iload_n 1, 1) := by decide +kernel
theorem dX7_isLien_15 : decode cX7_isLien 15 = .ok (.iaload, 1) := by decide +kernel
theorem dX7_isLien_16 : decode cX7_isLien 16 = .ok (.iload_n 2, 1) := by decide +kernel
theorem dX7_isLien_17 : decode cX7_isLien 17 = .ok (.if_icmp .ne 34, 3) := by decide +kernel
theorem dX7_isLien_20 : decode cX7_isLien 20 = .ok (.aload_n 0, 1) := by decide +kernel
theorem dX7_isLien_21 : decode cX7_isLien 21 = .ok (.getfield 54, 3) := by decide +kernel
theorem dX7_isLien_24 : decode cX7_isLien 24 = .ok (.iload_n 1, 1) := by decide +kernel
theorem dX7_isLien_25 : decode cX7_isLien 25 = .ok (.baload, 1) := by decide +kernel
theorem dX7_isLien_26 : decode cX7_isLien 26 = .ok (.ifCond .ne 25, 3) := by decide +kernel
theorem dX7_isLien_29 : decode cX7_isLien 29 = .ok (.aload_n 0, 1) := by decide +kernel
theorem dX7_isLien_30 : decode cX7_isLien 30 = .ok (.getfield 134, 3) := by decide +kernel
theorem dX7_isLien_33 : decode cX7_isLien 33 = .ok (.aload_n 0, 1) := by decide +kernel
theorem dX7_isLien_34 : decode cX7_isLien 34 = .ok (.getfield 47, 3) := by decide +kernel
theorem dX7_isLien_37 : decode cX7_isLien 37 = .ok (.iload_n 1, 1) := by decide +kernel
theorem dX7_isLien_38 : decode cX7_isLien 38 = .ok (.laload, 1) := by decide +kernel
theorem dX7_isLien_39 : decode cX7_isLien 39 = .ok (.lsub, 1) := by decide +kernel
theorem dX7_isLien_40 : decode cX7_isLien 40 = .ok (.ldc2_w 163, 3) := by decide +kernel
theorem dX7_isLien_43 : decode cX7_isLien 43 = .ok (.lcmp, 1) := by decide +kernel
theorem dX7_isLien_44 : decode cX7_isLien 44 = .ok (.ifCond .gt 7, 3) := by decide +kernel
theorem dX7_isLien_47 : decode cX7_isLien 47 = .ok (.iconst 1, 1) := by decide +kernel
theorem dX7_isLien_48 : decode cX7_isLien 48 = .ok (.goto 4, 3) := by decide +kernel
theorem dX7_isLien_51 : decode cX7_isLien 51 = .ok (.iconst 0, 1) := by decide +kernel
theorem dX7_isLien_52 : decode cX7_isLien 52 = .ok (.ireturn, 1) := by decide +kernel
theorem dX7_isThere_0 : decode cX7_isThere 0 = .ok (.aload_n 0, 1) := by decide +kernel
theorem dX7_isThere_1 : decode cX7_isThere 1 = .ok (.getfield 35, 3) := by decide +kernel
theorem dX7_isThere_4 : decode cX7_isThere 4 = .ok (.aload_n 0, 1) := by decide +kernel
theorem dX7_isThere_5 : decode cX7_isThere 5 = .ok (.getfield 57, 3) := by decide +kernel
theorem dX7_isThere_8 : decode cX7_isThere 8 = .ok (.iload_n 1, 1) := by decide +kernel
theorem dX7_isThere_9 : decode cX7_isThere 9 = .ok (.iaload, 1) := by decide +kernel
theorem dX7_isThere_10 : decode cX7_isThere 10 = .ok (.iaload, 1) := by decide +kernel
theorem dX7_isThere_11 : decode cX7_isThere 11 = .ok (.iload_n 2, 1) := by decide +kernel
theorem dX7_isThere_12 : decode cX7_isThere 12 = .ok (.if_icmp .ne 30, 3) := by decide +kernel
theorem dX7_isThere_15 : decode cX7_isThere 15 = .ok (.aload_n 0, 1) := by decide +kernel
theorem dX7_isThere_16 : decode cX7_isThere 16 = .ok (.getfield 54, 3) := by decide +kernel
theorem dX7_isThere_19 : decode cX7_isThere 19 = .ok (.aload_n 0, 1) := by decide +kernel
theorem dX7_isThere_20 : decode cX7_isThere 20 = .ok (.getfield 57, 3) := by decide +kernel
theorem dX7_isThere_23 : decode cX7_isThere 23 = .ok (.iload_n 1, 1) := by decide +kernel
theorem dX7_isThere_24 : decode cX7_isThere 24 = .ok (.iaload, 1) := by decide +kernel
theorem dX7_isThere_25 : decode cX7_isThere 25 = .ok (.baload, 1) := by decide +kernel
theorem dX7_isThere_26 : decode cX7_isThere 26 = .ok (.ifCond .ne 16, 3) := by decide +kernel
theorem dX7_isThere_29 : decode cX7_isThere 29 = .ok (.aload_n 0, 1) := by decide +kernel
theorem dX7_isThere_30 : decode cX7_isThere 30 = .ok (.getfield 63, 3) := by decide +kernel
theorem dX7_isThere_33 : decode cX7_isThere 33 = .ok (.iload_n 1, 1) := by decide +kernel
theorem dX7_isThere_34 : decode cX7_isThere 34 = .ok (.baload, 1) := by decide +kernel
theorem dX7_isThere_35 : decode cX7_isThere 35 = .ok (.ifCond .ne 7, 3) := by decide +kernel
theorem dX7_isThere_38 : decode cX7_isThere 38 = .ok (.iconst 1, 1) := by decide +kernel
theorem dX7_isThere_39 : decode cX7_isThere 39 = .ok (.goto 4, 3) := by decide +kernel
theorem dX7_isThere_42 : decode cX7_isThere 42 = .ok (.iconst 0, 1) := by decide +kernel
theorem dX7_isThere_43 : decode cX7_isThere 43 = .ok (.ireturn, 1) := by decide +kernel
theorem dX7_rankOf_0 : decode cX7_rankOf 0 = .ok (.iconst 0, 1) := by decide +kernel
theorem dX7_rankOf_1 : decode cX7_rankOf 1 = .ok (.istore_n 2, 1) := by decide +kernel
theorem dX7_rankOf_2 : decode cX7_rankOf 2 = .ok (.iconst 0, 1) := by decide +kernel
theorem dX7_rankOf_3 : decode cX7_rankOf 3 = .ok (.istore_n 3, 1) := by decide +kernel
theorem dX7_rankOf_4 : decode cX7_rankOf 4 = .ok (.iload_n 3, 1) := by decide +kernel
theorem dX7_rankOf_5 : decode cX7_rankOf 5 = .ok (.aload_n 0, 1) := by decide +kernel
theorem dX7_rankOf_6 : decode cX7_rankOf 6 = .ok (.getfield 95, 3) := by decide +kernel
theorem dX7_rankOf_9 : decode cX7_rankOf 9 = .ok (.if_icmp .ge 51, 3) := by decide +kernel
theorem dX7_rankOf_12 : decode cX7_rankOf 12 = .ok (.iload_n 2, 1) := by decide +kernel
theorem dX7_rankOf_13 : decode cX7_rankOf 13 = .ok (.aload_n 0, 1) := by decide +kernel
theorem dX7_rankOf_14 : decode cX7_rankOf 14 = .ok (.iload_n 3, 1) := by decide +kernel
theorem dX7_rankOf_15 : decode cX7_rankOf 15 = .ok (.aload_n 0, 1) := by decide +kernel
theorem dX7_rankOf_16 : decode cX7_rankOf 16 = .ok (.getfield 35, 3) := by decide +kernel
theorem dX7_rankOf_19 : decode cX7_rankOf 19 = .ok (.aload_n 0, 1) := by decide +kernel
theorem dX7_rankOf_20 : decode cX7_rankOf 20 = .ok (.getfield 57, 3) := by decide +kernel
theorem dX7_rankOf_23 : decode cX7_rankOf 23 = .ok (.iload_n 1, 1) := by decide +kernel
theorem dX7_rankOf_24 : decode cX7_rankOf 24 = .ok (.iaload, 1) := by decide +kernel
theorem dX7_rankOf_25 : decode cX7_rankOf 25 = .ok (.iaload, 1) := by decide +kernel
theorem dX7_rankOf_26 : decode cX7_rankOf 26 = .ok (.invokevirtual 165, 3) := by decide +kernel
theorem dX7_rankOf_29 : decode cX7_rankOf 29 = .ok (.ifCond .eq 22, 3) := by decide +kernel
theorem dX7_rankOf_32 : decode cX7_rankOf 32 = .ok (.aload_n 0, 1) := by decide +kernel
theorem dX7_rankOf_33 : decode cX7_rankOf 33 = .ok (.getfield 60, 3) := by decide +kernel
theorem dX7_rankOf_36 : decode cX7_rankOf 36 = .ok (.iload_n 3, 1) := by decide +kernel
theorem dX7_rankOf_37 : decode cX7_rankOf 37 = .ok (.iaload, 1) := by decide +kernel
theorem dX7_rankOf_38 : decode cX7_rankOf 38 = .ok (.aload_n 0, 1) := by decide +kernel
theorem dX7_rankOf_39 : decode cX7_rankOf 39 = .ok (.getfield 60, 3) := by decide +kernel
theorem dX7_rankOf_42 : decode cX7_rankOf 42 = .ok (.iload_n 1, 1) := by decide +kernel
theorem dX7_rankOf_43 : decode cX7_rankOf 43 = .ok (.iaload, 1) := by decide +kernel
theorem dX7_rankOf_44 : decode cX7_rankOf 44 = .ok (.if_icmp .ge 7, 3) := by decide +kernel
theorem dX7_rankOf_47 : decode cX7_rankOf 47 = .ok (.iconst 1, 1) := by decide +kernel
theorem dX7_rankOf_48 : decode cX7_rankOf 48 = .ok (.goto 4, 3) := by decide +kernel
theorem dX7_rankOf_51 : decode cX7_rankOf 51 = .ok (.iconst 0, 1) := by decide +kernel
theorem dX7_rankOf_52 : decode cX7_rankOf 52 = .ok (.iadd, 1) := by decide +kernel
theorem dX7_rankOf_53 : decode cX7_rankOf 53 = .ok (.istore_n 2, 1) := by decide +kernel
theorem dX7_rankOf_54 : decode cX7_rankOf 54 = .ok (.iinc 3 1, 3) := by decide +kernel
theorem dX7_rankOf_57 : decode cX7_rankOf 57 = .ok (.goto (-53), 3) := by decide +kernel
theorem dX7_rankOf_60 : decode cX7_rankOf 60 = .ok (.iload_n 2, 1) := by decide +kernel
theorem dX7_rankOf_61 : decode cX7_rankOf 61 = .ok (.ireturn, 1) := by decide +kernel
theorem dX7_pays_0 : decode cX7_pays 0 = .ok (.aload_n 0, 1) := by decide +kernel
theorem dX7_pays_1 : decode cX7_pays 1 = .ok (.getfield 41, 3) := by decide +kernel
theorem dX7_pays_4 : decode cX7_pays 4 = .ok (.iload_n 1, 1) := by decide +kernel
theorem dX7_pays_5 : decode cX7_pays 5 = .ok (.iaload, 1) := by decide +kernel
theorem dX7_pays_6 : decode cX7_pays 6 = .ok (.i2l, 1) := by decide +kernel
theorem dX7_pays_7 : decode cX7_pays 7 = .ok (.aload_n 0, 1) := by decide +kernel
theorem dX7_pays_8 : decode cX7_pays 8 = .ok (.getfield 168, 3) := by decide +kernel
theorem dX7_pays_11 : decode cX7_pays 11 = .ok (.lcmp, 1) := by decide +kernel
theorem dX7_pays_12 : decode cX7_pays 12 = .ok (.ifCond .ge 13, 3) := by decide +kernel
theorem dX7_pays_15 : decode cX7_pays 15 = .ok (.aload_n 0, 1) := by decide +kernel
theorem dX7_pays_16 : decode cX7_pays 16 = .ok (.getfield 41, 3) := by decide +kernel
theorem dX7_pays_19 : decode cX7_pays 19 = .ok (.iload_n 1, 1) := by decide +kernel
theorem dX7_pays_20 : decode cX7_pays 20 = .ok (.iaload, 1) := by decide +kernel
theorem dX7_pays_21 : decode cX7_pays 21 = .ok (.i2l, 1) := by decide +kernel
theorem dX7_pays_22 : decode cX7_pays 22 = .ok (.goto 7, 3) := by decide +kernel
theorem dX7_pays_25 : decode cX7_pays 25 = .ok (.aload_n 0, 1) := by decide +kernel
theorem dX7_pays_26 : decode cX7_pays 26 = .ok (.getfield 168, 3) := by decide +kernel
theorem dX7_pays_29 : decode cX7_pays 29 = .ok (.lstore_n 2, 1) := by decide +kernel
theorem dX7_pays_30 : decode cX7_pays 30 = .ok (.aload_n 0, 1) := by decide +kernel
theorem dX7_pays_31 : decode cX7_pays 31 = .ok (.getfield 66, 3) := by decide +kernel
theorem dX7_pays_34 : decode cX7_pays 34 = .ok (.aload_n 0, 1) := by decide +kernel
theorem dX7_pays_35 : decode cX7_pays 35 = .ok (.getfield 38, 3) := by decide +kernel
theorem dX7_pays_38 : decode cX7_pays 38 = .ok (.iload_n 1, 1) := by decide +kernel
theorem dX7_pays_39 : decode cX7_pays 39 = .ok (.iaload, 1) := by decide +kernel
theorem dX7_pays_40 : decode cX7_pays 40 = .ok (.dup2, 1) := by decide +kernel
theorem dX7_pays_41 : decode cX7_pays 41 = .ok (.laload, 1) := by decide +kernel
theorem dX7_pays_42 : decode cX7_pays 42 = .ok (.lload_n 2, 1) := by decide +kernel
theorem dX7_pays_43 : decode cX7_pays 43 = .ok (.ladd, 1) := by decide +kernel
theorem dX7_pays_44 : decode cX7_pays 44 = .ok (.lastore, 1) := by decide +kernel
theorem dX7_pays_45 : decode cX7_pays 45 = .ok (.aload_n 0, 1) := by decide +kernel
theorem dX7_pays_46 : decode cX7_pays 46 = .ok (.dup, 1) := by decide +kernel
theorem dX7_pays_47 : decode cX7_pays 47 = .ok (.getfield 168, 3) := by decide +kernel
theorem dX7_pays_50 : decode cX7_pays 50 = .ok (.lload_n 2, 1) := by decide +kernel
theorem dX7_pays_51 : decode cX7_pays 51 = .ok (.lsub, 1) := by decide +kernel
theorem dX7_pays_52 : decode cX7_pays 52 = .ok (.putfield 168, 3) := by decide +kernel
theorem dX7_pays_55 : decode cX7_pays 55 = .ok (.return_, 1) := by decide +kernel
theorem dX7_paysAll_0 : decode cX7_paysAll 0 = .ok (.iconst 0, 1) := by decide +kernel
theorem dX7_paysAll_1 : decode cX7_paysAll 1 = .ok (.istore_n 2, 1) := by decide +kernel
theorem dX7_paysAll_2 : decode cX7_paysAll 2 = .ok (.iload_n 2, 1) := by decide +kernel
theorem dX7_paysAll_3 : decode cX7_paysAll 3 = .ok (.iconst 4, 1) := by decide +kernel
theorem dX7_paysAll_4 : decode cX7_paysAll 4 = .ok (.if_icmp .ge 50, 3) := by decide +kernel
theorem dX7_paysAll_7 : decode cX7_paysAll 7 = .ok (.aload_n 0, 1) := by decide +kernel
theorem dX7_paysAll_8 : decode cX7_paysAll 8 = .ok (.getfield 146, 3) := by decide +kernel
theorem dX7_paysAll_11 : decode cX7_paysAll 11 = .ok (.iconst 1, 1) := by decide +kernel
theorem dX7_paysAll_12 : decode cX7_paysAll 12 = .ok (.isub, 1) := by decide +kernel
theorem dX7_paysAll_13 : decode cX7_paysAll 13 = .ok (.istore_n 3, 1) := by decide +kernel
theorem dX7_paysAll_14 : decode cX7_paysAll 14 = .ok (.iload_n 3, 1) := by decide +kernel
theorem dX7_paysAll_15 : decode cX7_paysAll 15 = .ok (.ifCond .lt 33, 3) := by decide +kernel
theorem dX7_paysAll_18 : decode cX7_paysAll 18 = .ok (.aload_n 0, 1) := by decide +kernel
theorem dX7_paysAll_19 : decode cX7_paysAll 19 = .ok (.iload_n 3, 1) := by decide +kernel
theorem dX7_paysAll_20 : decode cX7_paysAll 20 = .ok (.iload_n 1, 1) := by decide +kernel
theorem dX7_paysAll_21 : decode cX7_paysAll 21 = .ok (.invokevirtual 171, 3) := by decide +kernel
theorem dX7_paysAll_24 : decode cX7_paysAll 24 = .ok (.ifCond .eq 18, 3) := by decide +kernel
theorem dX7_paysAll_27 : decode cX7_paysAll 27 = .ok (.aload_n 0, 1) := by decide +kernel
theorem dX7_paysAll_28 : decode cX7_paysAll 28 = .ok (.getfield 44, 3) := by decide +kernel
theorem dX7_paysAll_31 : decode cX7_paysAll 31 = .ok (.iload_n 3, 1) := by decide +kernel
theorem dX7_paysAll_32 : decode cX7_paysAll 32 = .ok (.iaload, 1) := by decide +kernel
theorem dX7_paysAll_33 : decode cX7_paysAll 33 = .ok (.iload_n 2, 1) := by decide +kernel
theorem dX7_paysAll_34 : decode cX7_paysAll 34 = .ok (.if_icmp .ne 8, 3) := by decide +kernel
theorem dX7_paysAll_37 : decode cX7_paysAll 37 = .ok (.aload_n 0, 1) := by decide +kernel
theorem dX7_paysAll_38 : decode cX7_paysAll 38 = .ok (.iload_n 3, 1) := by decide +kernel
theorem dX7_paysAll_39 : decode cX7_paysAll 39 = .ok (.invokevirtual 174, 3) := by decide +kernel
theorem dX7_paysAll_42 : decode cX7_paysAll 42 = .ok (.iinc 3 (-1), 3) := by decide +kernel
theorem dX7_paysAll_45 : decode cX7_paysAll 45 = .ok (.goto (-31), 3) := by decide +kernel
theorem dX7_paysAll_48 : decode cX7_paysAll 48 = .ok (.iinc 2 1, 3) := by decide +kernel
theorem dX7_paysAll_51 : decode cX7_paysAll 51 = .ok (.goto (-49), 3) := by decide +kernel
theorem dX7_paysAll_54 : decode cX7_paysAll 54 = .ok (.iconst 0, 1) := by decide +kernel
theorem dX7_paysAll_55 : decode cX7_paysAll 55 = .ok (.istore_n 2, 1) := by decide +kernel
theorem dX7_paysAll_56 : decode cX7_paysAll 56 = .ok (.iload_n 2, 1) := by decide +kernel
theorem dX7_paysAll_57 : decode cX7_paysAll 57 = .ok (.aload_n 0, 1) := by decide +kernel
theorem dX7_paysAll_58 : decode cX7_paysAll 58 = .ok (.getfield 95, 3) := by decide +kernel
theorem dX7_paysAll_61 : decode cX7_paysAll 61 = .ok (.if_icmp .ge 53, 3) := by decide +kernel
theorem dX7_paysAll_64 : decode cX7_paysAll 64 = .ok (.iconst 0, 1) := by decide +kernel
theorem dX7_paysAll_65 : decode cX7_paysAll 65 = .ok (.istore_n 3, 1) := by decide +kernel
theorem dX7_paysAll_66 : decode cX7_paysAll 66 = .ok (.iload_n 3, 1) := by decide +kernel
theorem dX7_paysAll_67 : decode cX7_paysAll 67 = .ok (.aload_n 0, 1) := by decide +kernel
theorem dX7_paysAll_68 : decode cX7_paysAll 68 = .ok (.getfield 95, 3) := by decide +kernel
theorem dX7_paysAll_71 : decode cX7_paysAll 71 = .ok (.if_icmp .ge 37, 3) := by decide +kernel
theorem dX7_paysAll_74 : decode cX7_paysAll 74 = .ok (.aload_n 0, 1) := by decide +kernel
theorem dX7_paysAll_75 : decode cX7_paysAll 75 = .ok (.iload_n 3, 1) := by decide +kernel
theorem dX7_paysAll_76 : decode cX7_paysAll 76 = .ok (.iload_n 1, 1) := by decide +kernel
theorem dX7_paysAll_77 : decode cX7_paysAll 77 = .ok (.invokevirtual 165, 3) := by decide +kernel
theorem dX7_paysAll_80 : decode cX7_paysAll 80 = .ok (.ifCond .eq 22, 3) := by decide +kernel
theorem dX7_paysAll_83 : decode cX7_paysAll 83 = .ok (.aload_n 0, 1) := by decide +kernel
theorem dX7_paysAll_84 : decode cX7_paysAll 84 = .ok (.iload_n 3, 1) := by decide +kernel
theorem dX7_paysAll_85 : decode cX7_paysAll 85 = .ok (.invokevirtual 177, 3) := by decide +kernel
theorem dX7_paysAll_88 : decode cX7_paysAll 88 = .ok (.iload_n 2, 1) := by decide +kernel
theorem dX7_paysAll_89 : decode cX7_paysAll 89 = .ok (.if_icmp .ne 13, 3) := by decide +kernel
theorem dX7_paysAll_92 : decode cX7_paysAll 92 = .ok (.aload_n 0, 1) := by decide +kernel
theorem dX7_paysAll_93 : decode cX7_paysAll 93 = .ok (.aload_n 0, 1) := by decide +kernel
theorem dX7_paysAll_94 : decode cX7_paysAll 94 = .ok (.getfield 57, 3) := by decide +kernel
theorem dX7_paysAll_97 : decode cX7_paysAll 97 = .ok (.iload_n 3, 1) := by decide +kernel
theorem dX7_paysAll_98 : decode cX7_paysAll 98 = .ok (.iaload, 1) := by decide +kernel
theorem dX7_paysAll_99 : decode cX7_paysAll 99 = .ok (.invokevirtual 174, 3) := by decide +kernel
theorem dX7_paysAll_102 : decode cX7_paysAll 102 = .ok (.iinc 3 1, 3) := by decide +kernel
theorem dX7_paysAll_105 : decode cX7_paysAll 105 = .ok (.goto (-39), 3) := by decide +kernel
theorem dX7_paysAll_108 : decode cX7_paysAll 108 = .ok (.iinc 2 1, 3) := by decide +kernel
theorem dX7_paysAll_111 : decode cX7_paysAll 111 = .ok (.goto (-55), 3) := by decide +kernel
theorem dX7_paysAll_114 : decode cX7_paysAll 114 = .ok (.aload_n 0, 1) := by decide +kernel
theorem dX7_paysAll_115 : decode cX7_paysAll 115 = .ok (.getfield 168, 3) := by decide +kernel
theorem dX7_paysAll_118 : decode cX7_paysAll 118 = .ok (.lstore_n 2, 1) := by decide +kernel
theorem dX7_paysAll_119 : decode cX7_paysAll 119 = .ok (.iconst 0, 1) := by decide +kernel
theorem dX7_paysAll_120 : decode cX7_paysAll 120 = .ok (.istore 4, 2) := by decide +kernel
theorem dX7_paysAll_122 : decode cX7_paysAll 122 = .ok (.iload 4, 2) := by decide +kernel
theorem dX7_paysAll_124 : decode cX7_paysAll 124 = .ok (.aload_n 0, 1) := by decide +kernel
theorem dX7_paysAll_125 : decode cX7_paysAll 125 = .ok (.getfield 89, 3) := by decide +kernel
theorem dX7_paysAll_128 : decode cX7_paysAll 128 = .ok (.if_icmp .ge 53, 3) := by decide +kernel
theorem dX7_paysAll_131 : decode cX7_paysAll 131 = .ok (.lload_n 2, 1) := by decide +kernel
theorem dX7_paysAll_132 : decode cX7_paysAll 132 = .ok (.aload_n 0, 1) := by decide +kernel
theorem dX7_paysAll_133 : decode cX7_paysAll 133 = .ok (.getfield 22, 3) := by decide +kernel
theorem dX7_paysAll_136 : decode cX7_paysAll 136 = .ok (.bipush 10, 2) := by decide +kernel
theorem dX7_paysAll_138 : decode cX7_paysAll 138 = .ok (.iload_n 1, 1) := by decide +kernel
theorem dX7_paysAll_139 : decode cX7_paysAll 139 = .ok (.imul, 1) := by decide +kernel
theorem dX7_paysAll_140 : decode cX7_paysAll 140 = .ok (.iload 4, 2) := by decide +kernel
theorem dX7_paysAll_142 : decode cX7_paysAll 142 = .ok (.iadd, 1) := by decide +kernel
theorem dX7_paysAll_143 : decode cX7_paysAll 143 = .ok (.iaload, 1) := by decide +kernel
theorem dX7_paysAll_144 : decode cX7_paysAll 144 = .ok (.i2l, 1) := by decide +kernel
theorem dX7_paysAll_145 : decode cX7_paysAll 145 = .ok (.lmul, 1) := by decide +kernel
theorem dX7_paysAll_146 : decode cX7_paysAll 146 = .ok (.ldc2_w 180, 3) := by decide +kernel
theorem dX7_paysAll_149 : decode cX7_paysAll 149 = .ok (.ldiv, 1) := by decide +kernel
theorem dX7_paysAll_150 : decode cX7_paysAll 150 = .ok (.lstore 5, 2) := by decide +kernel
theorem dX7_paysAll_152 : decode cX7_paysAll 152 = .ok (.aload_n 0, 1) := by decide +kernel
theorem dX7_paysAll_153 : decode cX7_paysAll 153 = .ok (.getfield 66, 3) := by decide +kernel
theorem dX7_paysAll_156 : decode cX7_paysAll 156 = .ok (.iload 4, 2) := by decide +kernel
theorem dX7_paysAll_158 : decode cX7_paysAll 158 = .ok (.dup2, 1) := by decide +kernel
theorem dX7_paysAll_159 : decode cX7_paysAll 159 = .ok (.laload, 1) := by decide +kernel
theorem dX7_paysAll_160 : decode cX7_paysAll 160 = .ok (.lload 5, 2) := by decide +kernel
theorem dX7_paysAll_162 : decode cX7_paysAll 162 = .ok (.ladd, 1) := by decide +kernel
theorem dX7_paysAll_163 : decode cX7_paysAll 163 = .ok (.lastore, 1) := by decide +kernel
theorem dX7_paysAll_164 : decode cX7_paysAll 164 = .ok (.aload_n 0, 1) := by decide +kernel
theorem dX7_paysAll_165 : decode cX7_paysAll 165 = .ok (.dup, 1) := by decide +kernel
theorem dX7_paysAll_166 : decode cX7_paysAll 166 = .ok (.getfield 168, 3) := by decide +kernel
theorem dX7_paysAll_169 : decode cX7_paysAll 169 = .ok (.lload 5, 2) := by decide +kernel
theorem dX7_paysAll_171 : decode cX7_paysAll 171 = .ok (.lsub, 1) := by decide +kernel
theorem dX7_paysAll_172 : decode cX7_paysAll 172 = .ok (.putfield 168, 3) := by decide +kernel
theorem dX7_paysAll_175 : decode cX7_paysAll 175 = .ok (.iinc 4 1, 3) := by decide +kernel
theorem dX7_paysAll_178 : decode cX7_paysAll 178 = .ok (.goto (-56), 3) := by decide +kernel
theorem dX7_paysAll_181 : decode cX7_paysAll 181 = .ok (.return_, 1) := by decide +kernel
theorem dX7_court_0 : decode cX7_court 0 = .ok (.aload_n 0, 1) := by decide +kernel
theorem dX7_court_1 : decode cX7_court 1 = .ok (.aload_n 0, 1) := by decide +kernel
theorem dX7_court_2 : decode cX7_court 2 = .ok (.iload_n 1, 1) := by decide +kernel
theorem dX7_court_3 : decode cX7_court 3 = .ok (.invokevirtual 138, 3) := by decide +kernel
theorem dX7_court_6 : decode cX7_court 6 = .ok (.ifCond .eq 11, 3) := by decide +kernel
theorem dX7_court_9 : decode cX7_court 9 = .ok (.aload_n 0, 1) := by decide +kernel
theorem dX7_court_10 : decode cX7_court 10 = .ok (.iload_n 2, 1) := by decide +kernel
theorem dX7_court_11 : decode cX7_court 11 = .ok (.invokevirtual 105, 3) := by decide +kernel
theorem dX7_court_14 : decode cX7_court 14 = .ok (.ifCond .ne 7, 3) := by decide +kernel
theorem dX7_court_17 : decode cX7_court 17 = .ok (.iconst 1, 1) := by decide +kernel
theorem dX7_court_18 : decode cX7_court 18 = .ok (.goto 31, 3) := by decide +kernel
theorem dX7_court_21 : decode cX7_court 21 = .ok (.iload_n 3, 1) := by decide +kernel
theorem dX7_court_22 : decode cX7_court 22 = .ok (.iconst 1, 1) := by decide +kernel
theorem dX7_court_23 : decode cX7_court 23 = .ok (.ldc 182, 2) := by decide +kernel
theorem dX7_court_25 : decode cX7_court 25 = .ok (.invokestatic 85, 3) := by decide +kernel
theorem dX7_court_28 : decode cX7_court 28 = .ok (.ifCond .ne 7, 3) := by decide +kernel
theorem dX7_court_31 : decode cX7_court 31 = .ok (.iconst 2, 1) := by decide +kernel
theorem dX7_court_32 : decode cX7_court 32 = .ok (.goto 17, 3) := by decide +kernel
theorem dX7_court_35 : decode cX7_court 35 = .ok (.aload_n 0, 1) := by decide +kernel
theorem dX7_court_36 : decode cX7_court 36 = .ok (.getfield 146, 3) := by decide +kernel
theorem dX7_court_39 : decode cX7_court 39 = .ok (.bipush 60, 2) := by decide +kernel
theorem dX7_court_41 : decode cX7_court 41 = .ok (.if_icmp .ne 7, 3) := by decide +kernel
theorem dX7_court_44 : decode cX7_court 44 = .ok (.iconst 3, 1) := by decide +kernel
theorem dX7_court_45 : decode cX7_court 45 = .ok (.goto 4, 3) := by decide +kernel
theorem dX7_court_48 : decode cX7_court 48 = .ok (.iconst 0, 1) := by decide +kernel
theorem dX7_court_49 : decode cX7_court 49 = .ok (.putfield 81, 3) := by decide +kernel
theorem dX7_court_52 : decode cX7_court 52 = .ok (.aload_n 0, 1) := by decide +kernel
theorem dX7_court_53 : decode cX7_court 53 = .ok (.getfield 81, 3) := by decide +kernel
theorem dX7_court_56 : decode cX7_court 56 = .ok (.ifCond .le 5, 3) := by decide +kernel
theorem dX7_court_59 : decode cX7_court 59 = .ok (.lconst 0, 1) := by decide +kernel
theorem dX7_court_60 : decode cX7_court 60 = .ok (.lreturn, 1) := by decide +kernel
theorem dX7_court_61 : decode cX7_court 61 = .ok (.aload_n 0, 1) := by decide +kernel
theorem dX7_court_62 : decode cX7_court 62 = .ok (.iload_n 3, 1) := by decide +kernel
theorem dX7_court_63 : decode cX7_court 63 = .ok (.i2l, 1) := by decide +kernel
theorem dX7_court_64 : decode cX7_court 64 = .ok (.putfield 168, 3) := by decide +kernel
theorem dX7_court_67 : decode cX7_court 67 = .ok (.aload_n 0, 1) := by decide +kernel
theorem dX7_court_68 : decode cX7_court 68 = .ok (.iload_n 1, 1) := by decide +kernel
theorem dX7_court_69 : decode cX7_court 69 = .ok (.invokevirtual 183, 3) := by decide +kernel
theorem dX7_court_72 : decode cX7_court 72 = .ok (.iconst 0, 1) := by decide +kernel
theorem dX7_court_73 : decode cX7_court 73 = .ok (.istore 4, 2) := by decide +kernel
theorem dX7_court_75 : decode cX7_court 75 = .ok (.iload 4, 2) := by decide +kernel
theorem dX7_court_77 : decode cX7_court 77 = .ok (.aload_n 0, 1) := by decide +kernel
theorem dX7_court_78 : decode cX7_court 78 = .ok (.getfield 146, 3) := by decide +kernel
theorem dX7_court_81 : decode cX7_court 81 = .ok (.if_icmp .ge 42, 3) := by decide +kernel
theorem dX7_court_84 : decode cX7_court 84 = .ok (.aload_n 0, 1) := by decide +kernel
theorem dX7_court_85 : decode cX7_court 85 = .ok (.getfield 54, 3) := by decide +kernel
theorem dX7_court_88 : decode cX7_court 88 = .ok (.iload 4, 2) := by decide +kernel
theorem dX7_court_90 : decode cX7_court 90 = .ok (.aload_n 0, 1) := by decide +kernel
theorem dX7_court_91 : decode cX7_court 91 = .ok (.getfield 54, 3) := by decide +kernel
theorem dX7_court_94 : decode cX7_court 94 = .ok (.iload 4, 2) := by decide +kernel
theorem dX7_court_96 : decode cX7_court 96 = .ok (.baload, 1) := by decide +kernel
theorem dX7_court_97 : decode cX7_court 97 = .ok (.ifCond .ne 14, 3) := by decide +kernel
theorem dX7_court_100 : decode cX7_court 100 = .ok (.aload_n 0, 1) := by decide +kernel
theorem dX7_court_101 : decode cX7_court 101 = .ok (.getfield 35, 3) := by decide +kernel
theorem dX7_court_104 : decode cX7_court 104 = .ok (.iload 4, 2) := by decide +kernel
theorem dX7_court_106 : decode cX7_court 106 = .ok (.iaload, 1) := by decide +kernel
theorem dX7_court_107 : decode cX7_court 107 = .ok (.iload_n 1, 1) := by decide +kernel
theorem dX7_court_108 : decode cX7_court 108 = .ok (.if_icmp .ne 7, 3) := by decide +kernel
theorem dX7_court_111 : decode cX7_court 111 = .ok (.iconst 1, 1) := by decide +kernel
theorem dX7_court_112 : decode cX7_court 112 = .ok (.goto 4, 3) := by decide +kernel
theorem dX7_court_115 : decode cX7_court 115 = .ok (.iconst 0, 1) := by decide +kernel
theorem dX7_court_116 : decode cX7_court 116 = .ok (.bastore, 1) := by decide +kernel
theorem dX7_court_117 : decode cX7_court 117 = .ok (.iinc 4 1, 3) := by decide +kernel
theorem dX7_court_120 : decode cX7_court 120 = .ok (.goto (-45), 3) := by decide +kernel
theorem dX7_court_123 : decode cX7_court 123 = .ok (.iconst 0, 1) := by decide +kernel
theorem dX7_court_124 : decode cX7_court 124 = .ok (.istore 4, 2) := by decide +kernel
theorem dX7_court_126 : decode cX7_court 126 = .ok (.iload 4, 2) := by decide +kernel
theorem dX7_court_128 : decode cX7_court 128 = .ok (.aload_n 0, 1) := by decide +kernel
theorem dX7_court_129 : decode cX7_court 129 = .ok (.getfield 89, 3) := by decide +kernel
theorem dX7_court_132 : decode cX7_court 132 = .ok (.if_icmp .ge 33, 3) := by decide +kernel
theorem dX7_court_135 : decode cX7_court 135 = .ok (.aload_n 0, 1) := by decide +kernel
theorem dX7_court_136 : decode cX7_court 136 = .ok (.getfield 22, 3) := by decide +kernel
theorem dX7_court_139 : decode cX7_court 139 = .ok (.bipush 10, 2) := by decide +kernel
theorem dX7_court_141 : decode cX7_court 141 = .ok (.iload_n 1, 1) := by decide +kernel
theorem dX7_court_142 : decode cX7_court 142 = .ok (.imul, 1) := by decide +kernel
theorem dX7_court_143 : decode cX7_court 143 = .ok (.iload 4, 2) := by decide +kernel
theorem dX7_court_145 : decode cX7_court 145 = .ok (.iadd, 1) := by decide +kernel
theorem dX7_court_146 : decode cX7_court 146 = .ok (.iload 4, 2) := by decide +kernel
theorem dX7_court_148 : decode cX7_court 148 = .ok (.iload_n 2, 1) := by decide +kernel
theorem dX7_court_149 : decode cX7_court 149 = .ok (.if_icmp .ne 8, 3) := by decide +kernel
theorem dX7_court_152 : decode cX7_court 152 = .ok (.bipush 64, 2) := by decide +kernel
theorem dX7_court_154 : decode cX7_court 154 = .ok (.goto 4, 3) := by decide +kernel
theorem dX7_court_157 : decode cX7_court 157 = .ok (.iconst 0, 1) := by decide +kernel
theorem dX7_court_158 : decode cX7_court 158 = .ok (.iastore, 1) := by decide +kernel
theorem dX7_court_159 : decode cX7_court 159 = .ok (.iinc 4 1, 3) := by decide +kernel
theorem dX7_court_162 : decode cX7_court 162 = .ok (.goto (-36), 3) := by decide +kernel
theorem dX7_court_165 : decode cX7_court 165 = .ok (.aload_n 0, 1) := by decide +kernel
theorem dX7_court_166 : decode cX7_court 166 = .ok (.getfield 25, 3) := by decide +kernel
theorem dX7_court_169 : decode cX7_court 169 = .ok (.iload_n 1, 1) := by decide +kernel
theorem dX7_court_170 : decode cX7_court 170 = .ok (.iconst (-1), 1) := by decide +kernel
theorem dX7_court_171 : decode cX7_court 171 = .ok (.iastore, 1) := by decide +kernel
theorem dX7_court_172 : decode cX7_court 172 = .ok (.aload_n 0, 1) := by decide +kernel
theorem dX7_court_173 : decode cX7_court 173 = .ok (.getfield 28, 3) := by decide +kernel
theorem dX7_court_176 : decode cX7_court 176 = .ok (.iload_n 1, 1) := by decide +kernel
theorem dX7_court_177 : decode cX7_court 177 = .ok (.ldc2_w 128, 3) := by decide +kernel
theorem dX7_court_180 : decode cX7_court 180 = .ok (.lastore, 1) := by decide +kernel
theorem dX7_court_181 : decode cX7_court 181 = .ok (.aload_n 0, 1) := by decide +kernel
theorem dX7_court_182 : decode cX7_court 182 = .ok (.iconst 5, 1) := by decide +kernel
theorem dX7_court_183 : decode cX7_court 183 = .ok (.iload_n 1, 1) := by decide +kernel
theorem dX7_court_184 : decode cX7_court 184 = .ok (.iload_n 2, 1) := by decide +kernel
theorem dX7_court_185 : decode cX7_court 185 = .ok (.iload_n 3, 1) := by decide +kernel
theorem dX7_court_186 : decode cX7_court 186 = .ok (.iconst 0, 1) := by decide +kernel
theorem dX7_court_187 : decode cX7_court 187 = .ok (.invokevirtual 149, 3) := by decide +kernel
theorem dX7_court_190 : decode cX7_court 190 = .ok (.istore 4, 2) := by decide +kernel
theorem dX7_court_192 : decode cX7_court 192 = .ok (.aload_n 0, 1) := by decide +kernel
theorem dX7_court_193 : decode cX7_court 193 = .ok (.getfield 168, 3) := by decide +kernel
theorem dX7_court_196 : decode cX7_court 196 = .ok (.lreturn, 1) := by decide +kernel
theorem dX7_pass_0 : decode cX7_pass 0 = .ok (.aload_n 0, 1) := by decide +kernel
theorem dX7_pass_1 : decode cX7_pass 1 = .ok (.iload_n 1, 1) := by decide +kernel
theorem dX7_pass_2 : decode cX7_pass 2 = .ok (.iconst 1, 1) := by decide +kernel
theorem dX7_pass_3 : decode cX7_pass 3 = .ok (.ldc 186, 2) := by decide +kernel
theorem dX7_pass_5 : decode cX7_pass 5 = .ok (.invokestatic 85, 3) := by decide +kernel
theorem dX7_pass_8 : decode cX7_pass 8 = .ok (.ifCond .eq 7, 3) := by decide +kernel
theorem dX7_pass_11 : decode cX7_pass 11 = .ok (.iconst 0, 1) := by decide +kernel
theorem dX7_pass_12 : decode cX7_pass 12 = .ok (.goto 4, 3) := by decide +kernel
theorem dX7_pass_15 : decode cX7_pass 15 = .ok (.iconst 1, 1) := by decide +kernel
theorem dX7_pass_16 : decode cX7_pass 16 = .ok (.putfield 81, 3) := by decide +kernel
theorem dX7_pass_19 : decode cX7_pass 19 = .ok (.aload_n 0, 1) := by decide +kernel
theorem dX7_pass_20 : decode cX7_pass 20 = .ok (.dup, 1) := by decide +kernel
theorem dX7_pass_21 : decode cX7_pass 21 = .ok (.getfield 134, 3) := by decide +kernel
theorem dX7_pass_24 : decode cX7_pass 24 = .ok (.aload_n 0, 1) := by decide +kernel
theorem dX7_pass_25 : decode cX7_pass 25 = .ok (.getfield 81, 3) := by decide +kernel
theorem dX7_pass_28 : decode cX7_pass 28 = .ok (.ifCond .ne 8, 3) := by decide +kernel
theorem dX7_pass_31 : decode cX7_pass 31 = .ok (.iload_n 1, 1) := by decide +kernel
theorem dX7_pass_32 : decode cX7_pass 32 = .ok (.i2l, 1) := by decide +kernel
theorem dX7_pass_33 : decode cX7_pass 33 = .ok (.goto 4, 3) := by decide +kernel
theorem dX7_pass_36 : decode cX7_pass 36 = .ok (.lconst 0, 1) := by decide +kernel
theorem dX7_pass_37 : decode cX7_pass 37 = .ok (.ladd, 1) := by decide +kernel
theorem dX7_pass_38 : decode cX7_pass 38 = .ok (.putfield 134, 3) := by decide +kernel
theorem dX7_pass_41 : decode cX7_pass 41 = .ok (.aload_n 0, 1) := by decide +kernel
theorem dX7_pass_42 : decode cX7_pass 42 = .ok (.getfield 81, 3) := by decide +kernel
theorem dX7_pass_45 : decode cX7_pass 45 = .ok (.ifCond .ne 10, 3) := by decide +kernel
theorem dX7_pass_48 : decode cX7_pass 48 = .ok (.aload_n 0, 1) := by decide +kernel
theorem dX7_pass_49 : decode cX7_pass 49 = .ok (.getfield 134, 3) := by decide +kernel
theorem dX7_pass_52 : decode cX7_pass 52 = .ok (.goto 4, 3) := by decide +kernel
theorem dX7_pass_55 : decode cX7_pass 55 = .ok (.lconst 0, 1) := by decide +kernel
theorem dX7_pass_56 : decode cX7_pass 56 = .ok (.lreturn, 1) := by decide +kernel
theorem dX7_share_0 : decode cX7_share 0 = .ok (.aload_n 0, 1) := by decide +kernel
theorem dX7_share_1 : decode cX7_share 1 = .ok (.aload_n 0, 1) := by decide +kernel
theorem dX7_share_2 : decode cX7_share 2 = .ok (.iload_n 1, 1) := by decide +kernel
theorem dX7_share_3 : decode cX7_share 3 = .ok (.invokevirtual 138, 3) := by decide +kernel
theorem dX7_share_6 : decode cX7_share 6 = .ok (.ifCond .eq 15, 3) := by decide +kernel
theorem dX7_share_9 : decode cX7_share 9 = .ok (.aload_n 0, 1) := by decide +kernel
theorem dX7_share_10 : decode cX7_share 10 = .ok (.iload_n 2, 1) := by decide +kernel
theorem dX7_share_11 : decode cX7_share 11 = .ok (.invokevirtual 105, 3) := by decide +kernel
theorem dX7_share_14 : decode cX7_share 14 = .ok (.ifCond .eq 7, 3) := by decide +kernel
theorem dX7_share_17 : decode cX7_share 17 = .ok (.iconst 0, 1) := by decide +kernel
theorem dX7_share_18 : decode cX7_share 18 = .ok (.goto 4, 3) := by decide +kernel
theorem dX7_share_21 : decode cX7_share 21 = .ok (.iconst 1, 1) := by decide +kernel
theorem dX7_share_22 : decode cX7_share 22 = .ok (.putfield 81, 3) := by decide +kernel
theorem dX7_share_25 : decode cX7_share 25 = .ok (.aload_n 0, 1) := by decide +kernel
theorem dX7_share_26 : decode cX7_share 26 = .ok (.getfield 81, 3) := by decide +kernel
theorem dX7_share_29 : decode cX7_share 29 = .ok (.ifCond .ne 17, 3) := by decide +kernel
theorem dX7_share_32 : decode cX7_share 32 = .ok (.aload_n 0, 1) := by decide +kernel
theorem dX7_share_33 : decode cX7_share 33 = .ok (.getfield 22, 3) := by decide +kernel
theorem dX7_share_36 : decode cX7_share 36 = .ok (.bipush 10, 2) := by decide +kernel
theorem dX7_share_38 : decode cX7_share 38 = .ok (.iload_n 1, 1) := by decide +kernel
theorem dX7_share_39 : decode cX7_share 39 = .ok (.imul, 1) := by decide +kernel
theorem dX7_share_40 : decode cX7_share 40 = .ok (.iload_n 2, 1) := by decide +kernel
theorem dX7_share_41 : decode cX7_share 41 = .ok (.iadd, 1) := by decide +kernel
theorem dX7_share_42 : decode cX7_share 42 = .ok (.iaload, 1) := by decide +kernel
theorem dX7_share_43 : decode cX7_share 43 = .ok (.goto 4, 3) := by decide +kernel
theorem dX7_share_46 : decode cX7_share 46 = .ok (.iconst 0, 1) := by decide +kernel
theorem dX7_share_47 : decode cX7_share 47 = .ok (.ireturn, 1) := by decide +kernel
theorem dX7_sound_0 : decode cX7_sound 0 = .ok (.aload_n 0, 1) := by decide +kernel
theorem dX7_sound_1 : decode cX7_sound 1 = .ok (.aload_n 0, 1) := by decide +kernel
theorem dX7_sound_2 : decode cX7_sound 2 = .ok (.iload_n 1, 1) := by decide +kernel
theorem dX7_sound_3 : decode cX7_sound 3 = .ok (.invokevirtual 138, 3) := by decide +kernel
theorem dX7_sound_6 : decode cX7_sound 6 = .ok (.ifCond .eq 11, 3) := by decide +kernel
theorem dX7_sound_9 : decode cX7_sound 9 = .ok (.iload_n 2, 1) := by decide +kernel
theorem dX7_sound_10 : decode cX7_sound 10 = .ok (.ifCond .lt 7, 3) := by decide +kernel
theorem dX7_sound_13 : decode cX7_sound 13 = .ok (.iconst 0, 1) := by decide +kernel
theorem dX7_sound_14 : decode cX7_sound 14 = .ok (.goto 4, 3) := by decide +kernel
theorem dX7_sound_17 : decode cX7_sound 17 = .ok (.iconst 1, 1) := by decide +kernel
theorem dX7_sound_18 : decode cX7_sound 18 = .ok (.putfield 81, 3) := by decide +kernel
theorem dX7_sound_21 : decode cX7_sound 21 = .ok (.aload_n 0, 1) := by decide +kernel
theorem dX7_sound_22 : decode cX7_sound 22 = .ok (.getfield 81, 3) := by decide +kernel
theorem dX7_sound_25 : decode cX7_sound 25 = .ok (.ifCond .le 5, 3) := by decide +kernel
theorem dX7_sound_28 : decode cX7_sound 28 = .ok (.iconst 0, 1) := by decide +kernel
theorem dX7_sound_29 : decode cX7_sound 29 = .ok (.ireturn, 1) := by decide +kernel
theorem dX7_sound_30 : decode cX7_sound 30 = .ok (.iload_n 2, 1) := by decide +kernel
theorem dX7_sound_31 : decode cX7_sound 31 = .ok (.bipush 8, 2) := by decide +kernel
theorem dX7_sound_33 : decode cX7_sound 33 = .ok (.if_icmp .ge 17, 3) := by decide +kernel
theorem dX7_sound_36 : decode cX7_sound 36 = .ok (.aload_n 0, 1) := by decide +kernel
theorem dX7_sound_37 : decode cX7_sound 37 = .ok (.getfield 19, 3) := by decide +kernel
theorem dX7_sound_40 : decode cX7_sound 40 = .ok (.bipush 8, 2) := by decide +kernel
theorem dX7_sound_42 : decode cX7_sound 42 = .ok (.iload_n 1, 1) := by decide +kernel
theorem dX7_sound_43 : decode cX7_sound 43 = .ok (.imul, 1) := by decide +kernel
theorem dX7_sound_44 : decode cX7_sound 44 = .ok (.iload_n 2, 1) := by decide +kernel
theorem dX7_sound_45 : decode cX7_sound 45 = .ok (.iadd, 1) := by decide +kernel
theorem dX7_sound_46 : decode cX7_sound 46 = .ok (.iaload, 1) := by decide +kernel
theorem dX7_sound_47 : decode cX7_sound 47 = .ok (.goto 4, 3) := by decide +kernel
theorem dX7_sound_50 : decode cX7_sound 50 = .ok (.iconst 0, 1) := by decide +kernel
theorem dX7_sound_51 : decode cX7_sound 51 = .ok (.istore_n 3, 1) := by decide +kernel
theorem dX7_sound_52 : decode cX7_sound 52 = .ok (.iload_n 3, 1) := by decide +kernel
theorem dX7_sound_53 : decode cX7_sound 53 = .ok (.ifCond .ne 8, 3) := by decide +kernel
theorem dX7_sound_56 : decode cX7_sound 56 = .ok (.bipush 32, 2) := by decide +kernel
theorem dX7_sound_58 : decode cX7_sound 58 = .ok (.goto 5, 3) := by decide +kernel
theorem dX7_sound_61 : decode cX7_sound 61 = .ok (.iload_n 3, 1) := by decide +kernel
theorem dX7_sound_62 : decode cX7_sound 62 = .ok (.i2c, 1) := by decide +kernel
theorem dX7_sound_63 : decode cX7_sound 63 = .ok (.ireturn, 1) := by decide +kernel
theorem dX7_flag_0 : decode cX7_flag 0 = .ok (.aload_n 0, 1) := by decide +kernel
theorem dX7_flag_1 : decode cX7_flag 1 = .ok (.aload_n 0, 1) := by decide +kernel
theorem dX7_flag_2 : decode cX7_flag 2 = .ok (.iload_n 1, 1) := by decide +kernel
theorem dX7_flag_3 : decode cX7_flag 3 = .ok (.invokevirtual 138, 3) := by decide +kernel
theorem dX7_flag_6 : decode cX7_flag 6 = .ok (.ifCond .eq 7, 3) := by decide +kernel
theorem dX7_flag_9 : decode cX7_flag 9 = .ok (.iconst 0, 1) := by decide +kernel
theorem dX7_flag_10 : decode cX7_flag 10 = .ok (.goto 4, 3) := by decide +kernel
theorem dX7_flag_13 : decode cX7_flag 13 = .ok (.iconst 1, 1) := by decide +kernel
theorem dX7_flag_14 : decode cX7_flag 14 = .ok (.putfield 81, 3) := by decide +kernel
theorem dX7_flag_17 : decode cX7_flag 17 = .ok (.aload_n 0, 1) := by decide +kernel
theorem dX7_flag_18 : decode cX7_flag 18 = .ok (.getfield 81, 3) := by decide +kernel
theorem dX7_flag_21 : decode cX7_flag 21 = .ok (.ifCond .ne 11, 3) := by decide +kernel
theorem dX7_flag_24 : decode cX7_flag 24 = .ok (.aload_n 0, 1) := by decide +kernel
theorem dX7_flag_25 : decode cX7_flag 25 = .ok (.iload_n 1, 1) := by decide +kernel
theorem dX7_flag_26 : decode cX7_flag 26 = .ok (.invokevirtual 143, 3) := by decide +kernel
theorem dX7_flag_29 : decode cX7_flag 29 = .ok (.goto 4, 3) := by decide +kernel
theorem dX7_flag_32 : decode cX7_flag 32 = .ok (.iconst 0, 1) := by decide +kernel
theorem dX7_flag_33 : decode cX7_flag 33 = .ok (.ireturn, 1) := by decide +kernel
theorem dX7_rank_0 : decode cX7_rank 0 = .ok (.aload_n 0, 1) := by decide +kernel
theorem dX7_rank_1 : decode cX7_rank 1 = .ok (.aload_n 0, 1) := by decide +kernel
theorem dX7_rank_2 : decode cX7_rank 2 = .ok (.iload_n 1, 1) := by decide +kernel
theorem dX7_rank_3 : decode cX7_rank 3 = .ok (.invokevirtual 160, 3) := by decide +kernel
theorem dX7_rank_6 : decode cX7_rank 6 = .ok (.ifCond .eq 7, 3) := by decide +kernel
theorem dX7_rank_9 : decode cX7_rank 9 = .ok (.iconst 0, 1) := by decide +kernel
theorem dX7_rank_10 : decode cX7_rank 10 = .ok (.goto 4, 3) := by decide +kernel
theorem dX7_rank_13 : decode cX7_rank 13 = .ok (.iconst 1, 1) := by decide +kernel
theorem dX7_rank_14 : decode cX7_rank 14 = .ok (.putfield 81, 3) := by decide +kernel
theorem dX7_rank_17 : decode cX7_rank 17 = .ok (.aload_n 0, 1) := by decide +kernel
theorem dX7_rank_18 : decode cX7_rank 18 = .ok (.getfield 81, 3) := by decide +kernel
theorem dX7_rank_21 : decode cX7_rank 21 = .ok (.ifCond .le 5, 3) := by decide +kernel
theorem dX7_rank_24 : decode cX7_rank 24 = .ok (.iconst 0, 1) := by decide +kernel
theorem dX7_rank_25 : decode cX7_rank 25 = .ok (.ireturn, 1) := by decide +kernel
theorem dX7_rank_26 : decode cX7_rank 26 = .ok (.aload_n 0, 1) := by decide +kernel
theorem dX7_rank_27 : decode cX7_rank 27 = .ok (.iload_n 1, 1) := by decide +kernel
theorem dX7_rank_28 : decode cX7_rank 28 = .ok (.aload_n 0, 1) := by decide +kernel
theorem dX7_rank_29 : decode cX7_rank 29 = .ok (.getfield 35, 3) := by decide +kernel
theorem dX7_rank_32 : decode cX7_rank 32 = .ok (.aload_n 0, 1) := by decide +kernel
theorem dX7_rank_33 : decode cX7_rank 33 = .ok (.getfield 57, 3) := by decide +kernel
theorem dX7_rank_36 : decode cX7_rank 36 = .ok (.iload_n 1, 1) := by decide +kernel
theorem dX7_rank_37 : decode cX7_rank 37 = .ok (.iaload, 1) := by decide +kernel
theorem dX7_rank_38 : decode cX7_rank 38 = .ok (.iaload, 1) := by decide +kernel
theorem dX7_rank_39 : decode cX7_rank 39 = .ok (.invokevirtual 165, 3) := by decide +kernel
theorem dX7_rank_42 : decode cX7_rank 42 = .ok (.ifCond .eq 11, 3) := by decide +kernel
theorem dX7_rank_45 : decode cX7_rank 45 = .ok (.aload_n 0, 1) := by decide +kernel
theorem dX7_rank_46 : decode cX7_rank 46 = .ok (.iload_n 1, 1) := by decide +kernel
theorem dX7_rank_47 : decode cX7_rank 47 = .ok (.invokevirtual 177, 3) := by decide +kernel
theorem dX7_rank_50 : decode cX7_rank 50 = .ok (.goto 4, 3) := by decide +kernel
theorem dX7_rank_53 : decode cX7_rank 53 = .ok (.iconst (-1), 1) := by decide +kernel
theorem dX7_rank_54 : decode cX7_rank 54 = .ok (.ireturn, 1) := by decide +kernel
theorem dX7_findBook_0 : decode cX7_findBook 0 = .ok (.iconst 0, 1) := by decide +kernel
theorem dX7_findBook_1 : decode cX7_findBook 1 = .ok (.istore 4, 2) := by decide +kernel
theorem dX7_findBook_3 : decode cX7_findBook 3 = .ok (.iload 4, 2) := by decide +kernel
theorem dX7_findBook_5 : decode cX7_findBook 5 = .ok (.aload_n 0, 1) := by decide +kernel
theorem dX7_findBook_6 : decode cX7_findBook 6 = .ok (.getfield 95, 3) := by decide +kernel
theorem dX7_findBook_9 : decode cX7_findBook 9 = .ok (.if_icmp .ge 17, 3) := by decide +kernel
theorem dX7_findBook_12 : decode cX7_findBook 12 = .ok (.aload_n 0, 1) := by decide +kernel
theorem dX7_findBook_13 : decode cX7_findBook 13 = .ok (.getfield 78, 3) := by decide +kernel
theorem dX7_findBook_16 : decode cX7_findBook 16 = .ok (.iload 4, 2) := by decide +kernel
theorem dX7_findBook_18 : decode cX7_findBook 18 = .ok (.iconst 0, 1) := by decide +kernel
theorem dX7_findBook_19 : decode cX7_findBook 19 = .ok (.bastore, 1) := by decide +kernel
theorem dX7_findBook_20 : decode cX7_findBook 20 = .ok (.iinc 4 1, 3) := by decide +kernel
theorem dX7_findBook_23 : decode cX7_findBook 23 = .ok (.goto (-20), 3) := by decide +kernel
theorem dX7_findBook_26 : decode cX7_findBook 26 = .ok (.iconst 0, 1) := by decide +kernel
theorem dX7_findBook_27 : decode cX7_findBook 27 = .ok (.istore 4, 2) := by decide +kernel
theorem dX7_findBook_29 : decode cX7_findBook 29 = .ok (.iload 4, 2) := by decide +kernel
theorem dX7_findBook_31 : decode cX7_findBook 31 = .ok (.aload_n 0, 1) := by decide +kernel
theorem dX7_findBook_32 : decode cX7_findBook 32 = .ok (.getfield 146, 3) := by decide +kernel
theorem dX7_findBook_35 : decode cX7_findBook 35 = .ok (.if_icmp .ge 130, 3) := by decide +kernel
theorem dX7_findBook_38 : decode cX7_findBook 38 = .ok (.aload_n 0, 1) := by decide +kernel
theorem dX7_findBook_39 : decode cX7_findBook 39 = .ok (.getfield 35, 3) := by decide +kernel
theorem dX7_findBook_42 : decode cX7_findBook 42 = .ok (.iload 4, 2) := by decide +kernel
theorem dX7_findBook_44 : decode cX7_findBook 44 = .ok (.iaload, 1) := by decide +kernel
theorem dX7_findBook_45 : decode cX7_findBook 45 = .ok (.iload_n 1, 1) := by decide +kernel
theorem dX7_findBook_46 : decode cX7_findBook 46 = .ok (.if_icmp .ne 113, 3) := by decide +kernel
theorem dX7_findBook_49 : decode cX7_findBook 49 = .ok (.aload_n 0, 1) := by decide +kernel
theorem dX7_findBook_50 : decode cX7_findBook 50 = .ok (.getfield 47, 3) := by decide +kernel
theorem dX7_findBook_53 : decode cX7_findBook 53 = .ok (.iload 4, 2) := by decide +kernel
theorem dX7_findBook_55 : decode cX7_findBook 55 = .ok (.laload, 1) := by decide +kernel
theorem dX7_findBook_56 : decode cX7_findBook 56 = .ok (.lload_n 2, 1) := by decide +kernel
theorem dX7_findBook_57 : decode cX7_findBook 57 = .ok (.lcmp, 1) := by decide +kernel
theorem dX7_findBook_58 : decode cX7_findBook 58 = .ok (.ifCond .gt 101, 3) := by decide +kernel
theorem dX7_findBook_61 : decode cX7_findBook 61 = .ok (.iconst 0, 1) := by decide +kernel
theorem dX7_findBook_62 : decode cX7_findBook 62 = .ok (.istore 5, 2) := by decide +kernel
theorem dX7_findBook_64 : decode cX7_findBook 64 = .ok (.iload 5, 2) := by decide +kernel
theorem dX7_findBook_66 : decode cX7_findBook 66 = .ok (.aload_n 0, 1) := by decide +kernel
theorem dX7_findBook_67 : decode cX7_findBook 67 = .ok (.getfield 95, 3) := by decide +kernel
theorem dX7_findBook_70 : decode cX7_findBook 70 = .ok (.if_icmp .ge 28, 3) := by decide +kernel
theorem dX7_findBook_73 : decode cX7_findBook 73 = .ok (.aload_n 0, 1) := by decide +kernel
theorem dX7_findBook_74 : decode cX7_findBook 74 = .ok (.getfield 32, 3) := by decide +kernel
theorem dX7_findBook_77 : decode cX7_findBook 77 = .ok (.iload 4, 2) := by decide +kernel
theorem dX7_findBook_79 : decode cX7_findBook 79 = .ok (.iaload, 1) := by decide +kernel
theorem dX7_findBook_80 : decode cX7_findBook 80 = .ok (.iconst 5, 1) := by decide +kernel
theorem dX7_findBook_81 : decode cX7_findBook 81 = .ok (.if_icmp .ne 17, 3) := by decide +kernel
theorem dX7_findBook_84 : decode cX7_findBook 84 = .ok (.aload_n 0, 1) := by decide +kernel
theorem dX7_findBook_85 : decode cX7_findBook 85 = .ok (.getfield 78, 3) := by decide +kernel
theorem dX7_findBook_88 : decode cX7_findBook 88 = .ok (.iload 5, 2) := by decide +kernel
theorem dX7_findBook_90 : decode cX7_findBook 90 = .ok (.iconst 0, 1) := by decide +kernel
theorem dX7_findBook_91 : decode cX7_findBook 91 = .ok (.bastore, 1) := by decide +kernel
theorem dX7_findBook_92 : decode cX7_findBook 92 = .ok (.iinc 5 1, 3) := by decide +kernel
theorem dX7_findBook_95 : decode cX7_findBook 95 = .ok (.goto (-31), 3) := by decide +kernel
theorem dX7_findBook_98 : decode cX7_findBook 98 = .ok (.aload_n 0, 1) := by decide +kernel
theorem dX7_findBook_99 : decode cX7_findBook 99 = .ok (.getfield 32, 3) := by decide +kernel
theorem dX7_findBook_102 : decode cX7_findBook 102 = .ok (.iload 4, 2) := by decide +kernel
theorem dX7_findBook_104 : decode cX7_findBook 104 = .ok (.iaload, 1) := by decide +kernel
theorem dX7_findBook_105 : decode cX7_findBook 105 = .ok (.iconst 1, 1) := by decide +kernel
theorem dX7_findBook_106 : decode cX7_findBook 106 = .ok (.if_icmp .eq 25, 3) := by decide +kernel
theorem dX7_findBook_109 : decode cX7_findBook 109 = .ok (.aload_n 0, 1) := by decide +kernel
theorem dX7_findBook_110 : decode cX7_findBook 110 = .ok (.getfield 32, 3) := by decide +kernel
theorem dX7_findBook_113 : decode cX7_findBook 113 = .ok (.iload 4, 2) := by decide +kernel
theorem dX7_findBook_115 : decode cX7_findBook 115 = .ok (.iaload, 1) := by decide +kernel
theorem dX7_findBook_116 : decode cX7_findBook 116 = .ok (.iconst 2, 1) := by decide +kernel
theorem dX7_findBook_117 : decode cX7_findBook 117 = .ok (.if_icmp .eq 14, 3) := by decide +kernel
theorem dX7_findBook_120 : decode cX7_findBook 120 = .ok (.aload_n 0, 1) := by decide +kernel
theorem dX7_findBook_121 : decode cX7_findBook 121 = .ok (.getfield 32, 3) := by decide +kernel
theorem dX7_findBook_124 : decode cX7_findBook 124 = .ok (.iload 4, 2) := by decide +kernel
theorem dX7_findBook_126 : decode cX7_findBook 126 = .ok (.iaload, 1) := by decide +kernel
theorem dX7_findBook_127 : decode cX7_findBook 127 = .ok (.iconst 3, 1) := by decide +kernel
theorem dX7_findBook_128 : decode cX7_findBook 128 = .ok (.if_icmp .ne 31, 3) := by decide +kernel
theorem dX7_findBook_131 : decode cX7_findBook 131 = .ok (.aload_n 0, 1) := by decide +kernel
theorem dX7_findBook_132 : decode cX7_findBook 132 = .ok (.getfield 78, 3) := by decide +kernel
theorem dX7_findBook_135 : decode cX7_findBook 135 = .ok (.aload_n 0, 1) := by decide +kernel
theorem dX7_findBook_136 : decode cX7_findBook 136 = .ok (.getfield 44, 3) := by decide +kernel
theorem dX7_findBook_139 : decode cX7_findBook 139 = .ok (.iload 4, 2) := by decide +kernel
theorem dX7_findBook_141 : decode cX7_findBook 141 = .ok (.iaload, 1) := by decide +kernel
theorem dX7_findBook_142 : decode cX7_findBook 142 = .ok (.aload_n 0, 1) := by decide +kernel
theorem dX7_findBook_143 : decode cX7_findBook 143 = .ok (.getfield 32, 3) := by decide +kernel
theorem dX7_findBook_146 : decode cX7_findBook 146 = .ok (.iload 4, 2) := by decide +kernel
theorem dX7_findBook_148 : decode cX7_findBook 148 = .ok (.iaload, 1) := by decide +kernel
theorem dX7_findBook_149 : decode cX7_findBook 149 = .ok (.iconst 2, 1) := by decide +kernel
theorem dX7_findBook_150 : decode cX7_findBook 150 = .ok (.if_icmp .eq 7, 3) := by decide +kernel
theorem dX7_findBook_153 : decode cX7_findBook 153 = .ok (.iconst 1, 1) := by decide +kernel
theorem dX7_findBook_154 : decode cX7_findBook 154 = .ok (.goto 4, 3) := by decide +kernel
theorem dX7_findBook_157 : decode cX7_findBook 157 = .ok (.iconst 0, 1) := by decide +kernel
theorem dX7_findBook_158 : decode cX7_findBook 158 = .ok (.bastore, 1) := by decide +kernel
theorem dX7_findBook_159 : decode cX7_findBook 159 = .ok (.iinc 4 1, 3) := by decide +kernel
theorem dX7_findBook_162 : decode cX7_findBook 162 = .ok (.goto (-133), 3) := by decide +kernel
theorem dX7_findBook_165 : decode cX7_findBook 165 = .ok (.return_, 1) := by decide +kernel
theorem dX7_search_0 : decode cX7_search 0 = .ok (.aload_n 0, 1) := by decide +kernel
theorem dX7_search_1 : decode cX7_search 1 = .ok (.aload_n 0, 1) := by decide +kernel
theorem dX7_search_2 : decode cX7_search 2 = .ok (.iload_n 1, 1) := by decide +kernel
theorem dX7_search_3 : decode cX7_search 3 = .ok (.invokevirtual 138, 3) := by decide +kernel
theorem dX7_search_6 : decode cX7_search 6 = .ok (.ifCond .eq 8, 3) := by decide +kernel
theorem dX7_search_9 : decode cX7_search 9 = .ok (.iload 4, 2) := by decide +kernel
theorem dX7_search_11 : decode cX7_search 11 = .ok (.ifCond .ge 7, 3) := by decide +kernel
theorem dX7_search_14 : decode cX7_search 14 = .ok (.iconst 1, 1) := by decide +kernel
theorem dX7_search_15 : decode cX7_search 15 = .ok (.goto 23, 3) := by decide +kernel
theorem dX7_search_18 : decode cX7_search 18 = .ok (.lload_n 2, 1) := by decide +kernel
theorem dX7_search_19 : decode cX7_search 19 = .ok (.lconst 0, 1) := by decide +kernel
theorem dX7_search_20 : decode cX7_search 20 = .ok (.lcmp, 1) := by decide +kernel
theorem dX7_search_21 : decode cX7_search 21 = .ok (.ifCond .lt 12, 3) := by decide +kernel
theorem dX7_search_24 : decode cX7_search 24 = .ok (.lload_n 2, 1) := by decide +kernel
theorem dX7_search_25 : decode cX7_search 25 = .ok (.aload_n 0, 1) := by decide +kernel
theorem dX7_search_26 : decode cX7_search 26 = .ok (.getfield 134, 3) := by decide +kernel
theorem dX7_search_29 : decode cX7_search 29 = .ok (.lcmp, 1) := by decide +kernel
theorem dX7_search_30 : decode cX7_search 30 = .ok (.ifCond .le 7, 3) := by decide +kernel
theorem dX7_search_33 : decode cX7_search 33 = .ok (.iconst 2, 1) := by decide +kernel
theorem dX7_search_34 : decode cX7_search 34 = .ok (.goto 4, 3) := by decide +kernel
theorem dX7_search_37 : decode cX7_search 37 = .ok (.iconst 0, 1) := by decide +kernel
theorem dX7_search_38 : decode cX7_search 38 = .ok (.putfield 81, 3) := by decide +kernel
theorem dX7_search_41 : decode cX7_search 41 = .ok (.aload_n 0, 1) := by decide +kernel
theorem dX7_search_42 : decode cX7_search 42 = .ok (.getfield 81, 3) := by decide +kernel
theorem dX7_search_45 : decode cX7_search 45 = .ok (.ifCond .le 5, 3) := by decide +kernel
theorem dX7_search_48 : decode cX7_search 48 = .ok (.iconst 0, 1) := by decide +kernel
theorem dX7_search_49 : decode cX7_search 49 = .ok (.ireturn, 1) := by decide +kernel
theorem dX7_search_50 : decode cX7_search 50 = .ok (.aload_n 0, 1) := by decide +kernel
theorem dX7_search_51 : decode cX7_search 51 = .ok (.iload_n 1, 1) := by decide +kernel
theorem dX7_search_52 : decode cX7_search 52 = .ok (.lload_n 2, 1) := by decide +kernel
theorem dX7_search_53 : decode cX7_search 53 = .ok (.invokevirtual 187, 3) := by decide +kernel
theorem dX7_search_56 : decode cX7_search 56 = .ok (.iconst (-1), 1) := by decide +kernel
theorem dX7_search_57 : decode cX7_search 57 = .ok (.istore 5, 2) := by decide +kernel
theorem dX7_search_59 : decode cX7_search 59 = .ok (.iconst 0, 1) := by decide +kernel
theorem dX7_search_60 : decode cX7_search 60 = .ok (.istore 6, 2) := by decide +kernel
theorem dX7_search_62 : decode cX7_search 62 = .ok (.iload 6, 2) := by decide +kernel
theorem dX7_search_64 : decode cX7_search 64 = .ok (.aload_n 0, 1) := by decide +kernel
theorem dX7_search_65 : decode cX7_search 65 = .ok (.getfield 95, 3) := by decide +kernel
theorem dX7_search_68 : decode cX7_search 68 = .ok (.if_icmp .ge 93, 3) := by decide +kernel
theorem dX7_search_71 : decode cX7_search 71 = .ok (.iconst 0, 1) := by decide +kernel
theorem dX7_search_72 : decode cX7_search 72 = .ok (.istore 7, 2) := by decide +kernel
theorem dX7_search_74 : decode cX7_search 74 = .ok (.iconst 0, 1) := by decide +kernel
theorem dX7_search_75 : decode cX7_search 75 = .ok (.istore 8, 2) := by decide +kernel
theorem dX7_search_77 : decode cX7_search 77 = .ok (.iload 8, 2) := by decide +kernel
theorem dX7_search_79 : decode cX7_search 79 = .ok (.aload_n 0, 1) := by decide +kernel
theorem dX7_search_80 : decode cX7_search 80 = .ok (.getfield 95, 3) := by decide +kernel
theorem dX7_search_83 : decode cX7_search 83 = .ok (.if_icmp .ge 46, 3) := by decide +kernel
theorem dX7_search_86 : decode cX7_search 86 = .ok (.iload 7, 2) := by decide +kernel
theorem dX7_search_88 : decode cX7_search 88 = .ok (.aload_n 0, 1) := by decide +kernel
theorem dX7_search_89 : decode cX7_search 89 = .ok (.getfield 78, 3) := by decide +kernel
theorem dX7_search_92 : decode cX7_search 92 = .ok (.iload 8, 2) := by decide +kernel
theorem dX7_search_94 : decode cX7_search 94 = .ok (.baload, 1) := by decide +kernel
theorem dX7_search_95 : decode cX7_search 95 = .ok (.ifCond .eq 24, 3) := by decide +kernel
theorem dX7_search_98 : decode cX7_search 98 = .ok (.aload_n 0, 1) := by decide +kernel
theorem dX7_search_99 : decode cX7_search 99 = .ok (.getfield 60, 3) := by decide +kernel
theorem dX7_search_102 : decode cX7_search 102 = .ok (.iload 8, 2) := by decide +kernel
theorem dX7_search_104 : decode cX7_search 104 = .ok (.iaload, 1) := by decide +kernel
theorem dX7_search_105 : decode cX7_search 105 = .ok (.aload_n 0, 1) := by decide +kernel
theorem dX7_search_106 : decode cX7_search 106 = .ok (.getfield 60, 3) := by decide +kernel
theorem dX7_search_109 : decode cX7_search 109 = .ok (.iload 6, 2) := by decide +kernel
theorem dX7_search_111 : decode cX7_search 111 = .ok (.iaload, 1) := by decide +kernel
theorem dX7_search_112 : decode cX7_search 112 = .ok (.if_icmp .ge 7, 3) := by decide +kernel
theorem dX7_search_115 : decode cX7_search 115 = .ok (.iconst 1, 1) := by decide +kernel
theorem dX7_search_116 : decode cX7_search 116 = .ok (.goto 4, 3) := by decide +kernel
theorem dX7_search_119 : decode cX7_search 119 = .ok (.iconst 0, 1) := by decide +kernel
theorem dX7_search_120 : decode cX7_search 120 = .ok (.iadd, 1) := by decide +kernel
theorem dX7_search_121 : decode cX7_search 121 = .ok (.istore 7, 2) := by decide +kernel
theorem dX7_search_123 : decode cX7_search 123 = .ok (.iinc 8 1, 3) := by decide +kernel
theorem dX7_search_126 : decode cX7_search 126 = .ok (.goto (-49), 3) := by decide +kernel
theorem dX7_search_129 : decode cX7_search 129 = .ok (.aload_n 0, 1) := by decide +kernel
theorem dX7_search_130 : decode cX7_search 130 = .ok (.getfield 78, 3) := by decide +kernel
theorem dX7_search_133 : decode cX7_search 133 = .ok (.iload 6, 2) := by decide +kernel
theorem dX7_search_135 : decode cX7_search 135 = .ok (.baload, 1) := by decide +kernel
theorem dX7_search_136 : decode cX7_search 136 = .ok (.ifCond .eq 15, 3) := by decide +kernel
theorem dX7_search_139 : decode cX7_search 139 = .ok (.iload 7, 2) := by decide +kernel
theorem dX7_search_141 : decode cX7_search 141 = .ok (.iload 4, 2) := by decide +kernel
theorem dX7_search_143 : decode cX7_search 143 = .ok (.if_icmp .ne 8, 3) := by decide +kernel
theorem dX7_search_146 : decode cX7_search 146 = .ok (.iload 6, 2) := by decide +kernel
theorem dX7_search_148 : decode cX7_search 148 = .ok (.goto 5, 3) := by decide +kernel
theorem dX7_search_151 : decode cX7_search 151 = .ok (.iload 5, 2) := by decide +kernel
theorem dX7_search_153 : decode cX7_search 153 = .ok (.istore 5, 2) := by decide +kernel
theorem dX7_search_155 : decode cX7_search 155 = .ok (.iinc 6 1, 3) := by decide +kernel
theorem dX7_search_158 : decode cX7_search 158 = .ok (.goto (-96), 3) := by decide +kernel
theorem dX7_search_161 : decode cX7_search 161 = .ok (.iload 5, 2) := by decide +kernel
theorem dX7_search_163 : decode cX7_search 163 = .ok (.ireturn, 1) := by decide +kernel
theorem dX7_got_0 : decode cX7_got 0 = .ok (.aload_n 0, 1) := by decide +kernel
theorem dX7_got_1 : decode cX7_got 1 = .ok (.aload_n 0, 1) := by decide +kernel
theorem dX7_got_2 : decode cX7_got 2 = .ok (.iload_n 1, 1) := by decide +kernel
theorem dX7_got_3 : decode cX7_got 3 = .ok (.invokevirtual 105, 3) := by decide +kernel
theorem dX7_got_6 : decode cX7_got 6 = .ok (.ifCond .eq 7, 3) := by decide +kernel
theorem dX7_got_9 : decode cX7_got 9 = .ok (.iconst 0, 1) := by decide +kernel
theorem dX7_got_10 : decode cX7_got 10 = .ok (.goto 4, 3) := by decide +kernel
theorem dX7_got_13 : decode cX7_got 13 = .ok (.iconst 1, 1) := by decide +kernel
theorem dX7_got_14 : decode cX7_got 14 = .ok (.putfield 81, 3) := by decide +kernel
theorem dX7_got_17 : decode cX7_got 17 = .ok (.aload_n 0, 1) := by decide +kernel
theorem dX7_got_18 : decode cX7_got 18 = .ok (.getfield 81, 3) := by decide +kernel
theorem dX7_got_21 : decode cX7_got 21 = .ok (.ifCond .ne 12, 3) := by decide +kernel
theorem dX7_got_24 : decode cX7_got 24 = .ok (.aload_n 0, 1) := by decide +kernel
theorem dX7_got_25 : decode cX7_got 25 = .ok (.getfield 66, 3) := by decide +kernel
theorem dX7_got_28 : decode cX7_got 28 = .ok (.iload_n 1, 1) := by decide +kernel
theorem dX7_got_29 : decode cX7_got 29 = .ok (.laload, 1) := by decide +kernel
theorem dX7_got_30 : decode cX7_got 30 = .ok (.goto 4, 3) := by decide +kernel
theorem dX7_got_33 : decode cX7_got 33 = .ok (.lconst 0, 1) := by decide +kernel
theorem dX7_got_34 : decode cX7_got 34 = .ok (.lreturn, 1) := by decide +kernel
theorem dX7_liens_0 : decode cX7_liens 0 = .ok (.aload_n 0, 1) := by decide +kernel
theorem dX7_liens_1 : decode cX7_liens 1 = .ok (.aload_n 0, 1) := by decide +kernel
theorem dX7_liens_2 : decode cX7_liens 2 = .ok (.iload_n 1, 1) := by decide +kernel
theorem dX7_liens_3 : decode cX7_liens 3 = .ok (.invokevirtual 138, 3) := by decide +kernel
theorem dX7_liens_6 : decode cX7_liens 6 = .ok (.ifCond .eq 7, 3) := by decide +kernel
theorem dX7_liens_9 : decode cX7_liens 9 = .ok (.iconst 0, 1) := by decide +kernel
theorem dX7_liens_10 : decode cX7_liens 10 = .ok (.goto 4, 3) := by decide +kernel
theorem dX7_liens_13 : decode cX7_liens 13 = .ok (.iconst 1, 1) := by decide +kernel
theorem dX7_liens_14 : decode cX7_liens 14 = .ok (.putfield 81, 3) := by decide +kernel
theorem dX7_liens_17 : decode cX7_liens 17 = .ok (.iconst 0, 1) := by decide +kernel
theorem dX7_liens_18 : decode cX7_liens 18 = .ok (.istore_n 2, 1) := by decide +kernel
theorem dX7_liens_19 : decode cX7_liens 19 = .ok (.iconst 0, 1) := by decide +kernel
theorem dX7_liens_20 : decode cX7_liens 20 = .ok (.istore_n 3, 1) := by decide +kernel
theorem dX7_liens_21 : decode cX7_liens 21 = .ok (.iload_n 3, 1) := by decide +kernel
theorem dX7_liens_22 : decode cX7_liens 22 = .ok (.aload_n 0, 1) := by decide +kernel
theorem dX7_liens_23 : decode cX7_liens 23 = .ok (.getfield 146, 3) := by decide +kernel
theorem dX7_liens_26 : decode cX7_liens 26 = .ok (.if_icmp .ge 33, 3) := by decide +kernel
theorem dX7_liens_29 : decode cX7_liens 29 = .ok (.aload_n 0, 1) := by decide +kernel
theorem dX7_liens_30 : decode cX7_liens 30 = .ok (.getfield 81, 3) := by decide +kernel
theorem dX7_liens_33 : decode cX7_liens 33 = .ok (.ifCond .ne 26, 3) := by decide +kernel
theorem dX7_liens_36 : decode cX7_liens 36 = .ok (.iload_n 2, 1) := by decide +kernel
theorem dX7_liens_37 : decode cX7_liens 37 = .ok (.aload_n 0, 1) := by decide +kernel
theorem dX7_liens_38 : decode cX7_liens 38 = .ok (.iload_n 3, 1) := by decide +kernel
theorem dX7_liens_39 : decode cX7_liens 39 = .ok (.iload_n 1, 1) := by decide +kernel
theorem dX7_liens_40 : decode cX7_liens 40 = .ok (.invokevirtual 171, 3) := by decide +kernel
theorem dX7_liens_43 : decode cX7_liens 43 = .ok (.ifCond .eq 7, 3) := by decide +kernel
theorem dX7_liens_46 : decode cX7_liens 46 = .ok (.iconst 1, 1) := by decide +kernel
theorem dX7_liens_47 : decode cX7_liens 47 = .ok (.goto 4, 3) := by decide +kernel
theorem dX7_liens_50 : decode cX7_liens 50 = .ok (.iconst 0, 1) := by decide +kernel
theorem dX7_liens_51 : decode cX7_liens 51 = .ok (.iadd, 1) := by decide +kernel
theorem dX7_liens_52 : decode cX7_liens 52 = .ok (.istore_n 2, 1) := by decide +kernel
theorem dX7_liens_53 : decode cX7_liens 53 = .ok (.iinc 3 1, 3) := by decide +kernel
theorem dX7_liens_56 : decode cX7_liens 56 = .ok (.goto (-35), 3) := by decide +kernel
theorem dX7_liens_59 : decode cX7_liens 59 = .ok (.iload_n 2, 1) := by decide +kernel
theorem dX7_liens_60 : decode cX7_liens 60 = .ok (.ireturn, 1) := by decide +kernel
