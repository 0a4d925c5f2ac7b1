theorem dX10_init_0 : decode cX10_init 0 = .ok (.aload_n 0, 1) := by decide +kernel
theorem dX10_init_1 : decode cX10_init 1 = .ok (.invokespecial 3, 3) := by decide +kernel
theorem dX10_init_4 : decode cX10_init 4 = .ok (.aload_n 0, 1) := by decide +kernel
theorem dX10_init_5 : decode cX10_init 5 = .ok (.new 9, 3) := by decide +kernel
theorem dX10_init_8 : decode cX10_init 8 = .ok (.dup, 1) := by decide +kernel
theorem dX10_init_9 : decode cX10_init 9 = .ok (.invokespecial 11, 3) := by decide +kernel
theorem dX10_init_12 : decode cX10_init 12 = .ok (.putfield 12, 3) := by decide +kernel
theorem dX10_init_15 : decode cX10_init 15 = .ok (.aload_n 0, 1) := by decide +kernel
theorem dX10_init_16 : decode cX10_init 16 = .ok (.new 16, 3) := by decide +kernel
theorem dX10_init_19 : decode cX10_init 19 = .ok (.dup, 1) := by decide +kernel
theorem dX10_init_20 : decode cX10_init 20 = .ok (.invokespecial 18, 3) := by decide +kernel
theorem dX10_init_23 : decode cX10_init 23 = .ok (.putfield 19, 3) := by decide +kernel
theorem dX10_init_26 : decode cX10_init 26 = .ok (.aload_n 0, 1) := by decide +kernel
theorem dX10_init_27 : decode cX10_init 27 = .ok (.new 23, 3) := by decide +kernel
theorem dX10_init_30 : decode cX10_init 30 = .ok (.dup, 1) := by decide +kernel
theorem dX10_init_31 : decode cX10_init 31 = .ok (.invokespecial 25, 3) := by decide +kernel
theorem dX10_init_34 : decode cX10_init 34 = .ok (.putfield 26, 3) := by decide +kernel
theorem dX10_init_37 : decode cX10_init 37 = .ok (.aload_n 0, 1) := by decide +kernel
theorem dX10_init_38 : decode cX10_init 38 = .ok (.new 23, 3) := by decide +kernel
theorem dX10_init_41 : decode cX10_init 41 = .ok (.dup, 1) := by decide +kernel
theorem dX10_init_42 : decode cX10_init 42 = .ok (.invokespecial 25, 3) := by decide +kernel
theorem dX10_init_45 : decode cX10_init 45 = .ok (.putfield 30, 3) := by decide +kernel
theorem dX10_init_48 : decode cX10_init 48 = .ok (.aload_n 0, 1) := by decide +kernel
theorem dX10_init_49 : decode cX10_init 49 = .ok (.new 23, 3) := by decide +kernel
theorem dX10_init_52 : decode cX10_init 52 = .ok (.dup, 1) := by decide +kernel
theorem dX10_init_53 : decode cX10_init 53 = .ok (.invokespecial 25, 3) := by decide +kernel
theorem dX10_init_56 : decode cX10_init 56 = .ok (.putfield 33, 3) := by decide +kernel
theorem dX10_init_59 : decode cX10_init 59 = .ok (.aload_n 0, 1) := by decide +kernel
theorem dX10_init_60 : decode cX10_init 60 = .ok (.new 23, 3) := by decide +kernel
theorem dX10_init_63 : decode cX10_init 63 = .ok (.dup, 1) := by decide +kernel
theorem dX10_init_64 : decode cX10_init 64 = .ok (.invokespecial 25, 3) := by decide +kernel
theorem dX10_init_67 : decode cX10_init 67 = .ok (.putfield 36, 3) := by decide +kernel
theorem dX10_init_70 : decode cX10_init 70 = .ok (.aload_n 0, 1) := by decide +kernel
theorem dX10_init_71 : decode cX10_init 71 = .ok (.new 39, 3) := by decide +kernel
theorem dX10_init_74 : decode cX10_init 74 = .ok (.dup, 1) := by decide +kernel
theorem dX10_init_75 : decode cX10_init 75 = .ok (.invokespecial 41, 3) := by decide +kernel
theorem dX10_init_78 : decode cX10_init 78 = .ok (.putfield 42, 3) := by decide +kernel
theorem dX10_init_81 : decode cX10_init 81 = .ok (.aload_n 0, 1) := by decide +kernel
theorem dX10_init_82 : decode cX10_init 82 = .ok (.new 46, 3) := by decide +kernel
theorem dX10_init_85 : decode cX10_init 85 = .ok (.dup, 1) := by decide +kernel
theorem dX10_init_86 : decode cX10_init 86 = .ok (.invokespecial 48, 3) := by decide +kernel
theorem dX10_init_89 : decode cX10_init 89 = .ok (.putfield 49, 3) := by decide +kernel
theorem dX10_init_92 : decode cX10_init 92 = .ok (.aload_n 0, 1) := by decide +kernel
theorem dX10_init_93 : decode cX10_init 93 = .ok (.new 53, 3) := by decide +kernel
theorem dX10_init_96 : decode cX10_init 96 = .ok (.dup, 1) := by decide +kernel
theorem dX10_init_97 : decode cX10_init 97 = .ok (.invokespecial 55, 3) := by decide +kernel
theorem dX10_init_100 : decode cX10_init 100 = .ok (.putfield 56, 3) := by decide +kernel
theorem dX10_init_103 : decode cX10_init 103 = .ok (.aload_n 0, 1) := by decide +kernel
theorem dX10_init_104 : decode cX10_init 104 = .ok (.new 60, 3) := by decide +kernel
theorem dX10_init_107 : decode cX10_init 107 = .ok (.dup, 1) := by decide +kernel
theorem dX10_init_108 : decode cX10_init 108 = .ok (.invokespecial 62, 3) := by decide +kernel
theorem dX10_init_111 : decode cX10_init 111 = .ok (.putfield 63, 3) := by decide +kernel
theorem dX10_init_114 : decode cX10_init 114 = .ok (.aload_n 0, 1) := by decide +kernel
theorem dX10_init_115 : decode cX10_init 115 = .ok (.new 67, 3) := by decide +kernel
theorem dX10_init_118 : decode cX10_init 118 = .ok (.dup, 1) := by decide +kernel
theorem dX10_init_119 : decode cX10_init 119 = .ok (.invokespecial 69, 3) := by decide +kernel
theorem dX10_init_122 : decode cX10_init 122 = .ok (.putfield 70, 3) := by decide +kernel
theorem dX10_init_125 : decode cX10_init 125 = .ok (.aload_n 0, 1) := by decide +kernel
theorem dX10_init_126 : decode cX10_init 126 = .ok (.new 74, 3) := by decide +kernel
theorem dX10_init_129 : decode cX10_init 129 = .ok (.dup, 1) := by decide +kernel
theorem dX10_init_130 : decode cX10_init 130 = .ok (.invokespecial 76, 3) := by decide +kernel
theorem dX10_init_133 : decode cX10_init 133 = .ok (.putfield 77, 3) := by decide +kernel
theorem dX10_init_136 : decode cX10_init 136 = .ok (.aload_n 0, 1) := by decide +kernel
theorem dX10_init_137 : decode cX10_init 137 = .ok (.new 81, 3) := by decide +kernel
theorem dX10_init_140 : decode cX10_init 140 = .ok (.dup, 1) := by decide +kernel
theorem dX10_init_141 : decode cX10_init 141 = .ok (.invokespecial 83, 3) := by decide +kernel
theorem dX10_init_144 : decode cX10_init 144 = .ok (.putfield 84, 3) := by decide +kernel
theorem dX10_init_147 : decode cX10_init 147 = .ok (.aload_n 0, 1) := by decide +kernel
theorem dX10_init_148 : decode cX10_init 148 = .ok (.bipush 10, 2) := by decide +kernel
theorem dX10_init_150 : decode cX10_init 150 = .ok (.newarray .int, 2) := by decide +kernel
theorem dX10_init_152 : decode cX10_init 152 = .ok (.putfield 88, 3) := by decide +kernel
theorem dX10_init_155 : decode cX10_init 155 = .ok (.return_, 1) := by decide +kernel
theorem dX10_sign_0 : decode cX10_sign 0 = .ok (.aload_n 0, 1) := by decide +kernel
theorem dX10_sign_1 : decode cX10_sign 1 = .ok (.getfield 12, 3) := by decide +kernel
theorem dX10_sign_4 : decode cX10_sign 4 = .ok (.iload_n 1, 1) := by decide +kernel
theorem dX10_sign_5 : decode cX10_sign 5 = .ok (.invokevirtual 92, 3) := by decide +kernel
theorem dX10_sign_8 : decode cX10_sign 8 = .ok (.ifCond .eq 13, 3) := by decide +kernel
theorem dX10_sign_11 : decode cX10_sign 11 = .ok (.aload_n 0, 1) := by decide +kernel
theorem dX10_sign_12 : decode cX10_sign 12 = .ok (.getfield 12, 3) := by decide +kernel
theorem dX10_sign_15 : decode cX10_sign 15 = .ok (.invokevirtual 96, 3) := by decide +kernel
theorem dX10_sign_18 : decode cX10_sign 18 = .ok (.goto 4, 3) := by decide +kernel
theorem dX10_sign_21 : decode cX10_sign 21 = .ok (.iconst (-1), 1) := by decide +kernel
theorem dX10_sign_22 : decode cX10_sign 22 = .ok (.ireturn, 1) := by decide +kernel
theorem dX10_end_0 : decode cX10_end 0 = .ok (.aload_n 0, 1) := by decide +kernel
theorem dX10_end_1 : decode cX10_end 1 = .ok (.getfield 12, 3) := by decide +kernel
theorem dX10_end_4 : decode cX10_end 4 = .ok (.iload_n 1, 1) := by decide +kernel
theorem dX10_end_5 : decode cX10_end 5 = .ok (.invokevirtual 100, 3) := by decide +kernel
theorem dX10_end_8 : decode cX10_end 8 = .ok (.ireturn, 1) := by decide +kernel
theorem dX10_town_0 : decode cX10_town 0 = .ok (.aload_n 0, 1) := by decide +kernel
theorem dX10_town_1 : decode cX10_town 1 = .ok (.getfield 42, 3) := by decide +kernel
theorem dX10_town_4 : decode cX10_town 4 = .ok (.aload_n 0, 1) := by decide +kernel
theorem dX10_town_5 : decode cX10_town 5 = .ok (.getfield 12, 3) := by decide +kernel
theorem dX10_town_8 : decode cX10_town 8 = .ok (.aload_n 0, 1) := by decide +kernel
theorem dX10_town_9 : decode cX10_town 9 = .ok (.getfield 26, 3) := by decide +kernel
theorem dX10_town_12 : decode cX10_town 12 = .ok (.invokevirtual 103, 3) := by decide +kernel
theorem dX10_town_15 : decode cX10_town 15 = .ok (.istore_n 1, 1) := by decide +kernel
theorem dX10_town_16 : decode cX10_town 16 = .ok (.aload_n 0, 1) := by decide +kernel
theorem dX10_town_17 : decode cX10_town 17 = .ok (.getfield 12, 3) := by decide +kernel
theorem dX10_town_20 : decode cX10_town 20 = .ok (.invokevirtual 107, 3) := by decide +kernel
theorem dX10_town_23 : decode cX10_town 23 = .ok (.iload_n 1, 1) := by decide +kernel
theorem dX10_town_24 : decode cX10_town 24 = .ok (.ifCond .le 7, 3) := by decide +kernel
theorem dX10_town_27 : decode cX10_town 27 = .ok (.aload_n 0, 1) := by decide +kernel
theorem dX10_town_28 : decode cX10_town 28 = .ok (.invokevirtual 110, 3) := by decide +kernel
theorem dX10_town_31 : decode cX10_town 31 = .ok (.iload_n 1, 1) := by decide +kernel
theorem dX10_town_32 : decode cX10_town 32 = .ok (.ireturn, 1) := by decide +kernel
theorem dX10_rule_0 : decode cX10_rule 0 = .ok (.aload_n 0, 1) := by decide +kernel
theorem dX10_rule_1 : decode cX10_rule 1 = .ok (.getfield 56, 3) := by decide +kernel
theorem dX10_rule_4 : decode cX10_rule 4 = .ok (.aload_n 0, 1) := by decide +kernel
theorem dX10_rule_5 : decode cX10_rule 5 = .ok (.getfield 12, 3) := by decide +kernel
theorem dX10_rule_8 : decode cX10_rule 8 = .ok (.invokevirtual 113, 3) := by decide +kernel
theorem dX10_rule_11 : decode cX10_rule 11 = .ok (.istore_n 1, 1) := by decide +kernel
theorem dX10_rule_12 : decode cX10_rule 12 = .ok (.aload_n 0, 1) := by decide +kernel
theorem dX10_rule_13 : decode cX10_rule 13 = .ok (.getfield 12, 3) := by decide +kernel
theorem dX10_rule_16 : decode cX10_rule 16 = .ok (.invokevirtual 107, 3) := by decide +kernel
theorem dX10_rule_19 : decode cX10_rule 19 = .ok (.iload_n 1, 1) := by decide +kernel
theorem dX10_rule_20 : decode cX10_rule 20 = .ok (.ifCond .ne 14, 3) := by decide +kernel
theorem dX10_rule_23 : decode cX10_rule 23 = .ok (.aload_n 0, 1) := by decide +kernel
theorem dX10_rule_24 : decode cX10_rule 24 = .ok (.getfield 49, 3) := by decide +kernel
theorem dX10_rule_27 : decode cX10_rule 27 = .ok (.aload_n 0, 1) := by decide +kernel
theorem dX10_rule_28 : decode cX10_rule 28 = .ok (.getfield 56, 3) := by decide +kernel
theorem dX10_rule_31 : decode cX10_rule 31 = .ok (.invokevirtual 116, 3) := by decide +kernel
theorem dX10_rule_34 : decode cX10_rule 34 = .ok (.iload_n 1, 1) := by decide +kernel
theorem dX10_rule_35 : decode cX10_rule 35 = .ok (.ireturn, 1) := by decide +kernel
theorem dX10_of_0 : decode cX10_of 0 = .ok (.aload_n 0, 1) := by decide +kernel
theorem dX10_of_1 : decode cX10_of 1 = .ok (.getfield 26, 3) := by decide +kernel
theorem dX10_of_4 : decode cX10_of 4 = .ok (.iload_n 1, 1) := by decide +kernel
theorem dX10_of_5 : decode cX10_of 5 = .ok (.invokevirtual 120, 3) := by decide +kernel
theorem dX10_of_8 : decode cX10_of 8 = .ok (.ifCond .ne 11, 3) := by decide +kernel
theorem dX10_of_11 : decode cX10_of 11 = .ok (.new 123, 3) := by decide +kernel
theorem dX10_of_14 : decode cX10_of 14 = .ok (.dup, 1) := by decide +kernel
theorem dX10_of_15 : decode cX10_of 15 = .ok (.invokespecial 125, 3) := by decide +kernel
theorem dX10_of_18 : decode cX10_of 18 = .ok (.athrow, 1) := by decide +kernel
theorem dX10_of_19 : decode cX10_of 19 = .ok (.iload_n 2, 1) := by decide +kernel
theorem dX10_of_20 : decode cX10_of 20 = .ok (.tableswitch 145 0 8 #[52, 62, 72, 82, 92, 109, 118, 127, 136], 52) := by decide +kernel
theorem dX10_of_72 : decode cX10_of 72 = .ok (.aload_n 0, 1) := by decide +kernel
theorem dX10_of_73 : decode cX10_of 73 = .ok (.getfield 26, 3) := by decide +kernel
theorem dX10_of_76 : decode cX10_of 76 = .ok (.getfield 126, 3) := by decide +kernel
theorem dX10_of_79 : decode cX10_of 79 = .ok (.iload_n 1, 1) := by decide +kernel
theorem dX10_of_80 : decode cX10_of 80 = .ok (.iaload, 1) := by decide +kernel
theorem dX10_of_81 : decode cX10_of 81 = .ok (.ireturn, 1) := by decide +kernel
theorem dX10_of_82 : decode cX10_of 82 = .ok (.aload_n 0, 1) := by decide +kernel
theorem dX10_of_83 : decode cX10_of 83 = .ok (.getfield 26, 3) := by decide +kernel
theorem dX10_of_86 : decode cX10_of 86 = .ok (.getfield 129, 3) := by decide +kernel
theorem dX10_of_89 : decode cX10_of 89 = .ok (.iload_n 1, 1) := by decide +kernel
theorem dX10_of_90 : decode cX10_of 90 = .ok (.iaload, 1) := by decide +kernel
theorem dX10_of_91 : decode cX10_of 91 = .ok (.ireturn, 1) := by decide +kernel
theorem dX10_of_92 : decode cX10_of 92 = .ok (.aload_n 0, 1) := by decide +kernel
theorem dX10_of_93 : decode cX10_of 93 = .ok (.getfield 26, 3) := by decide +kernel
theorem dX10_of_96 : decode cX10_of 96 = .ok (.getfield 132, 3) := by decide +kernel
theorem dX10_of_99 : decode cX10_of 99 = .ok (.iload_n 1, 1) := by decide +kernel
theorem dX10_of_100 : decode cX10_of 100 = .ok (.iaload, 1) := by decide +kernel
theorem dX10_of_101 : decode cX10_of 101 = .ok (.ireturn, 1) := by decide +kernel
theorem dX10_of_102 : decode cX10_of 102 = .ok (.aload_n 0, 1) := by decide +kernel
theorem dX10_of_103 : decode cX10_of 103 = .ok (.getfield 26, 3) := by decide +kernel
theorem dX10_of_106 : decode cX10_of 106 = .ok (.getfield 135, 3) := by decide +kernel
theorem dX10_of_109 : decode cX10_of 109 = .ok (.iload_n 1, 1) := by decide +kernel
theorem dX10_of_110 : decode cX10_of 110 = .ok (.iaload, 1) := by decide +kernel
theorem dX10_of_111 : decode cX10_of 111 = .ok (.ireturn, 1) := by decide +kernel
theorem dX10_of_112 : decode cX10_of 112 = .ok (.aload_n 0, 1) := by decide +kernel
theorem dX10_of_113 : decode cX10_of 113 = .ok (.getfield 26, 3) := by decide +kernel
theorem dX10_of_116 : decode cX10_of 116 = .ok (.invokevirtual 138, 3) := by decide +kernel
theorem dX10_of_119 : decode cX10_of 119 = .ok (.aload_n 0, 1) := by decide +kernel
theorem dX10_of_120 : decode cX10_of 120 = .ok (.getfield 26, 3) := by decide +kernel
theorem dX10_of_123 : decode cX10_of 123 = .ok (.getfield 141, 3) := by decide +kernel
theorem dX10_of_126 : decode cX10_of 126 = .ok (.iload_n 1, 1) := by decide +kernel
theorem dX10_of_127 : decode cX10_of 127 = .ok (.iaload, 1) := by decide +kernel
theorem dX10_of_128 : decode cX10_of 128 = .ok (.ireturn, 1) := by decide +kernel
theorem dX10_of_129 : decode cX10_of 129 = .ok (.aload_n 0, 1) := by decide +kernel
theorem dX10_of_130 : decode cX10_of 130 = .ok (.getfield 26, 3) := by decide +kernel
theorem dX10_of_133 : decode cX10_of 133 = .ok (.iload_n 1, 1) := by decide +kernel
theorem dX10_of_134 : decode cX10_of 134 = .ok (.invokevirtual 144, 3) := by decide +kernel
theorem dX10_of_137 : decode cX10_of 137 = .ok (.ireturn, 1) := by decide +kernel
theorem dX10_of_138 : decode cX10_of 138 = .ok (.aload_n 0, 1) := by decide +kernel
theorem dX10_of_139 : decode cX10_of 139 = .ok (.getfield 26, 3) := by decide +kernel
theorem dX10_of_142 : decode cX10_of 142 = .ok (.iload_n 1, 1) := by decide +kernel
theorem dX10_of_143 : decode cX10_of 143 = .ok (.invokevirtual 148, 3) := by decide +kernel
theorem dX10_of_146 : decode cX10_of 146 = .ok (.ireturn, 1) := by decide +kernel
theorem dX10_of_147 : decode cX10_of 147 = .ok (.aload_n 0, 1) := by decide +kernel
theorem dX10_of_148 : decode cX10_of 148 = .ok (.getfield 26, 3) := by decide +kernel
theorem dX10_of_151 : decode cX10_of 151 = .ok (.iload_n 1, 1) := by decide +kernel
theorem dX10_of_152 : decode cX10_of 152 = .ok (.invokevirtual 151, 3) := by decide +kernel
theorem dX10_of_155 : decode cX10_of 155 = .ok (.ireturn, 1) := by decide +kernel
theorem dX10_of_156 : decode cX10_of 156 = .ok (.aload_n 0, 1) := by decide +kernel
theorem dX10_of_157 : decode cX10_of 157 = .ok (.getfield 26, 3) := by decide +kernel
theorem dX10_of_160 : decode cX10_of 160 = .ok (.iload_n 1, 1) := by decide +kernel
theorem dX10_of_161 : decode cX10_of 161 = .ok (.invokevirtual 154, 3) := by decide +kernel
theorem dX10_of_164 : decode cX10_of 164 = .ok (.ireturn, 1) := by decide +kernel
theorem dX10_of_165 : decode cX10_of 165 = .ok (.new 123, 3) := by decide +kernel
theorem dX10_of_168 : decode cX10_of 168 = .ok (.dup, 1) := by decide +kernel
theorem dX10_of_169 : decode cX10_of 169 = .ok (.invokespecial 125, 3) := by decide +kernel
theorem dX10_of_172 : decode cX10_of 172 = .ok (.athrow, 1) := by decide +kernel
theorem dX10_debt_0 : decode cX10_debt 0 = .ok (.aload_n 0, 1) := by decide +kernel
theorem dX10_debt_1 : decode cX10_debt 1 = .ok (.getfield 26, 3) := by decide +kernel
theorem dX10_debt_4 : decode cX10_debt 4 = .ok (.iload_n 1, 1) := by decide +kernel
theorem dX10_debt_5 : decode cX10_debt 5 = .ok (.invokevirtual 157, 3) := by decide +kernel
theorem dX10_debt_8 : decode cX10_debt 8 = .ok (.ifCond .ne 11, 3) := by decide +kernel
theorem dX10_debt_11 : decode cX10_debt 11 = .ok (.new 123, 3) := by decide +kernel
theorem dX10_debt_14 : decode cX10_debt 14 = .ok (.dup, 1) := by decide +kernel
theorem dX10_debt_15 : decode cX10_debt 15 = .ok (.invokespecial 125, 3) := by decide +kernel
theorem dX10_debt_18 : decode cX10_debt 18 = .ok (.athrow, 1) := by decide +kernel
theorem dX10_debt_19 : decode cX10_debt 19 = .ok (.iload_n 2, 1) := by decide +kernel
theorem dX10_debt_20 : decode cX10_debt 20 = .ok (.tableswitch 100 0 5 #[40, 50, 60, 70, 80, 90], 40) := by decide +kernel
theorem dX10_debt_60 : decode cX10_debt 60 = .ok (.aload_n 0, 1) := by decide +kernel
theorem dX10_debt_61 : decode cX10_debt 61 = .ok (.getfield 26, 3) := by decide +kernel
theorem dX10_debt_64 : decode cX10_debt 64 = .ok (.getfield 160, 3) := by decide +kernel
theorem dX10_debt_67 : decode cX10_debt 67 = .ok (.iload_n 1, 1) := by decide +kernel
theorem dX10_debt_68 : decode cX10_debt 68 = .ok (.iaload, 1) := by decide +kernel
theorem dX10_debt_69 : decode cX10_debt 69 = .ok (.ireturn, 1) := by decide +kernel
theorem dX10_debt_70 : decode cX10_debt 70 = .ok (.aload_n 0, 1) := by decide +kernel
theorem dX10_debt_71 : decode cX10_debt 71 = .ok (.getfield 26, 3) := by decide +kernel
theorem dX10_debt_74 : decode cX10_debt 74 = .ok (.getfield 163, 3) := by decide +kernel
theorem dX10_debt_77 : decode cX10_debt 77 = .ok (.iload_n 1, 1) := by decide +kernel
theorem dX10_debt_78 : decode cX10_debt 78 = .ok (.iaload, 1) := by decide +kernel
theorem dX10_debt_79 : decode cX10_debt 79 = .ok (.ireturn, 1) := by decide +kernel
theorem dX10_debt_80 : decode cX10_debt 80 = .ok (.aload_n 0, 1) := by decide +kernel
theorem dX10_debt_81 : decode cX10_debt 81 = .ok (.getfield 26, 3) := by decide +kernel
theorem dX10_debt_84 : decode cX10_debt 84 = .ok (.getfield 166, 3) := by decide +kernel
theorem dX10_debt_87 : decode cX10_debt 87 = .ok (.iload_n 1, 1) := by decide +kernel
theorem dX10_debt_88 : decode cX10_debt 88 = .ok (.iaload, 1) := by decide +kernel
theorem dX10_debt_89 : decode cX10_debt 89 = .ok (.ireturn, 1) := by decide +kernel
theorem dX10_debt_90 : decode cX10_debt 90 = .ok (.aload_n 0, 1) := by decide +kernel
theorem dX10_debt_91 : decode cX10_debt 91 = .ok (.getfield 26, 3) := by decide +kernel
theorem dX10_debt_94 : decode cX10_debt 94 = .ok (.getfield 169, 3) := by decide +kernel
theorem dX10_debt_97 : decode cX10_debt 97 = .ok (.iload_n 1, 1) := by decide +kernel
theorem dX10_debt_98 : decode cX10_debt 98 = .ok (.iaload, 1) := by decide +kernel
theorem dX10_debt_99 : decode cX10_debt 99 = .ok (.ireturn, 1) := by decide +kernel
theorem dX10_debt_100 : decode cX10_debt 100 = .ok (.aload_n 0, 1) := by decide +kernel
theorem dX10_debt_101 : decode cX10_debt 101 = .ok (.getfield 26, 3) := by decide +kernel
theorem dX10_debt_104 : decode cX10_debt 104 = .ok (.getfield 172, 3) := by decide +kernel
theorem dX10_debt_107 : decode cX10_debt 107 = .ok (.iload_n 1, 1) := by decide +kernel
theorem dX10_debt_108 : decode cX10_debt 108 = .ok (.iaload, 1) := by decide +kernel
theorem dX10_debt_109 : decode cX10_debt 109 = .ok (.ireturn, 1) := by decide +kernel
theorem dX10_debt_110 : decode cX10_debt 110 = .ok (.aload_n 0, 1) := by decide +kernel
theorem dX10_debt_111 : decode cX10_debt 111 = .ok (.getfield 26, 3) := by decide +kernel
theorem dX10_debt_114 : decode cX10_debt 114 = .ok (.getfield 175, 3) := by decide +kernel
theorem dX10_debt_117 : decode cX10_debt 117 = .ok (.iload_n 1, 1) := by decide +kernel
theorem dX10_debt_118 : decode cX10_debt 118 = .ok (.iaload, 1) := by decide +kernel
theorem dX10_debt_119 : decode cX10_debt 119 = .ok (.ireturn, 1) := by decide +kernel
theorem dX10_debt_120 : decode cX10_debt 120 = .ok (.new 123, 3) := by decide +kernel
theorem dX10_debt_123 : decode cX10_debt 123 = .ok (.dup, 1) := by decide +kernel
theorem dX10_debt_124 : decode cX10_debt 124 = .ok (.invokespecial 125, 3) := by decide +kernel
theorem dX10_debt_127 : decode cX10_debt 127 = .ok (.athrow, 1) := by decide +kernel
theorem dX10_law_0 : decode cX10_law 0 = .ok (.iload_n 1, 1) := by decide +kernel
theorem dX10_law_1 : decode cX10_law 1 = .ok (.ifCond .lt 20, 3) := by decide +kernel
theorem dX10_law_4 : decode cX10_law 4 = .ok (.iload_n 1, 1) := by decide +kernel
theorem dX10_law_5 : decode cX10_law 5 = .ok (.iconst 3, 1) := by decide +kernel
theorem dX10_law_6 : decode cX10_law 6 = .ok (.if_icmp .gt 15, 3) := by decide +kernel
theorem dX10_law_9 : decode cX10_law 9 = .ok (.iload_n 2, 1) := by decide +kernel
theorem dX10_law_10 : decode cX10_law 10 = .ok (.ifCond .lt 11, 3) := by decide +kernel
theorem dX10_law_13 : decode cX10_law 13 = .ok (.iload_n 2, 1) := by decide +kernel
theorem dX10_law_14 : decode cX10_law 14 = .ok (.iload_n 1, 1) := by decide +kernel
theorem dX10_law_15 : decode cX10_law 15 = .ok (.invokestatic 178, 3) := by decide +kernel
theorem dX10_law_18 : decode cX10_law 18 = .ok (.if_icmp .le 5, 3) := by decide +kernel
theorem dX10_law_21 : decode cX10_law 21 = .ok (.iconst (-1), 1) := by decide +kernel
theorem dX10_law_22 : decode cX10_law 22 = .ok (.ireturn, 1) := by decide +kernel
theorem dX10_law_23 : decode cX10_law 23 = .ok (.aload_n 0, 1) := by decide +kernel
theorem dX10_law_24 : decode cX10_law 24 = .ok (.getfield 26, 3) := by decide +kernel
theorem dX10_law_27 : decode cX10_law 27 = .ok (.getfield 181, 3) := by decide +kernel
theorem dX10_law_30 : decode cX10_law 30 = .ok (.iload_n 1, 1) := by decide +kernel
theorem dX10_law_31 : decode cX10_law 31 = .ok (.iaload, 1) := by decide +kernel
theorem dX10_law_32 : decode cX10_law 32 = .ok (.istore_n 3, 1) := by decide +kernel
theorem dX10_law_33 : decode cX10_law 33 = .ok (.aload_n 0, 1) := by decide +kernel
theorem dX10_law_34 : decode cX10_law 34 = .ok (.getfield 26, 3) := by decide +kernel
theorem dX10_law_37 : decode cX10_law 37 = .ok (.getfield 181, 3) := by decide +kernel
theorem dX10_law_40 : decode cX10_law 40 = .ok (.iload_n 1, 1) := by decide +kernel
theorem dX10_law_41 : decode cX10_law 41 = .ok (.iload_n 2, 1) := by decide +kernel
theorem dX10_law_42 : decode cX10_law 42 = .ok (.iastore, 1) := by decide +kernel
theorem dX10_law_43 : decode cX10_law 43 = .ok (.iload_n 3, 1) := by decide +kernel
theorem dX10_law_44 : decode cX10_law 44 = .ok (.ireturn, 1) := by decide +kernel
theorem dX10_greatestLaw_0 : decode cX10_greatestLaw 0 = .ok (.iload_n 0, 1) := by decide +kernel
theorem dX10_greatestLaw_1 : decode cX10_greatestLaw 1 = .ok (.ifCond .ne 5, 3) := by decide +kernel
theorem dX10_greatestLaw_4 : decode cX10_greatestLaw 4 = .ok (.iconst 3, 1) := by decide +kernel
theorem dX10_greatestLaw_5 : decode cX10_greatestLaw 5 = .ok (.ireturn, 1) := by decide +kernel
theorem dX10_greatestLaw_6 : decode cX10_greatestLaw 6 = .ok (.iload_n 0, 1) := by decide +kernel
theorem dX10_greatestLaw_7 : decode cX10_greatestLaw 7 = .ok (.iconst 2, 1) := by decide +kernel
theorem dX10_greatestLaw_8 : decode cX10_greatestLaw 8 = .ok (.if_icmp .ne 7, 3) := by decide +kernel
theorem dX10_greatestLaw_11 : decode cX10_greatestLaw 11 = .ok (.iconst 1, 1) := by decide +kernel
theorem dX10_greatestLaw_12 : decode cX10_greatestLaw 12 = .ok (.goto 5, 3) := by decide +kernel
theorem dX10_greatestLaw_15 : decode cX10_greatestLaw 15 = .ok (.bipush 99, 2) := by decide +kernel
theorem dX10_greatestLaw_17 : decode cX10_greatestLaw 17 = .ok (.ireturn, 1) := by decide +kernel
theorem dX10_sheet_0 : decode cX10_sheet 0 = .ok (.iload_n 1, 1) := by decide +kernel
theorem dX10_sheet_1 : decode cX10_sheet 1 = .ok (.ifCond .lt 14, 3) := by decide +kernel
theorem dX10_sheet_4 : decode cX10_sheet 4 = .ok (.iload_n 1, 1) := by decide +kernel
theorem dX10_sheet_5 : decode cX10_sheet 5 = .ok (.iconst 3, 1) := by decide +kernel
theorem dX10_sheet_6 : decode cX10_sheet 6 = .ok (.if_icmp .gt 9, 3) := by decide +kernel
theorem dX10_sheet_9 : decode cX10_sheet 9 = .ok (.iload_n 2, 1) := by decide +kernel
theorem dX10_sheet_10 : decode cX10_sheet 10 = .ok (.bipush 8, 2) := by decide +kernel
theorem dX10_sheet_12 : decode cX10_sheet 12 = .ok (.if_icmp .le 5, 3) := by decide +kernel
theorem dX10_sheet_15 : decode cX10_sheet 15 = .ok (.iconst (-1), 1) := by decide +kernel
theorem dX10_sheet_16 : decode cX10_sheet 16 = .ok (.ireturn, 1) := by decide +kernel
theorem dX10_sheet_17 : decode cX10_sheet 17 = .ok (.iload_n 1, 1) := by decide +kernel
theorem dX10_sheet_18 : decode cX10_sheet 18 = .ok (.iconst 3, 1) := by decide +kernel
theorem dX10_sheet_19 : decode cX10_sheet 19 = .ok (.if_icmp .ne 7, 3) := by decide +kernel
theorem dX10_sheet_22 : decode cX10_sheet 22 = .ok (.iconst 1, 1) := by decide +kernel
theorem dX10_sheet_23 : decode cX10_sheet 23 = .ok (.goto 4, 3) := by decide +kernel
theorem dX10_sheet_26 : decode cX10_sheet 26 = .ok (.iconst 0, 1) := by decide +kernel
theorem dX10_sheet_27 : decode cX10_sheet 27 = .ok (.istore 5, 2) := by decide +kernel
theorem dX10_sheet_29 : decode cX10_sheet 29 = .ok (.iload_n 2, 1) := by decide +kernel
theorem dX10_sheet_30 : decode cX10_sheet 30 = .ok (.ifCond .ge 11, 3) := by decide +kernel
theorem dX10_sheet_33 : decode cX10_sheet 33 = .ok (.iload 5, 2) := by decide +kernel
theorem dX10_sheet_35 : decode cX10_sheet 35 = .ok (.ifCond .ne 6, 3) := by decide +kernel
theorem dX10_sheet_38 : decode cX10_sheet 38 = .ok (.bipush (-2), 2) := by decide +kernel
theorem dX10_sheet_40 : decode cX10_sheet 40 = .ok (.ireturn, 1) := by decide +kernel
theorem dX10_sheet_41 : decode cX10_sheet 41 = .ok (.iload 5, 2) := by decide +kernel
theorem dX10_sheet_43 : decode cX10_sheet 43 = .ok (.ifCond .eq 7, 3) := by decide +kernel
theorem dX10_sheet_46 : decode cX10_sheet 46 = .ok (.iconst 0, 1) := by decide +kernel
theorem dX10_sheet_47 : decode cX10_sheet 47 = .ok (.goto 4, 3) := by decide +kernel
theorem dX10_sheet_50 : decode cX10_sheet 50 = .ok (.iload_n 2, 1) := by decide +kernel
theorem dX10_sheet_51 : decode cX10_sheet 51 = .ok (.istore 6, 2) := by decide +kernel
theorem dX10_sheet_53 : decode cX10_sheet 53 = .ok (.iconst 0, 1) := by decide +kernel
theorem dX10_sheet_54 : decode cX10_sheet 54 = .ok (.istore 7, 2) := by decide +kernel
theorem dX10_sheet_56 : decode cX10_sheet 56 = .ok (.iconst 0, 1) := by decide +kernel
theorem dX10_sheet_57 : decode cX10_sheet 57 = .ok (.istore 8, 2) := by decide +kernel
theorem dX10_sheet_59 : decode cX10_sheet 59 = .ok (.iload 8, 2) := by decide +kernel
theorem dX10_sheet_61 : decode cX10_sheet 61 = .ok (.aload_n 0, 1) := by decide +kernel
theorem dX10_sheet_62 : decode cX10_sheet 62 = .ok (.getfield 26, 3) := by decide +kernel
theorem dX10_sheet_65 : decode cX10_sheet 65 = .ok (.getfield 184, 3) := by decide +kernel
theorem dX10_sheet_68 : decode cX10_sheet 68 = .ok (.if_icmp .ge 67, 3) := by decide +kernel
theorem dX10_sheet_71 : decode cX10_sheet 71 = .ok (.aload_n 0, 1) := by decide +kernel
theorem dX10_sheet_72 : decode cX10_sheet 72 = .ok (.getfield 26, 3) := by decide +kernel
theorem dX10_sheet_75 : decode cX10_sheet 75 = .ok (.getfield 126, 3) := by decide +kernel
theorem dX10_sheet_78 : decode cX10_sheet 78 = .ok (.iload 8, 2) := by decide +kernel
theorem dX10_sheet_80 : decode cX10_sheet 80 = .ok (.iload 8, 2) := by decide +kernel
theorem dX10_sheet_82 : decode cX10_sheet 82 = .ok (.iload 6, 2) := by decide +kernel
theorem dX10_sheet_84 : decode cX10_sheet 84 = .ok (.if_icmp .ge 17, 3) := by decide +kernel
theorem dX10_sheet_87 : decode cX10_sheet 87 = .ok (.iload_n 1, 1) := by decide +kernel
theorem dX10_sheet_88 : decode cX10_sheet 88 = .ok (.iload_n 3, 1) := by decide +kernel
theorem dX10_sheet_89 : decode cX10_sheet 89 = .ok (.iload 8, 2) := by decide +kernel
theorem dX10_sheet_91 : decode cX10_sheet 91 = .ok (.iload 4, 2) := by decide +kernel
theorem dX10_sheet_93 : decode cX10_sheet 93 = .ok (.imul, 1) := by decide +kernel
theorem dX10_sheet_94 : decode cX10_sheet 94 = .ok (.iadd, 1) := by decide +kernel
theorem dX10_sheet_95 : decode cX10_sheet 95 = .ok (.invokestatic 188, 3) := by decide +kernel
theorem dX10_sheet_98 : decode cX10_sheet 98 = .ok (.goto 4, 3) := by decide +kernel
theorem dX10_sheet_101 : decode cX10_sheet 101 = .ok (.iconst 0, 1) := by decide +kernel
theorem dX10_sheet_102 : decode cX10_sheet 102 = .ok (.iastore, 1) := by decide +kernel
theorem dX10_sheet_103 : decode cX10_sheet 103 = .ok (.aload_n 0, 1) := by decide +kernel
theorem dX10_sheet_104 : decode cX10_sheet 104 = .ok (.getfield 26, 3) := by decide +kernel
theorem dX10_sheet_107 : decode cX10_sheet 107 = .ok (.getfield 135, 3) := by decide +kernel
theorem dX10_sheet_110 : decode cX10_sheet 110 = .ok (.iload 8, 2) := by decide +kernel
theorem dX10_sheet_112 : decode cX10_sheet 112 = .ok (.iconst 0, 1) := by decide +kernel
theorem dX10_sheet_113 : decode cX10_sheet 113 = .ok (.iastore, 1) := by decide +kernel
theorem dX10_sheet_114 : decode cX10_sheet 114 = .ok (.iload 7, 2) := by decide +kernel
theorem dX10_sheet_116 : decode cX10_sheet 116 = .ok (.aload_n 0, 1) := by decide +kernel
theorem dX10_sheet_117 : decode cX10_sheet 117 = .ok (.getfield 26, 3) := by decide +kernel
theorem dX10_sheet_120 : decode cX10_sheet 120 = .ok (.getfield 126, 3) := by decide +kernel
theorem dX10_sheet_123 : decode cX10_sheet 123 = .ok (.iload 8, 2) := by decide +kernel
theorem dX10_sheet_125 : decode cX10_sheet 125 = .ok (.iaload, 1) := by decide +kernel
theorem dX10_sheet_126 : decode cX10_sheet 126 = .ok (.iadd, 1) := by decide +kernel
theorem dX10_sheet_127 : decode cX10_sheet 127 = .ok (.istore 7, 2) := by decide +kernel
theorem dX10_sheet_129 : decode cX10_sheet 129 = .ok (.iinc 8 1, 3) := by decide +kernel
theorem dX10_sheet_132 : decode cX10_sheet 132 = .ok (.goto (-73), 3) := by decide +kernel
theorem dX10_sheet_135 : decode cX10_sheet 135 = .ok (.aload_n 0, 1) := by decide +kernel
theorem dX10_sheet_136 : decode cX10_sheet 136 = .ok (.invokevirtual 110, 3) := by decide +kernel
theorem dX10_sheet_139 : decode cX10_sheet 139 = .ok (.iload 5, 2) := by decide +kernel
theorem dX10_sheet_141 : decode cX10_sheet 141 = .ok (.ifCond .eq 8, 3) := by decide +kernel
theorem dX10_sheet_144 : decode cX10_sheet 144 = .ok (.bipush (-3), 2) := by decide +kernel
theorem dX10_sheet_146 : decode cX10_sheet 146 = .ok (.goto 5, 3) := by decide +kernel
theorem dX10_sheet_149 : decode cX10_sheet 149 = .ok (.iload 7, 2) := by decide +kernel
theorem dX10_sheet_151 : decode cX10_sheet 151 = .ok (.ireturn, 1) := by decide +kernel
theorem dX10_entry_0 : decode cX10_entry 0 = .ok (.iload_n 1, 1) := by decide +kernel
theorem dX10_entry_1 : decode cX10_entry 1 = .ok (.istore_n 2, 1) := by decide +kernel
theorem dX10_entry_2 : decode cX10_entry 2 = .ok (.iload_n 0, 1) := by decide +kernel
theorem dX10_entry_3 : decode cX10_entry 3 = .ok (.ifCond .ne 9, 3) := by decide +kernel
theorem dX10_entry_6 : decode cX10_entry 6 = .ok (.iload_n 1, 1) := by decide +kernel
theorem dX10_entry_7 : decode cX10_entry 7 = .ok (.i2b, 1) := by decide +kernel
theorem dX10_entry_8 : decode cX10_entry 8 = .ok (.istore_n 2, 1) := by decide +kernel
theorem dX10_entry_9 : decode cX10_entry 9 = .ok (.goto 11, 3) := by decide +kernel
theorem dX10_entry_12 : decode cX10_entry 12 = .ok (.iload_n 0, 1) := by decide +kernel
theorem dX10_entry_13 : decode cX10_entry 13 = .ok (.iconst 1, 1) := by decide +kernel
theorem dX10_entry_14 : decode cX10_entry 14 = .ok (.if_icmp .ne 6, 3) := by decide +kernel
theorem dX10_entry_17 : decode cX10_entry 17 = .ok (.iload_n 1, 1) := by decide +kernel
theorem dX10_entry_18 : decode cX10_entry 18 = .ok (.i2s, 1) := by decide +kernel
theorem dX10_entry_19 : decode cX10_entry 19 = .ok (.istore_n 2, 1) := by decide +kernel
theorem dX10_entry_20 : decode cX10_entry 20 = .ok (.iconst 0, 1) := by decide +kernel
theorem dX10_entry_21 : decode cX10_entry 21 = .ok (.sipush 999, 3) := by decide +kernel
theorem dX10_entry_24 : decode cX10_entry 24 = .ok (.iload_n 2, 1) := by decide +kernel
theorem dX10_entry_25 : decode cX10_entry 25 = .ok (.invokestatic 192, 3) := by decide +kernel
theorem dX10_entry_28 : decode cX10_entry 28 = .ok (.invokestatic 197, 3) := by decide +kernel
theorem dX10_entry_31 : decode cX10_entry 31 = .ok (.ireturn, 1) := by decide +kernel
theorem dX10_noon_0 : decode cX10_noon 0 = .ok (.aload_n 0, 1) := by decide +kernel
theorem dX10_noon_1 : decode cX10_noon 1 = .ok (.invokevirtual 110, 3) := by decide +kernel
theorem dX10_noon_4 : decode cX10_noon 4 = .ok (.aload_n 0, 1) := by decide +kernel
theorem dX10_noon_5 : decode cX10_noon 5 = .ok (.getfield 26, 3) := by decide +kernel
theorem dX10_noon_8 : decode cX10_noon 8 = .ok (.invokevirtual 200, 3) := by decide +kernel
theorem dX10_noon_11 : decode cX10_noon 11 = .ok (.ireturn, 1) := by decide +kernel
theorem dX10_hide_0 : decode cX10_hide 0 = .ok (.aload_n 0, 1) := by decide +kernel
theorem dX10_hide_1 : decode cX10_hide 1 = .ok (.getfield 26, 3) := by decide +kernel
theorem dX10_hide_4 : decode cX10_hide 4 = .ok (.iload_n 1, 1) := by decide +kernel
theorem dX10_hide_5 : decode cX10_hide 5 = .ok (.invokevirtual 120, 3) := by decide +kernel
theorem dX10_hide_8 : decode cX10_hide 8 = .ok (.ifCond .eq 20, 3) := by decide +kernel
theorem dX10_hide_11 : decode cX10_hide 11 = .ok (.iload_n 2, 1) := by decide +kernel
theorem dX10_hide_12 : decode cX10_hide 12 = .ok (.ifCond .lt 16, 3) := by decide +kernel
theorem dX10_hide_15 : decode cX10_hide 15 = .ok (.iload_n 2, 1) := by decide +kernel
theorem dX10_hide_16 : decode cX10_hide 16 = .ok (.aload_n 0, 1) := by decide +kernel
theorem dX10_hide_17 : decode cX10_hide 17 = .ok (.getfield 26, 3) := by decide +kernel
theorem dX10_hide_20 : decode cX10_hide 20 = .ok (.getfield 126, 3) := by decide +kernel
theorem dX10_hide_23 : decode cX10_hide 23 = .ok (.iload_n 1, 1) := by decide +kernel
theorem dX10_hide_24 : decode cX10_hide 24 = .ok (.iaload, 1) := by decide +kernel
theorem dX10_hide_25 : decode cX10_hide 25 = .ok (.if_icmp .le 5, 3) := by decide +kernel
theorem dX10_hide_28 : decode cX10_hide 28 = .ok (.iconst (-1), 1) := by decide +kernel
theorem dX10_hide_29 : decode cX10_hide 29 = .ok (.ireturn, 1) := by decide +kernel
theorem dX10_hide_30 : decode cX10_hide 30 = .ok (.aload_n 0, 1) := by decide +kernel
theorem dX10_hide_31 : decode cX10_hide 31 = .ok (.getfield 26, 3) := by decide +kernel
theorem dX10_hide_34 : decode cX10_hide 34 = .ok (.getfield 135, 3) := by decide +kernel
theorem dX10_hide_37 : decode cX10_hide 37 = .ok (.iload_n 1, 1) := by decide +kernel
theorem dX10_hide_38 : decode cX10_hide 38 = .ok (.iaload, 1) := by decide +kernel
theorem dX10_hide_39 : decode cX10_hide 39 = .ok (.istore_n 3, 1) := by decide +kernel
theorem dX10_hide_40 : decode cX10_hide 40 = .ok (.aload_n 0, 1) := by decide +kernel
theorem dX10_hide_41 : decode cX10_hide 41 = .ok (.getfield 26, 3) := by decide +kernel
theorem dX10_hide_44 : decode cX10_hide 44 = .ok (.getfield 135, 3) := by decide +kernel
theorem dX10_hide_47 : decode cX10_hide 47 = .ok (.iload_n 1, 1) := by decide +kernel
theorem dX10_hide_48 : decode cX10_hide 48 = .ok (.iload_n 2, 1) := by decide +kernel
theorem dX10_hide_49 : decode cX10_hide 49 = .ok (.iastore, 1) := by decide +kernel
theorem dX10_hide_50 : decode cX10_hide 50 = .ok (.aload_n 0, 1) := by decide +kernel
theorem dX10_hide_51 : decode cX10_hide 51 = .ok (.invokevirtual 110, 3) := by decide +kernel
theorem dX10_hide_54 : decode cX10_hide 54 = .ok (.iload_n 3, 1) := by decide +kernel
theorem dX10_hide_55 : decode cX10_hide 55 = .ok (.ireturn, 1) := by decide +kernel
theorem dX10_search_0 : decode cX10_search 0 = .ok (.aload_n 0, 1) := by decide +kernel
theorem dX10_search_1 : decode cX10_search 1 = .ok (.getfield 26, 3) := by decide +kernel
theorem dX10_search_4 : decode cX10_search 4 = .ok (.iload_n 1, 1) := by decide +kernel
theorem dX10_search_5 : decode cX10_search 5 = .ok (.invokevirtual 120, 3) := by decide +kernel
theorem dX10_search_8 : decode cX10_search 8 = .ok (.ifCond .eq 13, 3) := by decide +kernel
theorem dX10_search_11 : decode cX10_search 11 = .ok (.iload_n 2, 1) := by decide +kernel
theorem dX10_search_12 : decode cX10_search 12 = .ok (.ifCond .lt 9, 3) := by decide +kernel
theorem dX10_search_15 : decode cX10_search 15 = .ok (.iload_n 2, 1) := by decide +kernel
theorem dX10_search_16 : decode cX10_search 16 = .ok (.bipush 10, 2) := by decide +kernel
theorem dX10_search_18 : decode cX10_search 18 = .ok (.if_icmp .le 5, 3) := by decide +kernel
theorem dX10_search_21 : decode cX10_search 21 = .ok (.iconst (-1), 1) := by decide +kernel
theorem dX10_search_22 : decode cX10_search 22 = .ok (.ireturn, 1) := by decide +kernel
theorem dX10_search_23 : decode cX10_search 23 = .ok (.aload_n 0, 1) := by decide +kernel
theorem dX10_search_24 : decode cX10_search 24 = .ok (.invokevirtual 110, 3) := by decide +kernel
theorem dX10_search_27 : decode cX10_search 27 = .ok (.aload_n 0, 1) := by decide +kernel
theorem dX10_search_28 : decode cX10_search 28 = .ok (.getfield 26, 3) := by decide +kernel
theorem dX10_search_31 : decode cX10_search 31 = .ok (.bipush 10, 2) := by decide +kernel
theorem dX10_search_33 : decode cX10_search 33 = .ok (.invokevirtual 203, 3) := by decide +kernel
theorem dX10_search_36 : decode cX10_search 36 = .ok (.iload_n 2, 1) := by decide +kernel
theorem dX10_search_37 : decode cX10_search 37 = .ok (.if_icmp .lt 5, 3) := by decide +kernel
theorem dX10_search_40 : decode cX10_search 40 = .ok (.iconst 0, 1) := by decide +kernel
theorem dX10_search_41 : decode cX10_search 41 = .ok (.ireturn, 1) := by decide +kernel
theorem dX10_search_42 : decode cX10_search 42 = .ok (.aload_n 0, 1) := by decide +kernel
theorem dX10_search_43 : decode cX10_search 43 = .ok (.getfield 26, 3) := by decide +kernel
theorem dX10_search_46 : decode cX10_search 46 = .ok (.getfield 135, 3) := by decide +kernel
theorem dX10_search_49 : decode cX10_search 49 = .ok (.iload_n 1, 1) := by decide +kernel
theorem dX10_search_50 : decode cX10_search 50 = .ok (.iaload, 1) := by decide +kernel
theorem dX10_search_51 : decode cX10_search 51 = .ok (.istore_n 3, 1) := by decide +kernel
theorem dX10_search_52 : decode cX10_search 52 = .ok (.aload_n 0, 1) := by decide +kernel
theorem dX10_search_53 : decode cX10_search 53 = .ok (.getfield 26, 3) := by decide +kernel
theorem dX10_search_56 : decode cX10_search 56 = .ok (.getfield 126, 3) := by decide +kernel
theorem dX10_search_59 : decode cX10_search 59 = .ok (.iload_n 1, 1) := by decide +kernel
theorem dX10_search_60 : decode cX10_search 60 = .ok (.dup2, 1) := by decide +kernel
theorem dX10_search_61 : decode cX10_search 61 = .ok (.iaload, 1) := by decide +kernel
theorem dX10_search_62 : decode cX10_search 62 = .ok (.iload_n 3, 1) := by decide +kernel
theorem dX10_search_63 : decode cX10_search 63 = .ok (.isub, 1) := by decide +kernel
theorem dX10_search_64 : decode cX10_search 64 = .ok (.iastore, 1) := by decide +kernel
theorem dX10_search_65 : decode cX10_search 65 = .ok (.aload_n 0, 1) := by decide +kernel
theorem dX10_search_66 : decode cX10_search 66 = .ok (.getfield 26, 3) := by decide +kernel
theorem dX10_search_69 : decode cX10_search 69 = .ok (.getfield 135, 3) := by decide +kernel
theorem dX10_search_72 : decode cX10_search 72 = .ok (.iload_n 1, 1) := by decide +kernel
theorem dX10_search_73 : decode cX10_search 73 = .ok (.iconst 0, 1) := by decide +kernel
theorem dX10_search_74 : decode cX10_search 74 = .ok (.iastore, 1) := by decide +kernel
theorem dX10_search_75 : decode cX10_search 75 = .ok (.iload_n 3, 1) := by decide +kernel
theorem dX10_search_76 : decode cX10_search 76 = .ok (.ireturn, 1) := by decide +kernel
theorem dX10_below_0 : decode cX10_below 0 = .ok (.aload_n 0, 1) := by decide +kernel
theorem dX10_below_1 : decode cX10_below 1 = .ok (.getfield 26, 3) := by decide +kernel
theorem dX10_below_4 : decode cX10_below 4 = .ok (.iload_n 1, 1) := by decide +kernel
theorem dX10_below_5 : decode cX10_below 5 = .ok (.invokevirtual 120, 3) := by decide +kernel
theorem dX10_below_8 : decode cX10_below 8 = .ok (.ifCond .ne 5, 3) := by decide +kernel
theorem dX10_below_11 : decode cX10_below 11 = .ok (.iconst (-1), 1) := by decide +kernel
theorem dX10_below_12 : decode cX10_below 12 = .ok (.ireturn, 1) := by decide +kernel
theorem dX10_below_13 : decode cX10_below 13 = .ok (.aload_n 0, 1) := by decide +kernel
theorem dX10_below_14 : decode cX10_below 14 = .ok (.getfield 26, 3) := by decide +kernel
theorem dX10_below_17 : decode cX10_below 17 = .ok (.invokevirtual 138, 3) := by decide +kernel
theorem dX10_below_20 : decode cX10_below 20 = .ok (.aload_n 0, 1) := by decide +kernel
theorem dX10_below_21 : decode cX10_below 21 = .ok (.getfield 26, 3) := by decide +kernel
theorem dX10_below_24 : decode cX10_below 24 = .ok (.iload_n 1, 1) := by decide +kernel
theorem dX10_below_25 : decode cX10_below 25 = .ok (.invokevirtual 206, 3) := by decide +kernel
theorem dX10_below_28 : decode cX10_below 28 = .ok (.ireturn, 1) := by decide +kernel
theorem dX10_may_0 : decode cX10_may 0 = .ok (.aload_n 0, 1) := by decide +kernel
theorem dX10_may_1 : decode cX10_may 1 = .ok (.getfield 26, 3) := by decide +kernel
theorem dX10_may_4 : decode cX10_may 4 = .ok (.iload_n 1, 1) := by decide +kernel
theorem dX10_may_5 : decode cX10_may 5 = .ok (.invokevirtual 157, 3) := by decide +kernel
theorem dX10_may_8 : decode cX10_may 8 = .ok (.ifCond .ne 5, 3) := by decide +kernel
theorem dX10_may_11 : decode cX10_may 11 = .ok (.iconst (-1), 1) := by decide +kernel
theorem dX10_may_12 : decode cX10_may 12 = .ok (.ireturn, 1) := by decide +kernel
theorem dX10_may_13 : decode cX10_may 13 = .ok (.aload_n 0, 1) := by decide +kernel
theorem dX10_may_14 : decode cX10_may 14 = .ok (.getfield 26, 3) := by decide +kernel
theorem dX10_may_17 : decode cX10_may 17 = .ok (.invokevirtual 138, 3) := by decide +kernel
theorem dX10_may_20 : decode cX10_may 20 = .ok (.aload_n 0, 1) := by decide +kernel
theorem dX10_may_21 : decode cX10_may 21 = .ok (.getfield 26, 3) := by decide +kernel
theorem dX10_may_24 : decode cX10_may 24 = .ok (.iload_n 1, 1) := by decide +kernel
theorem dX10_may_25 : decode cX10_may 25 = .ok (.invokevirtual 209, 3) := by decide +kernel
theorem dX10_may_28 : decode cX10_may 28 = .ok (.istore_n 2, 1) := by decide +kernel
theorem dX10_may_29 : decode cX10_may 29 = .ok (.aload_n 0, 1) := by decide +kernel
theorem dX10_may_30 : decode cX10_may 30 = .ok (.getfield 19, 3) := by decide +kernel
theorem dX10_may_33 : decode cX10_may 33 = .ok (.invokevirtual 212, 3) := by decide +kernel
theorem dX10_may_36 : decode cX10_may 36 = .ok (.iload_n 2, 1) := by decide +kernel
theorem dX10_may_37 : decode cX10_may 37 = .ok (.ifCond .eq 9, 3) := by decide +kernel
theorem dX10_may_40 : decode cX10_may 40 = .ok (.aload_n 0, 1) := by decide +kernel
theorem dX10_may_41 : decode cX10_may 41 = .ok (.iload_n 2, 1) := by decide +kernel
theorem dX10_may_42 : decode cX10_may 42 = .ok (.iload_n 1, 1) := by decide +kernel
theorem dX10_may_43 : decode cX10_may 43 = .ok (.invokevirtual 213, 3) := by decide +kernel
theorem dX10_may_46 : decode cX10_may 46 = .ok (.iload_n 2, 1) := by decide +kernel
theorem dX10_may_47 : decode cX10_may 47 = .ok (.ireturn, 1) := by decide +kernel
theorem dX10_tellCheapest_0 : decode cX10_tellCheapest 0 = .ok (.ldc 217, 2) := by decide +kernel
theorem dX10_tellCheapest_2 : decode cX10_tellCheapest 2 = .ok (.istore_n 3, 1) := by decide +kernel
theorem dX10_tellCheapest_3 : decode cX10_tellCheapest 3 = .ok (.iconst 0, 1) := by decide +kernel
theorem dX10_tellCheapest_4 : decode cX10_tellCheapest 4 = .ok (.istore 4, 2) := by decide +kernel
theorem dX10_tellCheapest_6 : decode cX10_tellCheapest 6 = .ok (.iconst 0, 1) := by decide +kernel
theorem dX10_tellCheapest_7 : decode cX10_tellCheapest 7 = .ok (.istore 5, 2) := by decide +kernel
theorem dX10_tellCheapest_9 : decode cX10_tellCheapest 9 = .ok (.iload 5, 2) := by decide +kernel
theorem dX10_tellCheapest_11 : decode cX10_tellCheapest 11 = .ok (.aload_n 0, 1) := by decide +kernel
theorem dX10_tellCheapest_12 : decode cX10_tellCheapest 12 = .ok (.getfield 26, 3) := by decide +kernel
theorem dX10_tellCheapest_15 : decode cX10_tellCheapest 15 = .ok (.getfield 184, 3) := by decide +kernel
theorem dX10_tellCheapest_18 : decode cX10_tellCheapest 18 = .ok (.if_icmp .ge 47, 3) := by decide +kernel
theorem dX10_tellCheapest_21 : decode cX10_tellCheapest 21 = .ok (.iload_n 1, 1) := by decide +kernel
theorem dX10_tellCheapest_22 : decode cX10_tellCheapest 22 = .ok (.iconst 1, 1) := by decide +kernel
theorem dX10_tellCheapest_23 : decode cX10_tellCheapest 23 = .ok (.iload 5, 2) := by decide +kernel
theorem dX10_tellCheapest_25 : decode cX10_tellCheapest 25 = .ok (.ishl, 1) := by decide +kernel
theorem dX10_tellCheapest_26 : decode cX10_tellCheapest 26 = .ok (.iand, 1) := by decide +kernel
theorem dX10_tellCheapest_27 : decode cX10_tellCheapest 27 = .ok (.ifCond .eq 32, 3) := by decide +kernel
theorem dX10_tellCheapest_30 : decode cX10_tellCheapest 30 = .ok (.aload_n 0, 1) := by decide +kernel
theorem dX10_tellCheapest_31 : decode cX10_tellCheapest 31 = .ok (.getfield 26, 3) := by decide +kernel
theorem dX10_tellCheapest_34 : decode cX10_tellCheapest 34 = .ok (.iload 5, 2) := by decide +kernel
theorem dX10_tellCheapest_36 : decode cX10_tellCheapest 36 = .ok (.iload_n 2, 1) := by decide +kernel
theorem dX10_tellCheapest_37 : decode cX10_tellCheapest 37 = .ok (.invokevirtual 218, 3) := by decide +kernel
theorem dX10_tellCheapest_40 : decode cX10_tellCheapest 40 = .ok (.iload_n 3, 1) := by decide +kernel
theorem dX10_tellCheapest_41 : decode cX10_tellCheapest 41 = .ok (.if_icmp .ge 18, 3) := by decide +kernel
theorem dX10_tellCheapest_44 : decode cX10_tellCheapest 44 = .ok (.aload_n 0, 1) := by decide +kernel
theorem dX10_tellCheapest_45 : decode cX10_tellCheapest 45 = .ok (.getfield 26, 3) := by decide +kernel
theorem dX10_tellCheapest_48 : decode cX10_tellCheapest 48 = .ok (.iload 5, 2) := by decide +kernel
theorem dX10_tellCheapest_50 : decode cX10_tellCheapest 50 = .ok (.iload_n 2, 1) := by decide +kernel
theorem dX10_tellCheapest_51 : decode cX10_tellCheapest 51 = .ok (.invokevirtual 218, 3) := by decide +kernel
theorem dX10_tellCheapest_54 : decode cX10_tellCheapest 54 = .ok (.istore_n 3, 1) := by decide +kernel
theorem dX10_tellCheapest_55 : decode cX10_tellCheapest 55 = .ok (.iload 5, 2) := by decide +kernel
theorem dX10_tellCheapest_57 : decode cX10_tellCheapest 57 = .ok (.istore 4, 2) := by decide +kernel
theorem dX10_tellCheapest_59 : decode cX10_tellCheapest 59 = .ok (.iinc 5 1, 3) := by decide +kernel
theorem dX10_tellCheapest_62 : decode cX10_tellCheapest 62 = .ok (.goto (-53), 3) := by decide +kernel
theorem dX10_tellCheapest_65 : decode cX10_tellCheapest 65 = .ok (.aload_n 0, 1) := by decide +kernel
theorem dX10_tellCheapest_66 : decode cX10_tellCheapest 66 = .ok (.getfield 19, 3) := by decide +kernel
theorem dX10_tellCheapest_69 : decode cX10_tellCheapest 69 = .ok (.iload_n 3, 1) := by decide +kernel
theorem dX10_tellCheapest_70 : decode cX10_tellCheapest 70 = .ok (.i2l, 1) := by decide +kernel
theorem dX10_tellCheapest_71 : decode cX10_tellCheapest 71 = .ok (.iload 4, 2) := by decide +kernel
theorem dX10_tellCheapest_73 : decode cX10_tellCheapest 73 = .ok (.i2l, 1) := by decide +kernel
theorem dX10_tellCheapest_74 : decode cX10_tellCheapest 74 = .ok (.invokevirtual 221, 3) := by decide +kernel
theorem dX10_tellCheapest_77 : decode cX10_tellCheapest 77 = .ok (.return_, 1) := by decide +kernel
theorem dX10_willing_0 : decode cX10_willing 0 = .ok (.aload_n 0, 1) := by decide +kernel
theorem dX10_willing_1 : decode cX10_willing 1 = .ok (.getfield 26, 3) := by decide +kernel
theorem dX10_willing_4 : decode cX10_willing 4 = .ok (.iload_n 1, 1) := by decide +kernel
theorem dX10_willing_5 : decode cX10_willing 5 = .ok (.invokevirtual 157, 3) := by decide +kernel
theorem dX10_willing_8 : decode cX10_willing 8 = .ok (.ifCond .ne 5, 3) := by decide +kernel
theorem dX10_willing_11 : decode cX10_willing 11 = .ok (.iconst (-1), 1) := by decide +kernel
theorem dX10_willing_12 : decode cX10_willing 12 = .ok (.ireturn, 1) := by decide +kernel
theorem dX10_willing_13 : decode cX10_willing 13 = .ok (.aload_n 0, 1) := by decide +kernel
theorem dX10_willing_14 : decode cX10_willing 14 = .ok (.getfield 49, 3) := by decide +kernel
theorem dX10_willing_17 : decode cX10_willing 17 = .ok (.aload_n 0, 1) := by decide +kernel
theorem dX10_willing_18 : decode cX10_willing 18 = .ok (.getfield 26, 3) := by decide +kernel
theorem dX10_willing_21 : decode cX10_willing 21 = .ok (.iload_n 1, 1) := by decide +kernel
theorem dX10_willing_22 : decode cX10_willing 22 = .ok (.invokevirtual 225, 3) := by decide +kernel
theorem dX10_willing_25 : decode cX10_willing 25 = .ok (.istore_n 2, 1) := by decide +kernel
theorem dX10_willing_26 : decode cX10_willing 26 = .ok (.iload_n 2, 1) := by decide +kernel
theorem dX10_willing_27 : decode cX10_willing 27 = .ok (.ifCond .ge 6, 3) := by decide +kernel
theorem dX10_willing_30 : decode cX10_willing 30 = .ok (.bipush (-2), 2) := by decide +kernel
theorem dX10_willing_32 : decode cX10_willing 32 = .ok (.ireturn, 1) := by decide +kernel
theorem dX10_willing_33 : decode cX10_willing 33 = .ok (.aload_n 0, 1) := by decide +kernel
theorem dX10_willing_34 : decode cX10_willing 34 = .ok (.getfield 19, 3) := by decide +kernel
theorem dX10_willing_37 : decode cX10_willing 37 = .ok (.aload_n 0, 1) := by decide +kernel
theorem dX10_willing_38 : decode cX10_willing 38 = .ok (.getfield 49, 3) := by decide +kernel
theorem dX10_willing_41 : decode cX10_willing 41 = .ok (.aload_n 0, 1) := by decide +kernel
theorem dX10_willing_42 : decode cX10_willing 42 = .ok (.getfield 26, 3) := by decide +kernel
theorem dX10_willing_45 : decode cX10_willing 45 = .ok (.iload_n 2, 1) := by decide +kernel
theorem dX10_willing_46 : decode cX10_willing 46 = .ok (.iload_n 1, 1) := by decide +kernel
theorem dX10_willing_47 : decode cX10_willing 47 = .ok (.invokevirtual 229, 3) := by decide +kernel
theorem dX10_willing_50 : decode cX10_willing 50 = .ok (.i2l, 1) := by decide +kernel
theorem dX10_willing_51 : decode cX10_willing 51 = .ok (.invokevirtual 233, 3) := by decide +kernel
theorem dX10_willing_54 : decode cX10_willing 54 = .ok (.iload_n 2, 1) := by decide +kernel
theorem dX10_willing_55 : decode cX10_willing 55 = .ok (.ireturn, 1) := by decide +kernel
theorem dX10_pay_0 : decode cX10_pay 0 = .ok (.aload_n 0, 1) := by decide +kernel
theorem dX10_pay_1 : decode cX10_pay 1 = .ok (.getfield 26, 3) := by decide +kernel
theorem dX10_pay_4 : decode cX10_pay 4 = .ok (.iload_n 1, 1) := by decide +kernel
theorem dX10_pay_5 : decode cX10_pay 5 = .ok (.invokevirtual 120, 3) := by decide +kernel
theorem dX10_pay_8 : decode cX10_pay 8 = .ok (.ifCond .eq 14, 3) := by decide +kernel
theorem dX10_pay_11 : decode cX10_pay 11 = .ok (.aload_n 0, 1) := by decide +kernel
theorem dX10_pay_12 : decode cX10_pay 12 = .ok (.getfield 26, 3) := by decide +kernel
theorem dX10_pay_15 : decode cX10_pay 15 = .ok (.iload_n 2, 1) := by decide +kernel
theorem dX10_pay_16 : decode cX10_pay 16 = .ok (.invokevirtual 157, 3) := by decide +kernel
theorem dX10_pay_19 : decode cX10_pay 19 = .ok (.ifCond .ne 5, 3) := by decide +kernel
theorem dX10_pay_22 : decode cX10_pay 22 = .ok (.iconst (-1), 1) := by decide +kernel
theorem dX10_pay_23 : decode cX10_pay 23 = .ok (.ireturn, 1) := by decide +kernel
theorem dX10_pay_24 : decode cX10_pay 24 = .ok (.aload_n 0, 1) := by decide +kernel
theorem dX10_pay_25 : decode cX10_pay 25 = .ok (.getfield 26, 3) := by decide +kernel
theorem dX10_pay_28 : decode cX10_pay 28 = .ok (.iload_n 1, 1) := by decide +kernel
theorem dX10_pay_29 : decode cX10_pay 29 = .ok (.iload_n 2, 1) := by decide +kernel
theorem dX10_pay_30 : decode cX10_pay 30 = .ok (.invokevirtual 236, 3) := by decide +kernel
theorem dX10_pay_33 : decode cX10_pay 33 = .ok (.ifCond .ne 6, 3) := by decide +kernel
theorem dX10_pay_36 : decode cX10_pay 36 = .ok (.bipush (-2), 2) := by decide +kernel
theorem dX10_pay_38 : decode cX10_pay 38 = .ok (.ireturn, 1) := by decide +kernel
theorem dX10_pay_39 : decode cX10_pay 39 = .ok (.aload_n 0, 1) := by decide +kernel
theorem dX10_pay_40 : decode cX10_pay 40 = .ok (.getfield 240, 3) := by decide +kernel
theorem dX10_pay_43 : decode cX10_pay 43 = .ok (.bipush 10, 2) := by decide +kernel
theorem dX10_pay_45 : decode cX10_pay 45 = .ok (.if_icmp .ge 23, 3) := by decide +kernel
theorem dX10_pay_48 : decode cX10_pay 48 = .ok (.aload_n 0, 1) := by decide +kernel
theorem dX10_pay_49 : decode cX10_pay 49 = .ok (.getfield 88, 3) := by decide +kernel
theorem dX10_pay_52 : decode cX10_pay 52 = .ok (.aload_n 0, 1) := by decide +kernel
theorem dX10_pay_53 : decode cX10_pay 53 = .ok (.getfield 240, 3) := by decide +kernel
theorem dX10_pay_56 : decode cX10_pay 56 = .ok (.iload_n 2, 1) := by decide +kernel
theorem dX10_pay_57 : decode cX10_pay 57 = .ok (.iastore, 1) := by decide +kernel
theorem dX10_pay_58 : decode cX10_pay 58 = .ok (.aload_n 0, 1) := by decide +kernel
theorem dX10_pay_59 : decode cX10_pay 59 = .ok (.dup, 1) := by decide +kernel
theorem dX10_pay_60 : decode cX10_pay 60 = .ok (.getfield 240, 3) := by decide +kernel
theorem dX10_pay_63 : decode cX10_pay 63 = .ok (.iconst 1, 1) := by decide +kernel
theorem dX10_pay_64 : decode cX10_pay 64 = .ok (.iadd, 1) := by decide +kernel
theorem dX10_pay_65 : decode cX10_pay 65 = .ok (.putfield 240, 3) := by decide +kernel
theorem dX10_pay_68 : decode cX10_pay 68 = .ok (.aload_n 0, 1) := by decide +kernel
theorem dX10_pay_69 : decode cX10_pay 69 = .ok (.getfield 26, 3) := by decide +kernel
theorem dX10_pay_72 : decode cX10_pay 72 = .ok (.iload_n 1, 1) := by decide +kernel
theorem dX10_pay_73 : decode cX10_pay 73 = .ok (.iload_n 2, 1) := by decide +kernel
theorem dX10_pay_74 : decode cX10_pay 74 = .ok (.invokevirtual 243, 3) := by decide +kernel
theorem dX10_pay_77 : decode cX10_pay 77 = .ok (.ireturn, 1) := by decide +kernel
theorem dX10_undo_0 : decode cX10_undo 0 = .ok (.aload_n 0, 1) := by decide +kernel
theorem dX10_undo_1 : decode cX10_undo 1 = .ok (.getfield 240, 3) := by decide +kernel
theorem dX10_undo_4 : decode cX10_undo 4 = .ok (.iconst 1, 1) := by decide +kernel
theorem dX10_undo_5 : decode cX10_undo 5 = .ok (.if_icmp .ge 5, 3) := by decide +kernel
theorem dX10_undo_8 : decode cX10_undo 8 = .ok (.iconst (-1), 1) := by decide +kernel
theorem dX10_undo_9 : decode cX10_undo 9 = .ok (.ireturn, 1) := by decide +kernel
theorem dX10_undo_10 : decode cX10_undo 10 = .ok (.aload_n 0, 1) := by decide +kernel
theorem dX10_undo_11 : decode cX10_undo 11 = .ok (.dup, 1) := by decide +kernel
theorem dX10_undo_12 : decode cX10_undo 12 = .ok (.getfield 240, 3) := by decide +kernel
theorem dX10_undo_15 : decode cX10_undo 15 = .ok (.iconst 1, 1) := by decide +kernel
theorem dX10_undo_16 : decode cX10_undo 16 = .ok (.isub, 1) := by decide +kernel
theorem dX10_undo_17 : decode cX10_undo 17 = .ok (.putfield 240, 3) := by decide +kernel
theorem dX10_undo_20 : decode cX10_undo 20 = .ok (.aload_n 0, 1) := by decide +kernel
theorem dX10_undo_21 : decode cX10_undo 21 = .ok (.getfield 26, 3) := by decide +kernel
theorem dX10_undo_24 : decode cX10_undo 24 = .ok (.aload_n 0, 1) := by decide +kernel
theorem dX10_undo_25 : decode cX10_undo 25 = .ok (.getfield 88, 3) := by decide +kernel
theorem dX10_undo_28 : decode cX10_undo 28 = .ok (.aload_n 0, 1) := by decide +kernel
theorem dX10_undo_29 : decode cX10_undo 29 = .ok (.getfield 240, 3) := by decide +kernel
theorem dX10_undo_32 : decode cX10_undo 32 = .ok (.iaload, 1) := by decide +kernel
theorem dX10_undo_33 : decode cX10_undo 33 = .ok (.invokevirtual 246, 3) := by decide +kernel
theorem dX10_undo_36 : decode cX10_undo 36 = .ok (.aload_n 0, 1) := by decide +kernel
theorem dX10_undo_37 : decode cX10_undo 37 = .ok (.getfield 240, 3) := by decide +kernel
theorem dX10_undo_40 : decode cX10_undo 40 = .ok (.ireturn, 1) := by decide +kernel
theorem dX10_forgetPayments_0 : decode cX10_forgetPayments 0 = .ok (.aload_n 0, 1) := by decide +kernel
theorem dX10_forgetPayments_1 : decode cX10_forgetPayments 1 = .ok (.iconst 0, 1) := by decide +kernel
theorem dX10_forgetPayments_2 : decode cX10_forgetPayments 2 = .ok (.putfield 240, 3) := by decide +kernel
theorem dX10_forgetPayments_5 : decode cX10_forgetPayments 5 = .ok (.return_, 1) := by decide +kernel
theorem dX10_judge_0 : decode cX10_judge 0 = .ok (.iload_n 1, 1) := by decide +kernel
theorem dX10_judge_1 : decode cX10_judge 1 = .ok (.ifCond .lt 8, 3) := by decide +kernel
theorem dX10_judge_4 : decode cX10_judge 4 = .ok (.iload_n 1, 1) := by decide +kernel
theorem dX10_judge_5 : decode cX10_judge 5 = .ok (.iconst 4, 1) := by decide +kernel
theorem dX10_judge_6 : decode cX10_judge 6 = .ok (.if_icmp .le 5, 3) := by decide +kernel
theorem dX10_judge_9 : decode cX10_judge 9 = .ok (.iconst (-1), 1) := by decide +kernel
theorem dX10_judge_10 : decode cX10_judge 10 = .ok (.ireturn, 1) := by decide +kernel
theorem dX10_judge_11 : decode cX10_judge 11 = .ok (.aload_n 0, 1) := by decide +kernel
theorem dX10_judge_12 : decode cX10_judge 12 = .ok (.getfield 30, 3) := by decide +kernel
theorem dX10_judge_15 : decode cX10_judge 15 = .ok (.aload_n 0, 1) := by decide +kernel
theorem dX10_judge_16 : decode cX10_judge 16 = .ok (.getfield 26, 3) := by decide +kernel
theorem dX10_judge_19 : decode cX10_judge 19 = .ok (.invokevirtual 250, 3) := by decide +kernel
theorem dX10_judge_22 : decode cX10_judge 22 = .ok (.iconst 0, 1) := by decide +kernel
theorem dX10_judge_23 : decode cX10_judge 23 = .ok (.istore_n 3, 1) := by decide +kernel
theorem dX10_judge_24 : decode cX10_judge 24 = .ok (.iconst 0, 1) := by decide +kernel
theorem dX10_judge_25 : decode cX10_judge 25 = .ok (.istore 4, 2) := by decide +kernel
theorem dX10_judge_27 : decode cX10_judge 27 = .ok (.iconst 0, 1) := by decide +kernel
theorem dX10_judge_28 : decode cX10_judge 28 = .ok (.istore 5, 2) := by decide +kernel
theorem dX10_judge_30 : decode cX10_judge 30 = .ok (.iload 5, 2) := by decide +kernel
theorem dX10_judge_32 : decode cX10_judge 32 = .ok (.iload_n 1, 1) := by decide +kernel
theorem dX10_judge_33 : decode cX10_judge 33 = .ok (.if_icmp .ge 81, 3) := by decide +kernel
theorem dX10_judge_36 : decode cX10_judge 36 = .ok (.iload_n 2, 1) := by decide +kernel
theorem dX10_judge_37 : decode cX10_judge 37 = .ok (.bipush 8, 2) := by decide +kernel
theorem dX10_judge_39 : decode cX10_judge 39 = .ok (.iload 5, 2) := by decide +kernel
theorem dX10_judge_41 : decode cX10_judge 41 = .ok (.imul, 1) := by decide +kernel
theorem dX10_judge_42 : decode cX10_judge 42 = .ok (.iushr, 1) := by decide +kernel
theorem dX10_judge_43 : decode cX10_judge 43 = .ok (.sipush 255, 3) := by decide +kernel
theorem dX10_judge_46 : decode cX10_judge 46 = .ok (.iand, 1) := by decide +kernel
theorem dX10_judge_47 : decode cX10_judge 47 = .ok (.istore 6, 2) := by decide +kernel
theorem dX10_judge_49 : decode cX10_judge 49 = .ok (.iload 6, 2) := by decide +kernel
theorem dX10_judge_51 : decode cX10_judge 51 = .ok (.iconst 4, 1) := by decide +kernel
theorem dX10_judge_52 : decode cX10_judge 52 = .ok (.iushr, 1) := by decide +kernel
theorem dX10_judge_53 : decode cX10_judge 53 = .ok (.istore 7, 2) := by decide +kernel
theorem dX10_judge_55 : decode cX10_judge 55 = .ok (.iload 6, 2) := by decide +kernel
theorem dX10_judge_57 : decode cX10_judge 57 = .ok (.bipush 15, 2) := by decide +kernel
theorem dX10_judge_59 : decode cX10_judge 59 = .ok (.iand, 1) := by decide +kernel
theorem dX10_judge_60 : decode cX10_judge 60 = .ok (.istore 8, 2) := by decide +kernel
theorem dX10_judge_62 : decode cX10_judge 62 = .ok (.aload_n 0, 1) := by decide +kernel
theorem dX10_judge_63 : decode cX10_judge 63 = .ok (.getfield 30, 3) := by decide +kernel
theorem dX10_judge_66 : decode cX10_judge 66 = .ok (.iload 8, 2) := by decide +kernel
theorem dX10_judge_68 : decode cX10_judge 68 = .ok (.iload 7, 2) := by decide +kernel
theorem dX10_judge_70 : decode cX10_judge 70 = .ok (.invokevirtual 236, 3) := by decide +kernel
theorem dX10_judge_73 : decode cX10_judge 73 = .ok (.ifCond .ne 6, 3) := by decide +kernel
theorem dX10_judge_76 : decode cX10_judge 76 = .ok (.goto 38, 3) := by decide +kernel
theorem dX10_judge_79 : decode cX10_judge 79 = .ok (.iload_n 3, 1) := by decide +kernel
theorem dX10_judge_80 : decode cX10_judge 80 = .ok (.aload_n 0, 1) := by decide +kernel
theorem dX10_judge_81 : decode cX10_judge 81 = .ok (.getfield 30, 3) := by decide +kernel
theorem dX10_judge_84 : decode cX10_judge 84 = .ok (.iload 8, 2) := by decide +kernel
theorem dX10_judge_86 : decode cX10_judge 86 = .ok (.iload 7, 2) := by decide +kernel
theorem dX10_judge_88 : decode cX10_judge 88 = .ok (.invokevirtual 243, 3) := by decide +kernel
theorem dX10_judge_91 : decode cX10_judge 91 = .ok (.iadd, 1) := by decide +kernel
theorem dX10_judge_92 : decode cX10_judge 92 = .ok (.istore_n 3, 1) := by decide +kernel
theorem dX10_judge_93 : decode cX10_judge 93 = .ok (.iload 4, 2) := by decide +kernel
theorem dX10_judge_95 : decode cX10_judge 95 = .ok (.aload_n 0, 1) := by decide +kernel
theorem dX10_judge_96 : decode cX10_judge 96 = .ok (.getfield 30, 3) := by decide +kernel
theorem dX10_judge_99 : decode cX10_judge 99 = .ok (.getfield 166, 3) := by decide +kernel
theorem dX10_judge_102 : decode cX10_judge 102 = .ok (.iload 7, 2) := by decide +kernel
theorem dX10_judge_104 : decode cX10_judge 104 = .ok (.iaload, 1) := by decide +kernel
theorem dX10_judge_105 : decode cX10_judge 105 = .ok (.iadd, 1) := by decide +kernel
theorem dX10_judge_106 : decode cX10_judge 106 = .ok (.istore 4, 2) := by decide +kernel
theorem dX10_judge_108 : decode cX10_judge 108 = .ok (.iinc 5 1, 3) := by decide +kernel
theorem dX10_judge_111 : decode cX10_judge 111 = .ok (.goto (-81), 3) := by decide +kernel
theorem dX10_judge_114 : decode cX10_judge 114 = .ok (.aload_n 0, 1) := by decide +kernel
theorem dX10_judge_115 : decode cX10_judge 115 = .ok (.getfield 19, 3) := by decide +kernel
theorem dX10_judge_118 : decode cX10_judge 118 = .ok (.iload_n 3, 1) := by decide +kernel
theorem dX10_judge_119 : decode cX10_judge 119 = .ok (.i2l, 1) := by decide +kernel
theorem dX10_judge_120 : decode cX10_judge 120 = .ok (.iload 4, 2) := by decide +kernel
theorem dX10_judge_122 : decode cX10_judge 122 = .ok (.i2l, 1) := by decide +kernel
theorem dX10_judge_123 : decode cX10_judge 123 = .ok (.invokevirtual 221, 3) := by decide +kernel
theorem dX10_judge_126 : decode cX10_judge 126 = .ok (.iload 5, 2) := by decide +kernel
theorem dX10_judge_128 : decode cX10_judge 128 = .ok (.iload_n 1, 1) := by decide +kernel
theorem dX10_judge_129 : decode cX10_judge 129 = .ok (.if_icmp .ne 8, 3) := by decide +kernel
theorem dX10_judge_132 : decode cX10_judge 132 = .ok (.bipush (-2), 2) := by decide +kernel
theorem dX10_judge_134 : decode cX10_judge 134 = .ok (.goto 5, 3) := by decide +kernel
theorem dX10_judge_137 : decode cX10_judge 137 = .ok (.iload 5, 2) := by decide +kernel
theorem dX10_judge_139 : decode cX10_judge 139 = .ok (.ireturn, 1) := by decide +kernel
theorem dX10_favour_0 : decode cX10_favour 0 = .ok (.aload_n 0, 1) := by decide +kernel
theorem dX10_favour_1 : decode cX10_favour 1 = .ok (.getfield 26, 3) := by decide +kernel
theorem dX10_favour_4 : decode cX10_favour 4 = .ok (.iload_n 1, 1) := by decide +kernel
theorem dX10_favour_5 : decode cX10_favour 5 = .ok (.invokevirtual 120, 3) := by decide +kernel
theorem dX10_favour_8 : decode cX10_favour 8 = .ok (.ifCond .eq 19, 3) := by decide +kernel
theorem dX10_favour_11 : decode cX10_favour 11 = .ok (.aload_n 0, 1) := by decide +kernel
theorem dX10_favour_12 : decode cX10_favour 12 = .ok (.getfield 26, 3) := by decide +kernel
theorem dX10_favour_15 : decode cX10_favour 15 = .ok (.iload_n 2, 1) := by decide +kernel
theorem dX10_favour_16 : decode cX10_favour 16 = .ok (.invokevirtual 120, 3) := by decide +kernel
theorem dX10_favour_19 : decode cX10_favour 19 = .ok (.ifCond .eq 8, 3) := by decide +kernel
theorem dX10_favour_22 : decode cX10_favour 22 = .ok (.iload_n 1, 1) := by decide +kernel
theorem dX10_favour_23 : decode cX10_favour 23 = .ok (.iload_n 2, 1) := by decide +kernel
theorem dX10_favour_24 : decode cX10_favour 24 = .ok (.if_icmp .ne 5, 3) := by decide +kernel
theorem dX10_favour_27 : decode cX10_favour 27 = .ok (.iconst (-1), 1) := by decide +kernel
theorem dX10_favour_28 : decode cX10_favour 28 = .ok (.ireturn, 1) := by decide +kernel
theorem dX10_favour_29 : decode cX10_favour 29 = .ok (.aload_n 0, 1) := by decide +kernel
theorem dX10_favour_30 : decode cX10_favour 30 = .ok (.getfield 26, 3) := by decide +kernel
theorem dX10_favour_33 : decode cX10_favour 33 = .ok (.getfield 254, 3) := by decide +kernel
theorem dX10_favour_36 : decode cX10_favour 36 = .ok (.iload_n 1, 1) := by decide +kernel
theorem dX10_favour_37 : decode cX10_favour 37 = .ok (.bipush 8, 2) := by decide +kernel
theorem dX10_favour_39 : decode cX10_favour 39 = .ok (.imul, 1) := by decide +kernel
theorem dX10_favour_40 : decode cX10_favour 40 = .ok (.iload_n 2, 1) := by decide +kernel
theorem dX10_favour_41 : decode cX10_favour 41 = .ok (.iadd, 1) := by decide +kernel
theorem dX10_favour_42 : decode cX10_favour 42 = .ok (.iaload, 1) := by decide +kernel
theorem dX10_favour_43 : decode cX10_favour 43 = .ok (.ireturn, 1) := by decide +kernel
theorem dX10_nets_0 : decode cX10_nets 0 = .ok (.iconst 0, 1) := by decide +kernel
theorem dX10_nets_1 : decode cX10_nets 1 = .ok (.istore_n 1, 1) := by decide +kernel
theorem dX10_nets_2 : decode cX10_nets 2 = .ok (.iconst 0, 1) := by decide +kernel
theorem dX10_nets_3 : decode cX10_nets 3 = .ok (.istore_n 2, 1) := by decide +kernel
theorem dX10_nets_4 : decode cX10_nets 4 = .ok (.iload_n 2, 1) := by decide +kernel
theorem dX10_nets_5 : decode cX10_nets 5 = .ok (.aload_n 0, 1) := by decide +kernel
theorem dX10_nets_6 : decode cX10_nets 6 = .ok (.getfield 26, 3) := by decide +kernel
theorem dX10_nets_9 : decode cX10_nets 9 = .ok (.getfield 184, 3) := by decide +kernel
theorem dX10_nets_12 : decode cX10_nets 12 = .ok (.if_icmp .ge 52, 3) := by decide +kernel
theorem dX10_nets_15 : decode cX10_nets 15 = .ok (.iload_n 2, 1) := by decide +kernel
theorem dX10_nets_16 : decode cX10_nets 16 = .ok (.iconst 1, 1) := by decide +kernel
theorem dX10_nets_17 : decode cX10_nets 17 = .ok (.iadd, 1) := by decide +kernel
theorem dX10_nets_18 : decode cX10_nets 18 = .ok (.istore_n 3, 1) := by decide +kernel
theorem dX10_nets_19 : decode cX10_nets 19 = .ok (.iload_n 3, 1) := by decide +kernel
theorem dX10_nets_20 : decode cX10_nets 20 = .ok (.aload_n 0, 1) := by decide +kernel
theorem dX10_nets_21 : decode cX10_nets 21 = .ok (.getfield 26, 3) := by decide +kernel
theorem dX10_nets_24 : decode cX10_nets 24 = .ok (.getfield 184, 3) := by decide +kernel
theorem dX10_nets_27 : decode cX10_nets 27 = .ok (.if_icmp .ge 31, 3) := by decide +kernel
theorem dX10_nets_30 : decode cX10_nets 30 = .ok (.iload_n 1, 1) := by decide +kernel
theorem dX10_nets_31 : decode cX10_nets 31 = .ok (.aload_n 0, 1) := by decide +kernel
theorem dX10_nets_32 : decode cX10_nets 32 = .ok (.getfield 26, 3) := by decide +kernel
theorem dX10_nets_35 : decode cX10_nets 35 = .ok (.iload_n 2, 1) := by decide +kernel
theorem dX10_nets_36 : decode cX10_nets 36 = .ok (.bipush 8, 2) := by decide +kernel
theorem dX10_nets_38 : decode cX10_nets 38 = .ok (.imul, 1) := by decide +kernel
theorem dX10_nets_39 : decode cX10_nets 39 = .ok (.iload_n 3, 1) := by decide +kernel
theorem dX10_nets_40 : decode cX10_nets 40 = .ok (.iadd, 1) := by decide +kernel
theorem dX10_nets_41 : decode cX10_nets 41 = .ok (.iload_n 3, 1) := by decide +kernel
theorem dX10_nets_42 : decode cX10_nets 42 = .ok (.bipush 8, 2) := by decide +kernel
theorem dX10_nets_44 : decode cX10_nets 44 = .ok (.imul, 1) := by decide +kernel
theorem dX10_nets_45 : decode cX10_nets 45 = .ok (.iload_n 2, 1) := by decide +kernel
theorem dX10_nets_46 : decode cX10_nets 46 = .ok (.iadd, 1) := by decide +kernel
theorem dX10_nets_47 : decode cX10_nets 47 = .ok (.invokevirtual 257, 3) := by decide +kernel
theorem dX10_nets_50 : decode cX10_nets 50 = .ok (.iadd, 1) := by decide +kernel
theorem dX10_nets_51 : decode cX10_nets 51 = .ok (.istore_n 1, 1) := by decide +kernel
theorem dX10_nets_52 : decode cX10_nets 52 = .ok (.iinc 3 1, 3) := by decide +kernel
theorem dX10_nets_55 : decode cX10_nets 55 = .ok (.goto (-36), 3) := by decide +kernel
theorem dX10_nets_58 : decode cX10_nets 58 = .ok (.iinc 2 1, 3) := by decide +kernel
theorem dX10_nets_61 : decode cX10_nets 61 = .ok (.goto (-57), 3) := by decide +kernel
theorem dX10_nets_64 : decode cX10_nets 64 = .ok (.aload_n 0, 1) := by decide +kernel
theorem dX10_nets_65 : decode cX10_nets 65 = .ok (.invokevirtual 110, 3) := by decide +kernel
theorem dX10_nets_68 : decode cX10_nets 68 = .ok (.iload_n 1, 1) := by decide +kernel
theorem dX10_nets_69 : decode cX10_nets 69 = .ok (.ireturn, 1) := by decide +kernel
theorem dX10_give_0 : decode cX10_give 0 = .ok (.aload_n 0, 1) := by decide +kernel
theorem dX10_give_1 : decode cX10_give 1 = .ok (.getfield 26, 3) := by decide +kernel
theorem dX10_give_4 : decode cX10_give 4 = .ok (.iload_n 1, 1) := by decide +kernel
theorem dX10_give_5 : decode cX10_give 5 = .ok (.iload_n 2, 1) := by decide +kernel
theorem dX10_give_6 : decode cX10_give 6 = .ok (.iload_n 3, 1) := by decide +kernel
theorem dX10_give_7 : decode cX10_give 7 = .ok (.invokevirtual 260, 3) := by decide +kernel
theorem dX10_give_10 : decode cX10_give 10 = .ok (.ifCond .ne 5, 3) := by decide +kernel
theorem dX10_give_13 : decode cX10_give 13 = .ok (.iconst 0, 1) := by decide +kernel
theorem dX10_give_14 : decode cX10_give 14 = .ok (.ireturn, 1) := by decide +kernel
theorem dX10_give_15 : decode cX10_give 15 = .ok (.aload_n 0, 1) := by decide +kernel
theorem dX10_give_16 : decode cX10_give 16 = .ok (.getfield 26, 3) := by decide +kernel
theorem dX10_give_19 : decode cX10_give 19 = .ok (.iload_n 1, 1) := by decide +kernel
theorem dX10_give_20 : decode cX10_give 20 = .ok (.iload_n 2, 1) := by decide +kernel
theorem dX10_give_21 : decode cX10_give 21 = .ok (.iload_n 3, 1) := by decide +kernel
theorem dX10_give_22 : decode cX10_give 22 = .ok (.invokevirtual 264, 3) := by decide +kernel
theorem dX10_give_25 : decode cX10_give 25 = .ok (.aload_n 0, 1) := by decide +kernel
theorem dX10_give_26 : decode cX10_give 26 = .ok (.invokevirtual 110, 3) := by decide +kernel
theorem dX10_give_29 : decode cX10_give 29 = .ok (.iconst 1, 1) := by decide +kernel
theorem dX10_give_30 : decode cX10_give 30 = .ok (.ireturn, 1) := by decide +kernel
theorem dX10_lend_0 : decode cX10_lend 0 = .ok (.aload_n 0, 1) := by decide +kernel
theorem dX10_lend_1 : decode cX10_lend 1 = .ok (.getfield 26, 3) := by decide +kernel
theorem dX10_lend_4 : decode cX10_lend 4 = .ok (.iload_n 1, 1) := by decide +kernel
theorem dX10_lend_5 : decode cX10_lend 5 = .ok (.iload_n 2, 1) := by decide +kernel
theorem dX10_lend_6 : decode cX10_lend 6 = .ok (.iload_n 3, 1) := by decide +kernel
theorem dX10_lend_7 : decode cX10_lend 7 = .ok (.invokevirtual 260, 3) := by decide +kernel
theorem dX10_lend_10 : decode cX10_lend 10 = .ok (.ifCond .eq 15, 3) := by decide +kernel
theorem dX10_lend_13 : decode cX10_lend 13 = .ok (.aload_n 0, 1) := by decide +kernel
theorem dX10_lend_14 : decode cX10_lend 14 = .ok (.getfield 26, 3) := by decide +kernel
theorem dX10_lend_17 : decode cX10_lend 17 = .ok (.getfield 268, 3) := by decide +kernel
theorem dX10_lend_20 : decode cX10_lend 20 = .ok (.bipush 6, 2) := by decide +kernel
theorem dX10_lend_22 : decode cX10_lend 22 = .ok (.if_icmp .lt 5, 3) := by decide +kernel
theorem dX10_lend_25 : decode cX10_lend 25 = .ok (.iconst (-1), 1) := by decide +kernel
theorem dX10_lend_26 : decode cX10_lend 26 = .ok (.ireturn, 1) := by decide +kernel
theorem dX10_lend_27 : decode cX10_lend 27 = .ok (.aload_n 0, 1) := by decide +kernel
theorem dX10_lend_28 : decode cX10_lend 28 = .ok (.getfield 26, 3) := by decide +kernel
theorem dX10_lend_31 : decode cX10_lend 31 = .ok (.iload_n 1, 1) := by decide +kernel
theorem dX10_lend_32 : decode cX10_lend 32 = .ok (.iload_n 2, 1) := by decide +kernel
theorem dX10_lend_33 : decode cX10_lend 33 = .ok (.iload_n 3, 1) := by decide +kernel
theorem dX10_lend_34 : decode cX10_lend 34 = .ok (.invokevirtual 271, 3) := by decide +kernel
theorem dX10_lend_37 : decode cX10_lend 37 = .ok (.aload_n 0, 1) := by decide +kernel
theorem dX10_lend_38 : decode cX10_lend 38 = .ok (.getfield 26, 3) := by decide +kernel
theorem dX10_lend_41 : decode cX10_lend 41 = .ok (.iload_n 1, 1) := by decide +kernel
theorem dX10_lend_42 : decode cX10_lend 42 = .ok (.iload_n 2, 1) := by decide +kernel
theorem dX10_lend_43 : decode cX10_lend 43 = .ok (.iload_n 3, 1) := by decide +kernel
theorem dX10_lend_44 : decode cX10_lend 44 = .ok (.invokevirtual 264, 3) := by decide +kernel
theorem dX10_lend_47 : decode cX10_lend 47 = .ok (.aload_n 0, 1) := by decide +kernel
theorem dX10_lend_48 : decode cX10_lend 48 = .ok (.invokevirtual 110, 3) := by decide +kernel
theorem dX10_lend_51 : decode cX10_lend 51 = .ok (.aload_n 0, 1) := by decide +kernel
theorem dX10_lend_52 : decode cX10_lend 52 = .ok (.getfield 26, 3) := by decide +kernel
theorem dX10_lend_55 : decode cX10_lend 55 = .ok (.getfield 268, 3) := by decide +kernel
theorem dX10_lend_58 : decode cX10_lend 58 = .ok (.ireturn, 1) := by decide +kernel
theorem dX10_back_0 : decode cX10_back 0 = .ok (.aload_n 0, 1) := by decide +kernel
theorem dX10_back_1 : decode cX10_back 1 = .ok (.getfield 26, 3) := by decide +kernel
theorem dX10_back_4 : decode cX10_back 4 = .ok (.getfield 268, 3) := by decide +kernel
theorem dX10_back_7 : decode cX10_back 7 = .ok (.iconst 1, 1) := by decide +kernel
theorem dX10_back_8 : decode cX10_back 8 = .ok (.if_icmp .ge 5, 3) := by decide +kernel
theorem dX10_back_11 : decode cX10_back 11 = .ok (.iconst (-1), 1) := by decide +kernel
theorem dX10_back_12 : decode cX10_back 12 = .ok (.ireturn, 1) := by decide +kernel
theorem dX10_back_13 : decode cX10_back 13 = .ok (.aload_n 0, 1) := by decide +kernel
theorem dX10_back_14 : decode cX10_back 14 = .ok (.getfield 26, 3) := by decide +kernel
theorem dX10_back_17 : decode cX10_back 17 = .ok (.invokevirtual 274, 3) := by decide +kernel
theorem dX10_back_20 : decode cX10_back 20 = .ok (.ifCond .ne 6, 3) := by decide +kernel
theorem dX10_back_23 : decode cX10_back 23 = .ok (.bipush (-2), 2) := by decide +kernel
theorem dX10_back_25 : decode cX10_back 25 = .ok (.ireturn, 1) := by decide +kernel
theorem dX10_back_26 : decode cX10_back 26 = .ok (.aload_n 0, 1) := by decide +kernel
theorem dX10_back_27 : decode cX10_back 27 = .ok (.invokevirtual 110, 3) := by decide +kernel
theorem dX10_back_30 : decode cX10_back 30 = .ok (.aload_n 0, 1) := by decide +kernel
theorem dX10_back_31 : decode cX10_back 31 = .ok (.getfield 26, 3) := by decide +kernel
theorem dX10_back_34 : decode cX10_back 34 = .ok (.getfield 268, 3) := by decide +kernel
theorem dX10_back_37 : decode cX10_back 37 = .ok (.ireturn, 1) := by decide +kernel
theorem dX10_gift_0 : decode cX10_gift 0 = .ok (.aload_n 0, 1) := by decide +kernel
theorem dX10_gift_1 : decode cX10_gift 1 = .ok (.getfield 26, 3) := by decide +kernel
theorem dX10_gift_4 : decode cX10_gift 4 = .ok (.iload_n 1, 1) := by decide +kernel
theorem dX10_gift_5 : decode cX10_gift 5 = .ok (.invokevirtual 278, 3) := by decide +kernel
theorem dX10_gift_8 : decode cX10_gift 8 = .ok (.ifCond .ne 5, 3) := by decide +kernel
theorem dX10_gift_11 : decode cX10_gift 11 = .ok (.iconst (-1), 1) := by decide +kernel
theorem dX10_gift_12 : decode cX10_gift 12 = .ok (.ireturn, 1) := by decide +kernel
theorem dX10_gift_13 : decode cX10_gift 13 = .ok (.aload_n 0, 1) := by decide +kernel
theorem dX10_gift_14 : decode cX10_gift 14 = .ok (.getfield 26, 3) := by decide +kernel
theorem dX10_gift_17 : decode cX10_gift 17 = .ok (.invokevirtual 138, 3) := by decide +kernel
theorem dX10_gift_20 : decode cX10_gift 20 = .ok (.aload_n 0, 1) := by decide +kernel
theorem dX10_gift_21 : decode cX10_gift 21 = .ok (.getfield 26, 3) := by decide +kernel
theorem dX10_gift_24 : decode cX10_gift 24 = .ok (.iload_n 1, 1) := by decide +kernel
theorem dX10_gift_25 : decode cX10_gift 25 = .ok (.invokevirtual 209, 3) := by decide +kernel
theorem dX10_gift_28 : decode cX10_gift 28 = .ok (.ifCond .eq 5, 3) := by decide +kernel
theorem dX10_gift_31 : decode cX10_gift 31 = .ok (.iconst 0, 1) := by decide +kernel
theorem dX10_gift_32 : decode cX10_gift 32 = .ok (.ireturn, 1) := by decide +kernel
theorem dX10_gift_33 : decode cX10_gift 33 = .ok (.aload_n 0, 1) := by decide +kernel
theorem dX10_gift_34 : decode cX10_gift 34 = .ok (.getfield 63, 3) := by decide +kernel
theorem dX10_gift_37 : decode cX10_gift 37 = .ok (.aload_n 0, 1) := by decide +kernel
theorem dX10_gift_38 : decode cX10_gift 38 = .ok (.getfield 26, 3) := by decide +kernel
theorem dX10_gift_41 : decode cX10_gift 41 = .ok (.iload_n 1, 1) := by decide +kernel
theorem dX10_gift_42 : decode cX10_gift 42 = .ok (.invokevirtual 281, 3) := by decide +kernel
theorem dX10_gift_45 : decode cX10_gift 45 = .ok (.istore_n 2, 1) := by decide +kernel
theorem dX10_gift_46 : decode cX10_gift 46 = .ok (.iload_n 2, 1) := by decide +kernel
theorem dX10_gift_47 : decode cX10_gift 47 = .ok (.ifCond .ne 6, 3) := by decide +kernel
theorem dX10_gift_50 : decode cX10_gift 50 = .ok (.bipush (-2), 2) := by decide +kernel
theorem dX10_gift_52 : decode cX10_gift 52 = .ok (.ireturn, 1) := by decide +kernel
theorem dX10_gift_53 : decode cX10_gift 53 = .ok (.aload_n 0, 1) := by decide +kernel
theorem dX10_gift_54 : decode cX10_gift 54 = .ok (.getfield 19, 3) := by decide +kernel
theorem dX10_gift_57 : decode cX10_gift 57 = .ok (.aload_n 0, 1) := by decide +kernel
theorem dX10_gift_58 : decode cX10_gift 58 = .ok (.getfield 63, 3) := by decide +kernel
theorem dX10_gift_61 : decode cX10_gift 61 = .ok (.getfield 284, 3) := by decide +kernel
theorem dX10_gift_64 : decode cX10_gift 64 = .ok (.i2l, 1) := by decide +kernel
theorem dX10_gift_65 : decode cX10_gift 65 = .ok (.aload_n 0, 1) := by decide +kernel
theorem dX10_gift_66 : decode cX10_gift 66 = .ok (.getfield 63, 3) := by decide +kernel
theorem dX10_gift_69 : decode cX10_gift 69 = .ok (.getfield 287, 3) := by decide +kernel
theorem dX10_gift_72 : decode cX10_gift 72 = .ok (.i2l, 1) := by decide +kernel
theorem dX10_gift_73 : decode cX10_gift 73 = .ok (.invokevirtual 221, 3) := by decide +kernel
theorem dX10_gift_76 : decode cX10_gift 76 = .ok (.iload_n 2, 1) := by decide +kernel
theorem dX10_gift_77 : decode cX10_gift 77 = .ok (.ireturn, 1) := by decide +kernel
theorem dX10_poorer_0 : decode cX10_poorer 0 = .ok (.aload_n 0, 1) := by decide +kernel
theorem dX10_poorer_1 : decode cX10_poorer 1 = .ok (.getfield 26, 3) := by decide +kernel
theorem dX10_poorer_4 : decode cX10_poorer 4 = .ok (.iload_n 1, 1) := by decide +kernel
theorem dX10_poorer_5 : decode cX10_poorer 5 = .ok (.invokevirtual 120, 3) := by decide +kernel
theorem dX10_poorer_8 : decode cX10_poorer 8 = .ok (.ifCond .eq 14, 3) := by decide +kernel
theorem dX10_poorer_11 : decode cX10_poorer 11 = .ok (.aload_n 0, 1) := by decide +kernel
theorem dX10_poorer_12 : decode cX10_poorer 12 = .ok (.getfield 26, 3) := by decide +kernel
theorem dX10_poorer_15 : decode cX10_poorer 15 = .ok (.iload_n 2, 1) := by decide +kernel
theorem dX10_poorer_16 : decode cX10_poorer 16 = .ok (.invokevirtual 278, 3) := by decide +kernel
theorem dX10_poorer_19 : decode cX10_poorer 19 = .ok (.ifCond .ne 5, 3) := by decide +kernel
theorem dX10_poorer_22 : decode cX10_poorer 22 = .ok (.iconst (-1), 1) := by decide +kernel
theorem dX10_poorer_23 : decode cX10_poorer 23 = .ok (.ireturn, 1) := by decide +kernel
theorem dX10_poorer_24 : decode cX10_poorer 24 = .ok (.aload_n 0, 1) := by decide +kernel
theorem dX10_poorer_25 : decode cX10_poorer 25 = .ok (.getfield 26, 3) := by decide +kernel
theorem dX10_poorer_28 : decode cX10_poorer 28 = .ok (.iload_n 1, 1) := by decide +kernel
theorem dX10_poorer_29 : decode cX10_poorer 29 = .ok (.iload_n 2, 1) := by decide +kernel
theorem dX10_poorer_30 : decode cX10_poorer 30 = .ok (.invokevirtual 236, 3) := by decide +kernel
theorem dX10_poorer_33 : decode cX10_poorer 33 = .ok (.ifCond .eq 5, 3) := by decide +kernel
theorem dX10_poorer_36 : decode cX10_poorer 36 = .ok (.iconst 0, 1) := by decide +kernel
theorem dX10_poorer_37 : decode cX10_poorer 37 = .ok (.ireturn, 1) := by decide +kernel
theorem dX10_poorer_38 : decode cX10_poorer 38 = .ok (.aload_n 0, 1) := by decide +kernel
theorem dX10_poorer_39 : decode cX10_poorer 39 = .ok (.getfield 63, 3) := by decide +kernel
theorem dX10_poorer_42 : decode cX10_poorer 42 = .ok (.aload_n 0, 1) := by decide +kernel
theorem dX10_poorer_43 : decode cX10_poorer 43 = .ok (.getfield 26, 3) := by decide +kernel
theorem dX10_poorer_46 : decode cX10_poorer 46 = .ok (.iload_n 1, 1) := by decide +kernel
theorem dX10_poorer_47 : decode cX10_poorer 47 = .ok (.iload_n 2, 1) := by decide +kernel
theorem dX10_poorer_48 : decode cX10_poorer 48 = .ok (.invokevirtual 289, 3) := by decide +kernel
theorem dX10_poorer_51 : decode cX10_poorer 51 = .ok (.istore_n 3, 1) := by decide +kernel
theorem dX10_poorer_52 : decode cX10_poorer 52 = .ok (.iload_n 3, 1) := by decide +kernel
theorem dX10_poorer_53 : decode cX10_poorer 53 = .ok (.ifCond .ne 6, 3) := by decide +kernel
theorem dX10_poorer_56 : decode cX10_poorer 56 = .ok (.bipush (-2), 2) := by decide +kernel
theorem dX10_poorer_58 : decode cX10_poorer 58 = .ok (.ireturn, 1) := by decide +kernel
theorem dX10_poorer_59 : decode cX10_poorer 59 = .ok (.aload_n 0, 1) := by decide +kernel
theorem dX10_poorer_60 : decode cX10_poorer 60 = .ok (.getfield 19, 3) := by decide +kernel
theorem dX10_poorer_63 : decode cX10_poorer 63 = .ok (.aload_n 0, 1) := by decide +kernel
theorem dX10_poorer_64 : decode cX10_poorer 64 = .ok (.getfield 63, 3) := by decide +kernel
theorem dX10_poorer_67 : decode cX10_poorer 67 = .ok (.getfield 284, 3) := by decide +kernel
theorem dX10_poorer_70 : decode cX10_poorer 70 = .ok (.i2l, 1) := by decide +kernel
theorem dX10_poorer_71 : decode cX10_poorer 71 = .ok (.invokevirtual 233, 3) := by decide +kernel
theorem dX10_poorer_74 : decode cX10_poorer 74 = .ok (.iload_n 3, 1) := by decide +kernel
theorem dX10_poorer_75 : decode cX10_poorer 75 = .ok (.ireturn, 1) := by decide +kernel
theorem dX10_isDay_0 : decode cX10_isDay 0 = .ok (.iload_n 0, 1) := by decide +kernel
theorem dX10_isDay_1 : decode cX10_isDay 1 = .ok (.ifCond .lt 13, 3) := by decide +kernel
theorem dX10_isDay_4 : decode cX10_isDay 4 = .ok (.iload_n 0, 1) := by decide +kernel
theorem dX10_isDay_5 : decode cX10_isDay 5 = .ok (.bipush 99, 2) := by decide +kernel
theorem dX10_isDay_7 : decode cX10_isDay 7 = .ok (.if_icmp .gt 7, 3) := by decide +kernel
theorem dX10_isDay_10 : decode cX10_isDay 10 = .ok (.iconst 1, 1) := by decide +kernel
theorem dX10_isDay_11 : decode cX10_isDay 11 = .ok (.goto 4, 3) := by decide +kernel
theorem dX10_isDay_14 : decode cX10_isDay 14 = .ok (.iconst 0, 1) := by decide +kernel
theorem dX10_isDay_15 : decode cX10_isDay 15 = .ok (.ireturn, 1) := by decide +kernel
theorem dX10_visit_0 : decode cX10_visit 0 = .ok (.aload_n 0, 1) := by decide +kernel
theorem dX10_visit_1 : decode cX10_visit 1 = .ok (.getfield 70, 3) := by decide +kernel
theorem dX10_visit_4 : decode cX10_visit 4 = .ok (.aload_n 0, 1) := by decide +kernel
theorem dX10_visit_5 : decode cX10_visit 5 = .ok (.getfield 26, 3) := by decide +kernel
theorem dX10_visit_8 : decode cX10_visit 8 = .ok (.aload_n 0, 1) := by decide +kernel
theorem dX10_visit_9 : decode cX10_visit 9 = .ok (.getfield 26, 3) := by decide +kernel
theorem dX10_visit_12 : decode cX10_visit 12 = .ok (.getfield 181, 3) := by decide +kernel
theorem dX10_visit_15 : decode cX10_visit 15 = .ok (.iconst 0, 1) := by decide +kernel
theorem dX10_visit_16 : decode cX10_visit 16 = .ok (.iaload, 1) := by decide +kernel
theorem dX10_visit_17 : decode cX10_visit 17 = .ok (.iload_n 1, 1) := by decide +kernel
theorem dX10_visit_18 : decode cX10_visit 18 = .ok (.invokevirtual 292, 3) := by decide +kernel
theorem dX10_visit_21 : decode cX10_visit 21 = .ok (.ireturn, 1) := by decide +kernel
theorem dX10_most_0 : decode cX10_most 0 = .ok (.iload_n 1, 1) := by decide +kernel
theorem dX10_most_1 : decode cX10_most 1 = .ok (.invokestatic 296, 3) := by decide +kernel
theorem dX10_most_4 : decode cX10_most 4 = .ok (.ifCond .ne 5, 3) := by decide +kernel
theorem dX10_most_7 : decode cX10_most 7 = .ok (.iconst (-1), 1) := by decide +kernel
theorem dX10_most_8 : decode cX10_most 8 = .ok (.ireturn, 1) := by decide +kernel
theorem dX10_most_9 : decode cX10_most 9 = .ok (.aload_n 0, 1) := by decide +kernel
theorem dX10_most_10 : decode cX10_most 10 = .ok (.iload_n 1, 1) := by decide +kernel
theorem dX10_most_11 : decode cX10_most 11 = .ok (.invokevirtual 299, 3) := by decide +kernel
theorem dX10_most_14 : decode cX10_most 14 = .ok (.ifCond .ne 6, 3) := by decide +kernel
theorem dX10_most_17 : decode cX10_most 17 = .ok (.bipush (-3), 2) := by decide +kernel
theorem dX10_most_19 : decode cX10_most 19 = .ok (.ireturn, 1) := by decide +kernel
theorem dX10_most_20 : decode cX10_most 20 = .ok (.aload_n 0, 1) := by decide +kernel
theorem dX10_most_21 : decode cX10_most 21 = .ok (.getfield 19, 3) := by decide +kernel
theorem dX10_most_24 : decode cX10_most 24 = .ok (.aload_n 0, 1) := by decide +kernel
theorem dX10_most_25 : decode cX10_most 25 = .ok (.getfield 70, 3) := by decide +kernel
theorem dX10_most_28 : decode cX10_most 28 = .ok (.invokevirtual 301, 3) := by decide +kernel
theorem dX10_most_31 : decode cX10_most 31 = .ok (.i2l, 1) := by decide +kernel
theorem dX10_most_32 : decode cX10_most 32 = .ok (.aload_n 0, 1) := by decide +kernel
theorem dX10_most_33 : decode cX10_most 33 = .ok (.getfield 70, 3) := by decide +kernel
theorem dX10_most_36 : decode cX10_most 36 = .ok (.getfield 304, 3) := by decide +kernel
theorem dX10_most_39 : decode cX10_most 39 = .ok (.i2l, 1) := by decide +kernel
theorem dX10_most_40 : decode cX10_most 40 = .ok (.invokevirtual 221, 3) := by decide +kernel
theorem dX10_most_43 : decode cX10_most 43 = .ok (.aload_n 0, 1) := by decide +kernel
theorem dX10_most_44 : decode cX10_most 44 = .ok (.getfield 70, 3) := by decide +kernel
theorem dX10_most_47 : decode cX10_most 47 = .ok (.invokevirtual 307, 3) := by decide +kernel
theorem dX10_most_50 : decode cX10_most 50 = .ok (.ireturn, 1) := by decide +kernel
theorem dX10_all_0 : decode cX10_all 0 = .ok (.iload_n 1, 1) := by decide +kernel
theorem dX10_all_1 : decode cX10_all 1 = .ok (.invokestatic 296, 3) := by decide +kernel
theorem dX10_all_4 : decode cX10_all 4 = .ok (.ifCond .ne 5, 3) := by decide +kernel
theorem dX10_all_7 : decode cX10_all 7 = .ok (.iconst (-1), 1) := by decide +kernel
theorem dX10_all_8 : decode cX10_all 8 = .ok (.ireturn, 1) := by decide +kernel
theorem dX10_all_9 : decode cX10_all 9 = .ok (.aload_n 0, 1) := by decide +kernel
theorem dX10_all_10 : decode cX10_all 10 = .ok (.iload_n 1, 1) := by decide +kernel
theorem dX10_all_11 : decode cX10_all 11 = .ok (.invokevirtual 299, 3) := by decide +kernel
theorem dX10_all_14 : decode cX10_all 14 = .ok (.ifCond .ne 6, 3) := by decide +kernel
theorem dX10_all_17 : decode cX10_all 17 = .ok (.bipush (-3), 2) := by decide +kernel
theorem dX10_all_19 : decode cX10_all 19 = .ok (.ireturn, 1) := by decide +kernel
theorem dX10_all_20 : decode cX10_all 20 = .ok (.aload_n 0, 1) := by decide +kernel
theorem dX10_all_21 : decode cX10_all 21 = .ok (.getfield 70, 3) := by decide +kernel
theorem dX10_all_24 : decode cX10_all 24 = .ok (.invokevirtual 310, 3) := by decide +kernel
theorem dX10_all_27 : decode cX10_all 27 = .ok (.istore_n 2, 1) := by decide +kernel
theorem dX10_all_28 : decode cX10_all 28 = .ok (.iload_n 2, 1) := by decide +kernel
theorem dX10_all_29 : decode cX10_all 29 = .ok (.ifCond .ge 6, 3) := by decide +kernel
theorem dX10_all_32 : decode cX10_all 32 = .ok (.bipush (-2), 2) := by decide +kernel
theorem dX10_all_34 : decode cX10_all 34 = .ok (.ireturn, 1) := by decide +kernel
theorem dX10_all_35 : decode cX10_all 35 = .ok (.aload_n 0, 1) := by decide +kernel
theorem dX10_all_36 : decode cX10_all 36 = .ok (.iload_n 2, 1) := by decide +kernel
theorem dX10_all_37 : decode cX10_all 37 = .ok (.invokevirtual 313, 3) := by decide +kernel
theorem dX10_all_40 : decode cX10_all 40 = .ok (.aload_n 0, 1) := by decide +kernel
theorem dX10_all_41 : decode cX10_all 41 = .ok (.getfield 70, 3) := by decide +kernel
theorem dX10_all_44 : decode cX10_all 44 = .ok (.getfield 316, 3) := by decide +kernel
theorem dX10_all_47 : decode cX10_all 47 = .ok (.iload_n 2, 1) := by decide +kernel
theorem dX10_all_48 : decode cX10_all 48 = .ok (.iaload, 1) := by decide +kernel
theorem dX10_all_49 : decode cX10_all 49 = .ok (.ireturn, 1) := by decide +kernel
theorem dX10_tellPayments_0 : decode cX10_tellPayments 0 = .ok (.aload_n 0, 1) := by decide +kernel
theorem dX10_tellPayments_1 : decode cX10_tellPayments 1 = .ok (.getfield 70, 3) := by decide +kernel
theorem dX10_tellPayments_4 : decode cX10_tellPayments 4 = .ok (.getfield 319, 3) := by decide +kernel
theorem dX10_tellPayments_7 : decode cX10_tellPayments 7 = .ok (.iload_n 1, 1) := by decide +kernel
theorem dX10_tellPayments_8 : decode cX10_tellPayments 8 = .ok (.iaload, 1) := by decide +kernel
theorem dX10_tellPayments_9 : decode cX10_tellPayments 9 = .ok (.invokestatic 322, 3) := by decide +kernel
theorem dX10_tellPayments_12 : decode cX10_tellPayments 12 = .ok (.istore_n 2, 1) := by decide +kernel
theorem dX10_tellPayments_13 : decode cX10_tellPayments 13 = .ok (.aload_n 0, 1) := by decide +kernel
theorem dX10_tellPayments_14 : decode cX10_tellPayments 14 = .ok (.getfield 19, 3) := by decide +kernel
theorem dX10_tellPayments_17 : decode cX10_tellPayments 17 = .ok (.invokevirtual 212, 3) := by decide +kernel
theorem dX10_tellPayments_20 : decode cX10_tellPayments 20 = .ok (.iconst 0, 1) := by decide +kernel
theorem dX10_tellPayments_21 : decode cX10_tellPayments 21 = .ok (.istore_n 3, 1) := by decide +kernel
theorem dX10_tellPayments_22 : decode cX10_tellPayments 22 = .ok (.iload_n 3, 1) := by decide +kernel
theorem dX10_tellPayments_23 : decode cX10_tellPayments 23 = .ok (.iload_n 2, 1) := by decide +kernel
theorem dX10_tellPayments_24 : decode cX10_tellPayments 24 = .ok (.if_icmp .ge 30, 3) := by decide +kernel
theorem dX10_tellPayments_27 : decode cX10_tellPayments 27 = .ok (.aload_n 0, 1) := by decide +kernel
theorem dX10_tellPayments_28 : decode cX10_tellPayments 28 = .ok (.getfield 19, 3) := by decide +kernel
theorem dX10_tellPayments_31 : decode cX10_tellPayments 31 = .ok (.aload_n 0, 1) := by decide +kernel
theorem dX10_tellPayments_32 : decode cX10_tellPayments 32 = .ok (.getfield 70, 3) := by decide +kernel
theorem dX10_tellPayments_35 : decode cX10_tellPayments 35 = .ok (.iload_n 1, 1) := by decide +kernel
theorem dX10_tellPayments_36 : decode cX10_tellPayments 36 = .ok (.iload_n 2, 1) := by decide +kernel
theorem dX10_tellPayments_37 : decode cX10_tellPayments 37 = .ok (.iconst 1, 1) := by decide +kernel
theorem dX10_tellPayments_38 : decode cX10_tellPayments 38 = .ok (.isub, 1) := by decide +kernel
theorem dX10_tellPayments_39 : decode cX10_tellPayments 39 = .ok (.iload_n 3, 1) := by decide +kernel
theorem dX10_tellPayments_40 : decode cX10_tellPayments 40 = .ok (.isub, 1) := by decide +kernel
theorem dX10_tellPayments_41 : decode cX10_tellPayments 41 = .ok (.invokevirtual 327, 3) := by decide +kernel
theorem dX10_tellPayments_44 : decode cX10_tellPayments 44 = .ok (.i2l, 1) := by decide +kernel
theorem dX10_tellPayments_45 : decode cX10_tellPayments 45 = .ok (.invokevirtual 330, 3) := by decide +kernel
theorem dX10_tellPayments_48 : decode cX10_tellPayments 48 = .ok (.iinc 3 1, 3) := by decide +kernel
theorem dX10_tellPayments_51 : decode cX10_tellPayments 51 = .ok (.goto (-29), 3) := by decide +kernel
theorem dX10_tellPayments_54 : decode cX10_tellPayments 54 = .ok (.return_, 1) := by decide +kernel
theorem dX10_never_0 : decode cX10_never 0 = .ok (.iload_n 1, 1) := by decide +kernel
theorem dX10_never_1 : decode cX10_never 1 = .ok (.invokestatic 296, 3) := by decide +kernel
theorem dX10_never_4 : decode cX10_never 4 = .ok (.ifCond .ne 5, 3) := by decide +kernel
theorem dX10_never_7 : decode cX10_never 7 = .ok (.iconst (-1), 1) := by decide +kernel
theorem dX10_never_8 : decode cX10_never 8 = .ok (.ireturn, 1) := by decide +kernel
theorem dX10_never_9 : decode cX10_never 9 = .ok (.aload_n 0, 1) := by decide +kernel
theorem dX10_never_10 : decode cX10_never 10 = .ok (.iload_n 1, 1) := by decide +kernel
theorem dX10_never_11 : decode cX10_never 11 = .ok (.invokevirtual 299, 3) := by decide +kernel
theorem dX10_never_14 : decode cX10_never 14 = .ok (.ifCond .ne 6, 3) := by decide +kernel
theorem dX10_never_17 : decode cX10_never 17 = .ok (.bipush (-3), 2) := by decide +kernel
theorem dX10_never_19 : decode cX10_never 19 = .ok (.ireturn, 1) := by decide +kernel
theorem dX10_never_20 : decode cX10_never 20 = .ok (.aload_n 0, 1) := by decide +kernel
theorem dX10_never_21 : decode cX10_never 21 = .ok (.getfield 70, 3) := by decide +kernel
theorem dX10_never_24 : decode cX10_never 24 = .ok (.getfield 333, 3) := by decide +kernel
theorem dX10_never_27 : decode cX10_never 27 = .ok (.aload_n 0, 1) := by decide +kernel
theorem dX10_never_28 : decode cX10_never 28 = .ok (.getfield 70, 3) := by decide +kernel
theorem dX10_never_31 : decode cX10_never 31 = .ok (.getfield 336, 3) := by decide +kernel
theorem dX10_never_34 : decode cX10_never 34 = .ok (.iconst (-1), 1) := by decide +kernel
theorem dX10_never_35 : decode cX10_never 35 = .ok (.ixor, 1) := by decide +kernel
theorem dX10_never_36 : decode cX10_never 36 = .ok (.iand, 1) := by decide +kernel
theorem dX10_never_37 : decode cX10_never 37 = .ok (.ireturn, 1) := by decide +kernel
theorem dX10_ways_0 : decode cX10_ways 0 = .ok (.iload_n 1, 1) := by decide +kernel
theorem dX10_ways_1 : decode cX10_ways 1 = .ok (.invokestatic 296, 3) := by decide +kernel
theorem dX10_ways_4 : decode cX10_ways 4 = .ok (.ifCond .ne 7, 3) := by decide +kernel
theorem dX10_ways_7 : decode cX10_ways 7 = .ok (.ldc2_w 339, 3) := by decide +kernel
theorem dX10_ways_10 : decode cX10_ways 10 = .ok (.lreturn, 1) := by decide +kernel
theorem dX10_ways_11 : decode cX10_ways 11 = .ok (.aload_n 0, 1) := by decide +kernel
theorem dX10_ways_12 : decode cX10_ways 12 = .ok (.iload_n 1, 1) := by decide +kernel
theorem dX10_ways_13 : decode cX10_ways 13 = .ok (.invokevirtual 299, 3) := by decide +kernel
theorem dX10_ways_16 : decode cX10_ways 16 = .ok (.ifCond .ne 7, 3) := by decide +kernel
theorem dX10_ways_19 : decode cX10_ways 19 = .ok (.ldc2_w 341, 3) := by decide +kernel
theorem dX10_ways_22 : decode cX10_ways 22 = .ok (.lreturn, 1) := by decide +kernel
theorem dX10_ways_23 : decode cX10_ways 23 = .ok (.aload_n 0, 1) := by decide +kernel
theorem dX10_ways_24 : decode cX10_ways 24 = .ok (.getfield 70, 3) := by decide +kernel
theorem dX10_ways_27 : decode cX10_ways 27 = .ok (.invokevirtual 343, 3) := by decide +kernel
theorem dX10_ways_30 : decode cX10_ways 30 = .ok (.lstore_n 2, 1) := by decide +kernel
theorem dX10_ways_31 : decode cX10_ways 31 = .ok (.lload_n 2, 1) := by decide +kernel
theorem dX10_ways_32 : decode cX10_ways 32 = .ok (.lconst 0, 1) := by decide +kernel
theorem dX10_ways_33 : decode cX10_ways 33 = .ok (.lcmp, 1) := by decide +kernel
theorem dX10_ways_34 : decode cX10_ways 34 = .ok (.ifCond .le 28, 3) := by decide +kernel
theorem dX10_ways_37 : decode cX10_ways 37 = .ok (.aload_n 0, 1) := by decide +kernel
theorem dX10_ways_38 : decode cX10_ways 38 = .ok (.getfield 19, 3) := by decide +kernel
theorem dX10_ways_41 : decode cX10_ways 41 = .ok (.aload_n 0, 1) := by decide +kernel
theorem dX10_ways_42 : decode cX10_ways 42 = .ok (.getfield 26, 3) := by decide +kernel
theorem dX10_ways_45 : decode cX10_ways 45 = .ok (.invokevirtual 347, 3) := by decide +kernel
theorem dX10_ways_48 : decode cX10_ways 48 = .ok (.aload_n 0, 1) := by decide +kernel
theorem dX10_ways_49 : decode cX10_ways 49 = .ok (.getfield 70, 3) := by decide +kernel
theorem dX10_ways_52 : decode cX10_ways 52 = .ok (.invokevirtual 350, 3) := by decide +kernel
theorem dX10_ways_55 : decode cX10_ways 55 = .ok (.iconst (-1), 1) := by decide +kernel
theorem dX10_ways_56 : decode cX10_ways 56 = .ok (.ixor, 1) := by decide +kernel
theorem dX10_ways_57 : decode cX10_ways 57 = .ok (.iand, 1) := by decide +kernel
theorem dX10_ways_58 : decode cX10_ways 58 = .ok (.i2l, 1) := by decide +kernel
theorem dX10_ways_59 : decode cX10_ways 59 = .ok (.invokevirtual 233, 3) := by decide +kernel
theorem dX10_ways_62 : decode cX10_ways 62 = .ok (.lload_n 2, 1) := by decide +kernel
theorem dX10_ways_63 : decode cX10_ways 63 = .ok (.lreturn, 1) := by decide +kernel
theorem dX10_ahead_0 : decode cX10_ahead 0 = .ok (.aload_n 0, 1) := by decide +kernel
theorem dX10_ahead_1 : decode cX10_ahead 1 = .ok (.getfield 26, 3) := by decide +kernel
theorem dX10_ahead_4 : decode cX10_ahead 4 = .ok (.iload_n 1, 1) := by decide +kernel
theorem dX10_ahead_5 : decode cX10_ahead 5 = .ok (.invokevirtual 157, 3) := by decide +kernel
theorem dX10_ahead_8 : decode cX10_ahead 8 = .ok (.ifCond .eq 10, 3) := by decide +kernel
theorem dX10_ahead_11 : decode cX10_ahead 11 = .ok (.iload_n 2, 1) := by decide +kernel
theorem dX10_ahead_12 : decode cX10_ahead 12 = .ok (.invokestatic 296, 3) := by decide +kernel
theorem dX10_ahead_15 : decode cX10_ahead 15 = .ok (.ifCond .ne 5, 3) := by decide +kernel
theorem dX10_ahead_18 : decode cX10_ahead 18 = .ok (.iconst (-1), 1) := by decide +kernel
theorem dX10_ahead_19 : decode cX10_ahead 19 = .ok (.ireturn, 1) := by decide +kernel
theorem dX10_ahead_20 : decode cX10_ahead 20 = .ok (.aload_n 0, 1) := by decide +kernel
theorem dX10_ahead_21 : decode cX10_ahead 21 = .ok (.iload_n 2, 1) := by decide +kernel
theorem dX10_ahead_22 : decode cX10_ahead 22 = .ok (.invokevirtual 299, 3) := by decide +kernel
theorem dX10_ahead_25 : decode cX10_ahead 25 = .ok (.ifCond .ne 6, 3) := by decide +kernel
theorem dX10_ahead_28 : decode cX10_ahead 28 = .ok (.bipush (-3), 2) := by decide +kernel
theorem dX10_ahead_30 : decode cX10_ahead 30 = .ok (.ireturn, 1) := by decide +kernel
theorem dX10_ahead_31 : decode cX10_ahead 31 = .ok (.aload_n 0, 1) := by decide +kernel
theorem dX10_ahead_32 : decode cX10_ahead 32 = .ok (.getfield 70, 3) := by decide +kernel
theorem dX10_ahead_35 : decode cX10_ahead 35 = .ok (.getfield 336, 3) := by decide +kernel
theorem dX10_ahead_38 : decode cX10_ahead 38 = .ok (.iconst 1, 1) := by decide +kernel
theorem dX10_ahead_39 : decode cX10_ahead 39 = .ok (.iload_n 1, 1) := by decide +kernel
theorem dX10_ahead_40 : decode cX10_ahead 40 = .ok (.ishl, 1) := by decide +kernel
theorem dX10_ahead_41 : decode cX10_ahead 41 = .ok (.iand, 1) := by decide +kernel
theorem dX10_ahead_42 : decode cX10_ahead 42 = .ok (.ifCond .ne 6, 3) := by decide +kernel
theorem dX10_ahead_45 : decode cX10_ahead 45 = .ok (.bipush (-2), 2) := by decide +kernel
theorem dX10_ahead_47 : decode cX10_ahead 47 = .ok (.ireturn, 1) := by decide +kernel
theorem dX10_ahead_48 : decode cX10_ahead 48 = .ok (.aload_n 0, 1) := by decide +kernel
theorem dX10_ahead_49 : decode cX10_ahead 49 = .ok (.getfield 70, 3) := by decide +kernel
theorem dX10_ahead_52 : decode cX10_ahead 52 = .ok (.getfield 353, 3) := by decide +kernel
theorem dX10_ahead_55 : decode cX10_ahead 55 = .ok (.iload_n 1, 1) := by decide +kernel
theorem dX10_ahead_56 : decode cX10_ahead 56 = .ok (.iaload, 1) := by decide +kernel
theorem dX10_ahead_57 : decode cX10_ahead 57 = .ok (.ireturn, 1) := by decide +kernel
theorem dX10_fewest_0 : decode cX10_fewest 0 = .ok (.iload_n 1, 1) := by decide +kernel
theorem dX10_fewest_1 : decode cX10_fewest 1 = .ok (.invokestatic 296, 3) := by decide +kernel
theorem dX10_fewest_4 : decode cX10_fewest 4 = .ok (.ifCond .ne 5, 3) := by decide +kernel
theorem dX10_fewest_7 : decode cX10_fewest 7 = .ok (.iconst (-1), 1) := by decide +kernel
theorem dX10_fewest_8 : decode cX10_fewest 8 = .ok (.ireturn, 1) := by decide +kernel
theorem dX10_fewest_9 : decode cX10_fewest 9 = .ok (.aload_n 0, 1) := by decide +kernel
theorem dX10_fewest_10 : decode cX10_fewest 10 = .ok (.iload_n 1, 1) := by decide +kernel
theorem dX10_fewest_11 : decode cX10_fewest 11 = .ok (.invokevirtual 299, 3) := by decide +kernel
theorem dX10_fewest_14 : decode cX10_fewest 14 = .ok (.ifCond .ne 6, 3) := by decide +kernel
theorem dX10_fewest_17 : decode cX10_fewest 17 = .ok (.bipush (-3), 2) := by decide +kernel
theorem dX10_fewest_19 : decode cX10_fewest 19 = .ok (.ireturn, 1) := by decide +kernel
theorem dX10_fewest_20 : decode cX10_fewest 20 = .ok (.aload_n 0, 1) := by decide +kernel
theorem dX10_fewest_21 : decode cX10_fewest 21 = .ok (.getfield 70, 3) := by decide +kernel
theorem dX10_fewest_24 : decode cX10_fewest 24 = .ok (.invokevirtual 356, 3) := by decide +kernel
theorem dX10_fewest_27 : decode cX10_fewest 27 = .ok (.istore_n 2, 1) := by decide +kernel
theorem dX10_fewest_28 : decode cX10_fewest 28 = .ok (.iload_n 2, 1) := by decide +kernel
theorem dX10_fewest_29 : decode cX10_fewest 29 = .ok (.ifCond .ge 6, 3) := by decide +kernel
theorem dX10_fewest_32 : decode cX10_fewest 32 = .ok (.bipush (-2), 2) := by decide +kernel
theorem dX10_fewest_34 : decode cX10_fewest 34 = .ok (.ireturn, 1) := by decide +kernel
theorem dX10_fewest_35 : decode cX10_fewest 35 = .ok (.aload_n 0, 1) := by decide +kernel
theorem dX10_fewest_36 : decode cX10_fewest 36 = .ok (.getfield 19, 3) := by decide +kernel
theorem dX10_fewest_39 : decode cX10_fewest 39 = .ok (.iload_n 2, 1) := by decide +kernel
theorem dX10_fewest_40 : decode cX10_fewest 40 = .ok (.i2l, 1) := by decide +kernel
theorem dX10_fewest_41 : decode cX10_fewest 41 = .ok (.invokevirtual 233, 3) := by decide +kernel
theorem dX10_fewest_44 : decode cX10_fewest 44 = .ok (.iload_n 2, 1) := by decide +kernel
theorem dX10_fewest_45 : decode cX10_fewest 45 = .ok (.invokestatic 322, 3) := by decide +kernel
theorem dX10_fewest_48 : decode cX10_fewest 48 = .ok (.ireturn, 1) := by decide +kernel
theorem dX10_sorts_0 : decode cX10_sorts 0 = .ok (.iload_n 1, 1) := by decide +kernel
theorem dX10_sorts_1 : decode cX10_sorts 1 = .ok (.invokestatic 296, 3) := by decide +kernel
theorem dX10_sorts_4 : decode cX10_sorts 4 = .ok (.ifCond .ne 5, 3) := by decide +kernel
theorem dX10_sorts_7 : decode cX10_sorts 7 = .ok (.iconst (-1), 1) := by decide +kernel
theorem dX10_sorts_8 : decode cX10_sorts 8 = .ok (.ireturn, 1) := by decide +kernel
theorem dX10_sorts_9 : decode cX10_sorts 9 = .ok (.iconst 0, 1) := by decide +kernel
theorem dX10_sorts_10 : decode cX10_sorts 10 = .ok (.istore_n 2, 1) := by decide +kernel
theorem dX10_sorts_11 : decode cX10_sorts 11 = .ok (.iconst 0, 1) := by decide +kernel
theorem dX10_sorts_12 : decode cX10_sorts 12 = .ok (.istore_n 3, 1) := by decide +kernel
theorem dX10_sorts_13 : decode cX10_sorts 13 = .ok (.iconst (-1), 1) := by decide +kernel
theorem dX10_sorts_14 : decode cX10_sorts 14 = .ok (.istore 4, 2) := by decide +kernel
theorem dX10_sorts_16 : decode cX10_sorts 16 = .ok (.iconst 0, 1) := by decide +kernel
theorem dX10_sorts_17 : decode cX10_sorts 17 = .ok (.istore 5, 2) := by decide +kernel
theorem dX10_sorts_19 : decode cX10_sorts 19 = .ok (.iload 5, 2) := by decide +kernel
theorem dX10_sorts_21 : decode cX10_sorts 21 = .ok (.iconst 4, 1) := by decide +kernel
theorem dX10_sorts_22 : decode cX10_sorts 22 = .ok (.if_icmp .ge 62, 3) := by decide +kernel
theorem dX10_sorts_25 : decode cX10_sorts 25 = .ok (.aload_n 0, 1) := by decide +kernel
theorem dX10_sorts_26 : decode cX10_sorts 26 = .ok (.getfield 70, 3) := by decide +kernel
theorem dX10_sorts_29 : decode cX10_sorts 29 = .ok (.aload_n 0, 1) := by decide +kernel
theorem dX10_sorts_30 : decode cX10_sorts 30 = .ok (.getfield 26, 3) := by decide +kernel
theorem dX10_sorts_33 : decode cX10_sorts 33 = .ok (.iload 5, 2) := by decide +kernel
theorem dX10_sorts_35 : decode cX10_sorts 35 = .ok (.iload_n 1, 1) := by decide +kernel
theorem dX10_sorts_36 : decode cX10_sorts 36 = .ok (.invokevirtual 292, 3) := by decide +kernel
theorem dX10_sorts_39 : decode cX10_sorts 39 = .ok (.ifCond .ne 6, 3) := by decide +kernel
theorem dX10_sorts_42 : decode cX10_sorts 42 = .ok (.bipush (-3), 2) := by decide +kernel
theorem dX10_sorts_44 : decode cX10_sorts 44 = .ok (.ireturn, 1) := by decide +kernel
theorem dX10_sorts_45 : decode cX10_sorts 45 = .ok (.aload_n 0, 1) := by decide +kernel
theorem dX10_sorts_46 : decode cX10_sorts 46 = .ok (.getfield 70, 3) := by decide +kernel
theorem dX10_sorts_49 : decode cX10_sorts 49 = .ok (.invokevirtual 307, 3) := by decide +kernel
theorem dX10_sorts_52 : decode cX10_sorts 52 = .ok (.istore 6, 2) := by decide +kernel
theorem dX10_sorts_54 : decode cX10_sorts 54 = .ok (.iload_n 2, 1) := by decide +kernel
theorem dX10_sorts_55 : decode cX10_sorts 55 = .ok (.iload 6, 2) := by decide +kernel
theorem dX10_sorts_57 : decode cX10_sorts 57 = .ok (.iconst 4, 1) := by decide +kernel
theorem dX10_sorts_58 : decode cX10_sorts 58 = .ok (.iload 5, 2) := by decide +kernel
theorem dX10_sorts_60 : decode cX10_sorts 60 = .ok (.imul, 1) := by decide +kernel
theorem dX10_sorts_61 : decode cX10_sorts 61 = .ok (.ishl, 1) := by decide +kernel
theorem dX10_sorts_62 : decode cX10_sorts 62 = .ok (.ior, 1) := by decide +kernel
theorem dX10_sorts_63 : decode cX10_sorts 63 = .ok (.istore_n 2, 1) := by decide +kernel
theorem dX10_sorts_64 : decode cX10_sorts 64 = .ok (.iload 6, 2) := by decide +kernel
theorem dX10_sorts_66 : decode cX10_sorts 66 = .ok (.iload 4, 2) := by decide +kernel
theorem dX10_sorts_68 : decode cX10_sorts 68 = .ok (.if_icmp .le 10, 3) := by decide +kernel
theorem dX10_sorts_71 : decode cX10_sorts 71 = .ok (.iload 6, 2) := by decide +kernel
theorem dX10_sorts_73 : decode cX10_sorts 73 = .ok (.istore 4, 2) := by decide +kernel
theorem dX10_sorts_75 : decode cX10_sorts 75 = .ok (.iload 5, 2) := by decide +kernel
theorem dX10_sorts_77 : decode cX10_sorts 77 = .ok (.istore_n 3, 1) := by decide +kernel
theorem dX10_sorts_78 : decode cX10_sorts 78 = .ok (.iinc 5 1, 3) := by decide +kernel
theorem dX10_sorts_81 : decode cX10_sorts 81 = .ok (.goto (-62), 3) := by decide +kernel
theorem dX10_sorts_84 : decode cX10_sorts 84 = .ok (.aload_n 0, 1) := by decide +kernel
theorem dX10_sorts_85 : decode cX10_sorts 85 = .ok (.getfield 19, 3) := by decide +kernel
theorem dX10_sorts_88 : decode cX10_sorts 88 = .ok (.invokevirtual 212, 3) := by decide +kernel
theorem dX10_sorts_91 : decode cX10_sorts 91 = .ok (.iconst 0, 1) := by decide +kernel
theorem dX10_sorts_92 : decode cX10_sorts 92 = .ok (.istore 5, 2) := by decide +kernel
theorem dX10_sorts_94 : decode cX10_sorts 94 = .ok (.iload 5, 2) := by decide +kernel
theorem dX10_sorts_96 : decode cX10_sorts 96 = .ok (.iconst 4, 1) := by decide +kernel
theorem dX10_sorts_97 : decode cX10_sorts 97 = .ok (.if_icmp .ge 26, 3) := by decide +kernel
theorem dX10_sorts_100 : decode cX10_sorts 100 = .ok (.aload_n 0, 1) := by decide +kernel
theorem dX10_sorts_101 : decode cX10_sorts 101 = .ok (.getfield 19, 3) := by decide +kernel
theorem dX10_sorts_104 : decode cX10_sorts 104 = .ok (.iload_n 2, 1) := by decide +kernel
theorem dX10_sorts_105 : decode cX10_sorts 105 = .ok (.iconst 4, 1) := by decide +kernel
theorem dX10_sorts_106 : decode cX10_sorts 106 = .ok (.iload 5, 2) := by decide +kernel
theorem dX10_sorts_108 : decode cX10_sorts 108 = .ok (.imul, 1) := by decide +kernel
theorem dX10_sorts_109 : decode cX10_sorts 109 = .ok (.iushr, 1) := by decide +kernel
theorem dX10_sorts_110 : decode cX10_sorts 110 = .ok (.bipush 15, 2) := by decide +kernel
theorem dX10_sorts_112 : decode cX10_sorts 112 = .ok (.iand, 1) := by decide +kernel
theorem dX10_sorts_113 : decode cX10_sorts 113 = .ok (.i2l, 1) := by decide +kernel
theorem dX10_sorts_114 : decode cX10_sorts 114 = .ok (.invokevirtual 330, 3) := by decide +kernel
theorem dX10_sorts_117 : decode cX10_sorts 117 = .ok (.iinc 5 1, 3) := by decide +kernel
theorem dX10_sorts_120 : decode cX10_sorts 120 = .ok (.goto (-26), 3) := by decide +kernel
theorem dX10_sorts_123 : decode cX10_sorts 123 = .ok (.iload_n 3, 1) := by decide +kernel
theorem dX10_sorts_124 : decode cX10_sorts 124 = .ok (.ireturn, 1) := by decide +kernel
theorem dX10_flow_0 : decode cX10_flow 0 = .ok (.iload_n 1, 1) := by decide +kernel
theorem dX10_flow_1 : decode cX10_flow 1 = .ok (.invokestatic 296, 3) := by decide +kernel
theorem dX10_flow_4 : decode cX10_flow 4 = .ok (.ifCond .ne 5, 3) := by decide +kernel
theorem dX10_flow_7 : decode cX10_flow 7 = .ok (.iconst (-1), 1) := by decide +kernel
theorem dX10_flow_8 : decode cX10_flow 8 = .ok (.ireturn, 1) := by decide +kernel
theorem dX10_flow_9 : decode cX10_flow 9 = .ok (.aload_n 0, 1) := by decide +kernel
theorem dX10_flow_10 : decode cX10_flow 10 = .ok (.getfield 77, 3) := by decide +kernel
theorem dX10_flow_13 : decode cX10_flow 13 = .ok (.aload_n 0, 1) := by decide +kernel
theorem dX10_flow_14 : decode cX10_flow 14 = .ok (.getfield 26, 3) := by decide +kernel
theorem dX10_flow_17 : decode cX10_flow 17 = .ok (.aload_n 0, 1) := by decide +kernel
theorem dX10_flow_18 : decode cX10_flow 18 = .ok (.getfield 26, 3) := by decide +kernel
theorem dX10_flow_21 : decode cX10_flow 21 = .ok (.getfield 181, 3) := by decide +kernel
theorem dX10_flow_24 : decode cX10_flow 24 = .ok (.iconst 0, 1) := by decide +kernel
theorem dX10_flow_25 : decode cX10_flow 25 = .ok (.iaload, 1) := by decide +kernel
theorem dX10_flow_26 : decode cX10_flow 26 = .ok (.iload_n 1, 1) := by decide +kernel
theorem dX10_flow_27 : decode cX10_flow 27 = .ok (.invokevirtual 359, 3) := by decide +kernel
theorem dX10_flow_30 : decode cX10_flow 30 = .ok (.aload_n 0, 1) := by decide +kernel
theorem dX10_flow_31 : decode cX10_flow 31 = .ok (.getfield 19, 3) := by decide +kernel
theorem dX10_flow_34 : decode cX10_flow 34 = .ok (.aload_n 0, 1) := by decide +kernel
theorem dX10_flow_35 : decode cX10_flow 35 = .ok (.getfield 77, 3) := by decide +kernel
theorem dX10_flow_38 : decode cX10_flow 38 = .ok (.invokevirtual 363, 3) := by decide +kernel
theorem dX10_flow_41 : decode cX10_flow 41 = .ok (.i2l, 1) := by decide +kernel
theorem dX10_flow_42 : decode cX10_flow 42 = .ok (.invokevirtual 233, 3) := by decide +kernel
theorem dX10_flow_45 : decode cX10_flow 45 = .ok (.aload_n 0, 1) := by decide +kernel
theorem dX10_flow_46 : decode cX10_flow 46 = .ok (.getfield 77, 3) := by decide +kernel
theorem dX10_flow_49 : decode cX10_flow 49 = .ok (.invokevirtual 366, 3) := by decide +kernel
theorem dX10_flow_52 : decode cX10_flow 52 = .ok (.ireturn, 1) := by decide +kernel
theorem dX10_proof_0 : decode cX10_proof 0 = .ok (.iload_n 1, 1) := by decide +kernel
theorem dX10_proof_1 : decode cX10_proof 1 = .ok (.invokestatic 296, 3) := by decide +kernel
theorem dX10_proof_4 : decode cX10_proof 4 = .ok (.ifCond .ne 5, 3) := by decide +kernel
theorem dX10_proof_7 : decode cX10_proof 7 = .ok (.iconst (-1), 1) := by decide +kernel
theorem dX10_proof_8 : decode cX10_proof 8 = .ok (.ireturn, 1) := by decide +kernel
theorem dX10_proof_9 : decode cX10_proof 9 = .ok (.aload_n 0, 1) := by decide +kernel
theorem dX10_proof_10 : decode cX10_proof 10 = .ok (.getfield 77, 3) := by decide +kernel
theorem dX10_proof_13 : decode cX10_proof 13 = .ok (.aload_n 0, 1) := by decide +kernel
theorem dX10_proof_14 : decode cX10_proof 14 = .ok (.getfield 26, 3) := by decide +kernel
theorem dX10_proof_17 : decode cX10_proof 17 = .ok (.aload_n 0, 1) := by decide +kernel
theorem dX10_proof_18 : decode cX10_proof 18 = .ok (.getfield 26, 3) := by decide +kernel
theorem dX10_proof_21 : decode cX10_proof 21 = .ok (.getfield 181, 3) := by decide +kernel
theorem dX10_proof_24 : decode cX10_proof 24 = .ok (.iconst 0, 1) := by decide +kernel
theorem dX10_proof_25 : decode cX10_proof 25 = .ok (.iaload, 1) := by decide +kernel
theorem dX10_proof_26 : decode cX10_proof 26 = .ok (.iload_n 1, 1) := by decide +kernel
theorem dX10_proof_27 : decode cX10_proof 27 = .ok (.invokevirtual 359, 3) := by decide +kernel
theorem dX10_proof_30 : decode cX10_proof 30 = .ok (.aload_n 0, 1) := by decide +kernel
theorem dX10_proof_31 : decode cX10_proof 31 = .ok (.getfield 77, 3) := by decide +kernel
theorem dX10_proof_34 : decode cX10_proof 34 = .ok (.invokevirtual 369, 3) := by decide +kernel
theorem dX10_proof_37 : decode cX10_proof 37 = .ok (.istore_n 2, 1) := by decide +kernel
theorem dX10_proof_38 : decode cX10_proof 38 = .ok (.aload_n 0, 1) := by decide +kernel
theorem dX10_proof_39 : decode cX10_proof 39 = .ok (.getfield 19, 3) := by decide +kernel
theorem dX10_proof_42 : decode cX10_proof 42 = .ok (.aload_n 0, 1) := by decide +kernel
theorem dX10_proof_43 : decode cX10_proof 43 = .ok (.getfield 77, 3) := by decide +kernel
theorem dX10_proof_46 : decode cX10_proof 46 = .ok (.iload_n 2, 1) := by decide +kernel
theorem dX10_proof_47 : decode cX10_proof 47 = .ok (.invokevirtual 372, 3) := by decide +kernel
theorem dX10_proof_50 : decode cX10_proof 50 = .ok (.i2l, 1) := by decide +kernel
theorem dX10_proof_51 : decode cX10_proof 51 = .ok (.aload_n 0, 1) := by decide +kernel
theorem dX10_proof_52 : decode cX10_proof 52 = .ok (.getfield 77, 3) := by decide +kernel
theorem dX10_proof_55 : decode cX10_proof 55 = .ok (.iload_n 2, 1) := by decide +kernel
theorem dX10_proof_56 : decode cX10_proof 56 = .ok (.invokevirtual 375, 3) := by decide +kernel
theorem dX10_proof_59 : decode cX10_proof 59 = .ok (.i2l, 1) := by decide +kernel
theorem dX10_proof_60 : decode cX10_proof 60 = .ok (.invokevirtual 221, 3) := by decide +kernel
theorem dX10_proof_63 : decode cX10_proof 63 = .ok (.iload_n 2, 1) := by decide +kernel
theorem dX10_proof_64 : decode cX10_proof 64 = .ok (.ireturn, 1) := by decide +kernel
theorem dX10_gap_0 : decode cX10_gap 0 = .ok (.iload_n 1, 1) := by decide +kernel
theorem dX10_gap_1 : decode cX10_gap 1 = .ok (.ifCond .lt 15, 3) := by decide +kernel
theorem dX10_gap_4 : decode cX10_gap 4 = .ok (.iload_n 1, 1) := by decide +kernel
theorem dX10_gap_5 : decode cX10_gap 5 = .ok (.iconst 4, 1) := by decide +kernel
theorem dX10_gap_6 : decode cX10_gap 6 = .ok (.if_icmp .ge 10, 3) := by decide +kernel
theorem dX10_gap_9 : decode cX10_gap 9 = .ok (.iload_n 2, 1) := by decide +kernel
theorem dX10_gap_10 : decode cX10_gap 10 = .ok (.invokestatic 296, 3) := by decide +kernel
theorem dX10_gap_13 : decode cX10_gap 13 = .ok (.ifCond .ne 5, 3) := by decide +kernel
theorem dX10_gap_16 : decode cX10_gap 16 = .ok (.iconst (-1), 1) := by decide +kernel
theorem dX10_gap_17 : decode cX10_gap 17 = .ok (.ireturn, 1) := by decide +kernel
theorem dX10_gap_18 : decode cX10_gap 18 = .ok (.aload_n 0, 1) := by decide +kernel
theorem dX10_gap_19 : decode cX10_gap 19 = .ok (.getfield 77, 3) := by decide +kernel
theorem dX10_gap_22 : decode cX10_gap 22 = .ok (.aload_n 0, 1) := by decide +kernel
theorem dX10_gap_23 : decode cX10_gap 23 = .ok (.getfield 26, 3) := by decide +kernel
theorem dX10_gap_26 : decode cX10_gap 26 = .ok (.aload_n 0, 1) := by decide +kernel
theorem dX10_gap_27 : decode cX10_gap 27 = .ok (.getfield 26, 3) := by decide +kernel
theorem dX10_gap_30 : decode cX10_gap 30 = .ok (.getfield 181, 3) := by decide +kernel
theorem dX10_gap_33 : decode cX10_gap 33 = .ok (.iconst 0, 1) := by decide +kernel
theorem dX10_gap_34 : decode cX10_gap 34 = .ok (.iaload, 1) := by decide +kernel
theorem dX10_gap_35 : decode cX10_gap 35 = .ok (.iload_n 2, 1) := by decide +kernel
theorem dX10_gap_36 : decode cX10_gap 36 = .ok (.invokevirtual 359, 3) := by decide +kernel
theorem dX10_gap_39 : decode cX10_gap 39 = .ok (.aload_n 0, 1) := by decide +kernel
theorem dX10_gap_40 : decode cX10_gap 40 = .ok (.getfield 77, 3) := by decide +kernel
theorem dX10_gap_43 : decode cX10_gap 43 = .ok (.invokevirtual 366, 3) := by decide +kernel
theorem dX10_gap_46 : decode cX10_gap 46 = .ok (.istore_n 3, 1) := by decide +kernel
theorem dX10_gap_47 : decode cX10_gap 47 = .ok (.aload_n 0, 1) := by decide +kernel
theorem dX10_gap_48 : decode cX10_gap 48 = .ok (.getfield 77, 3) := by decide +kernel
theorem dX10_gap_51 : decode cX10_gap 51 = .ok (.aload_n 0, 1) := by decide +kernel
theorem dX10_gap_52 : decode cX10_gap 52 = .ok (.getfield 26, 3) := by decide +kernel
theorem dX10_gap_55 : decode cX10_gap 55 = .ok (.iload_n 1, 1) := by decide +kernel
theorem dX10_gap_56 : decode cX10_gap 56 = .ok (.iload_n 2, 1) := by decide +kernel
theorem dX10_gap_57 : decode cX10_gap 57 = .ok (.invokevirtual 359, 3) := by decide +kernel
theorem dX10_gap_60 : decode cX10_gap 60 = .ok (.aload_n 0, 1) := by decide +kernel
theorem dX10_gap_61 : decode cX10_gap 61 = .ok (.getfield 77, 3) := by decide +kernel
theorem dX10_gap_64 : decode cX10_gap 64 = .ok (.invokevirtual 366, 3) := by decide +kernel
theorem dX10_gap_67 : decode cX10_gap 67 = .ok (.iload_n 3, 1) := by decide +kernel
theorem dX10_gap_68 : decode cX10_gap 68 = .ok (.isub, 1) := by decide +kernel
theorem dX10_gap_69 : decode cX10_gap 69 = .ok (.ireturn, 1) := by decide +kernel
theorem dX10_lowest_0 : decode cX10_lowest 0 = .ok (.aload_n 0, 1) := by decide +kernel
theorem dX10_lowest_1 : decode cX10_lowest 1 = .ok (.getfield 26, 3) := by decide +kernel
theorem dX10_lowest_4 : decode cX10_lowest 4 = .ok (.getfield 184, 3) := by decide +kernel
theorem dX10_lowest_7 : decode cX10_lowest 7 = .ok (.ifCond .ne 6, 3) := by decide +kernel
theorem dX10_lowest_10 : decode cX10_lowest 10 = .ok (.bipush (-2), 2) := by decide +kernel
theorem dX10_lowest_12 : decode cX10_lowest 12 = .ok (.ireturn, 1) := by decide +kernel
theorem dX10_lowest_13 : decode cX10_lowest 13 = .ok (.aload_n 0, 1) := by decide +kernel
theorem dX10_lowest_14 : decode cX10_lowest 14 = .ok (.getfield 26, 3) := by decide +kernel
theorem dX10_lowest_17 : decode cX10_lowest 17 = .ok (.invokevirtual 138, 3) := by decide +kernel
theorem dX10_lowest_20 : decode cX10_lowest 20 = .ok (.iconst 0, 1) := by decide +kernel
theorem dX10_lowest_21 : decode cX10_lowest 21 = .ok (.istore_n 1, 1) := by decide +kernel
theorem dX10_lowest_22 : decode cX10_lowest 22 = .ok (.iconst 0, 1) := by decide +kernel
theorem dX10_lowest_23 : decode cX10_lowest 23 = .ok (.istore_n 2, 1) := by decide +kernel
theorem dX10_lowest_24 : decode cX10_lowest 24 = .ok (.iconst 0, 1) := by decide +kernel
theorem dX10_lowest_25 : decode cX10_lowest 25 = .ok (.istore_n 3, 1) := by decide +kernel
theorem dX10_lowest_26 : decode cX10_lowest 26 = .ok (.iload_n 3, 1) := by decide +kernel
theorem dX10_lowest_27 : decode cX10_lowest 27 = .ok (.aload_n 0, 1) := by decide +kernel
theorem dX10_lowest_28 : decode cX10_lowest 28 = .ok (.getfield 26, 3) := by decide +kernel
theorem dX10_lowest_31 : decode cX10_lowest 31 = .ok (.getfield 184, 3) := by decide +kernel
theorem dX10_lowest_34 : decode cX10_lowest 34 = .ok (.if_icmp .ge 61, 3) := by decide +kernel
theorem dX10_lowest_37 : decode cX10_lowest 37 = .ok (.aload_n 0, 1) := by decide +kernel
theorem dX10_lowest_38 : decode cX10_lowest 38 = .ok (.getfield 26, 3) := by decide +kernel
theorem dX10_lowest_41 : decode cX10_lowest 41 = .ok (.getfield 141, 3) := by decide +kernel
theorem dX10_lowest_44 : decode cX10_lowest 44 = .ok (.iload_n 3, 1) := by decide +kernel
theorem dX10_lowest_45 : decode cX10_lowest 45 = .ok (.iaload, 1) := by decide +kernel
theorem dX10_lowest_46 : decode cX10_lowest 46 = .ok (.aload_n 0, 1) := by decide +kernel
theorem dX10_lowest_47 : decode cX10_lowest 47 = .ok (.getfield 26, 3) := by decide +kernel
theorem dX10_lowest_50 : decode cX10_lowest 50 = .ok (.getfield 141, 3) := by decide +kernel
theorem dX10_lowest_53 : decode cX10_lowest 53 = .ok (.iload_n 1, 1) := by decide +kernel
theorem dX10_lowest_54 : decode cX10_lowest 54 = .ok (.iaload, 1) := by decide +kernel
theorem dX10_lowest_55 : decode cX10_lowest 55 = .ok (.if_icmp .ge 7, 3) := by decide +kernel
theorem dX10_lowest_58 : decode cX10_lowest 58 = .ok (.iload_n 3, 1) := by decide +kernel
theorem dX10_lowest_59 : decode cX10_lowest 59 = .ok (.istore_n 1, 1) := by decide +kernel
theorem dX10_lowest_60 : decode cX10_lowest 60 = .ok (.iconst 0, 1) := by decide +kernel
theorem dX10_lowest_61 : decode cX10_lowest 61 = .ok (.istore_n 2, 1) := by decide +kernel
theorem dX10_lowest_62 : decode cX10_lowest 62 = .ok (.aload_n 0, 1) := by decide +kernel
theorem dX10_lowest_63 : decode cX10_lowest 63 = .ok (.getfield 26, 3) := by decide +kernel
theorem dX10_lowest_66 : decode cX10_lowest 66 = .ok (.getfield 141, 3) := by decide +kernel
theorem dX10_lowest_69 : decode cX10_lowest 69 = .ok (.iload_n 3, 1) := by decide +kernel
theorem dX10_lowest_70 : decode cX10_lowest 70 = .ok (.iaload, 1) := by decide +kernel
theorem dX10_lowest_71 : decode cX10_lowest 71 = .ok (.aload_n 0, 1) := by decide +kernel
theorem dX10_lowest_72 : decode cX10_lowest 72 = .ok (.getfield 26, 3) := by decide +kernel
theorem dX10_lowest_75 : decode cX10_lowest 75 = .ok (.getfield 141, 3) := by decide +kernel
theorem dX10_lowest_78 : decode cX10_lowest 78 = .ok (.iload_n 1, 1) := by decide +kernel
theorem dX10_lowest_79 : decode cX10_lowest 79 = .ok (.iaload, 1) := by decide +kernel
theorem dX10_lowest_80 : decode cX10_lowest 80 = .ok (.if_icmp .ne 9, 3) := by decide +kernel
theorem dX10_lowest_83 : decode cX10_lowest 83 = .ok (.iload_n 2, 1) := by decide +kernel
theorem dX10_lowest_84 : decode cX10_lowest 84 = .ok (.iconst 1, 1) := by decide +kernel
theorem dX10_lowest_85 : decode cX10_lowest 85 = .ok (.iload_n 3, 1) := by decide +kernel
theorem dX10_lowest_86 : decode cX10_lowest 86 = .ok (.ishl, 1) := by decide +kernel
theorem dX10_lowest_87 : decode cX10_lowest 87 = .ok (.ior, 1) := by decide +kernel
theorem dX10_lowest_88 : decode cX10_lowest 88 = .ok (.istore_n 2, 1) := by decide +kernel
theorem dX10_lowest_89 : decode cX10_lowest 89 = .ok (.iinc 3 1, 3) := by decide +kernel
theorem dX10_lowest_92 : decode cX10_lowest 92 = .ok (.goto (-66), 3) := by decide +kernel
theorem dX10_lowest_95 : decode cX10_lowest 95 = .ok (.aload_n 0, 1) := by decide +kernel
theorem dX10_lowest_96 : decode cX10_lowest 96 = .ok (.getfield 19, 3) := by decide +kernel
theorem dX10_lowest_99 : decode cX10_lowest 99 = .ok (.iload_n 2, 1) := by decide +kernel
theorem dX10_lowest_100 : decode cX10_lowest 100 = .ok (.i2l, 1) := by decide +kernel
theorem dX10_lowest_101 : decode cX10_lowest 101 = .ok (.aload_n 0, 1) := by decide +kernel
theorem dX10_lowest_102 : decode cX10_lowest 102 = .ok (.getfield 26, 3) := by decide +kernel
theorem dX10_lowest_105 : decode cX10_lowest 105 = .ok (.iload_n 2, 1) := by decide +kernel
theorem dX10_lowest_106 : decode cX10_lowest 106 = .ok (.invokevirtual 378, 3) := by decide +kernel
theorem dX10_lowest_109 : decode cX10_lowest 109 = .ok (.i2l, 1) := by decide +kernel
theorem dX10_lowest_110 : decode cX10_lowest 110 = .ok (.invokevirtual 221, 3) := by decide +kernel
theorem dX10_lowest_113 : decode cX10_lowest 113 = .ok (.iload_n 1, 1) := by decide +kernel
theorem dX10_lowest_114 : decode cX10_lowest 114 = .ok (.ireturn, 1) := by decide +kernel
theorem dX10_lapse_0 : decode cX10_lapse 0 = .ok (.iload_n 1, 1) := by decide +kernel
theorem dX10_lapse_1 : decode cX10_lapse 1 = .ok (.invokestatic 381, 3) := by decide +kernel
theorem dX10_lapse_4 : decode cX10_lapse 4 = .ok (.ifCond .ne 5, 3) := by decide +kernel
theorem dX10_lapse_7 : decode cX10_lapse 7 = .ok (.iconst (-1), 1) := by decide +kernel
theorem dX10_lapse_8 : decode cX10_lapse 8 = .ok (.ireturn, 1) := by decide +kernel
theorem dX10_lapse_9 : decode cX10_lapse 9 = .ok (.aload_n 0, 1) := by decide +kernel
theorem dX10_lapse_10 : decode cX10_lapse 10 = .ok (.getfield 30, 3) := by decide +kernel
theorem dX10_lapse_13 : decode cX10_lapse 13 = .ok (.aload_n 0, 1) := by decide +kernel
theorem dX10_lapse_14 : decode cX10_lapse 14 = .ok (.getfield 26, 3) := by decide +kernel
theorem dX10_lapse_17 : decode cX10_lapse 17 = .ok (.invokevirtual 250, 3) := by decide +kernel
theorem dX10_lapse_20 : decode cX10_lapse 20 = .ok (.aload_n 0, 1) := by decide +kernel
theorem dX10_lapse_21 : decode cX10_lapse 21 = .ok (.getfield 84, 3) := by decide +kernel
theorem dX10_lapse_24 : decode cX10_lapse 24 = .ok (.aload_n 0, 1) := by decide +kernel
theorem dX10_lapse_25 : decode cX10_lapse 25 = .ok (.getfield 30, 3) := by decide +kernel
theorem dX10_lapse_28 : decode cX10_lapse 28 = .ok (.aload_n 0, 1) := by decide +kernel
theorem dX10_lapse_29 : decode cX10_lapse 29 = .ok (.getfield 49, 3) := by decide +kernel
theorem dX10_lapse_32 : decode cX10_lapse 32 = .ok (.iload_n 1, 1) := by decide +kernel
theorem dX10_lapse_33 : decode cX10_lapse 33 = .ok (.invokevirtual 384, 3) := by decide +kernel
theorem dX10_lapse_36 : decode cX10_lapse 36 = .ok (.aload_n 0, 1) := by decide +kernel
theorem dX10_lapse_37 : decode cX10_lapse 37 = .ok (.getfield 19, 3) := by decide +kernel
theorem dX10_lapse_40 : decode cX10_lapse 40 = .ok (.aload_n 0, 1) := by decide +kernel
theorem dX10_lapse_41 : decode cX10_lapse 41 = .ok (.getfield 30, 3) := by decide +kernel
theorem dX10_lapse_44 : decode cX10_lapse 44 = .ok (.aload_n 0, 1) := by decide +kernel
theorem dX10_lapse_45 : decode cX10_lapse 45 = .ok (.getfield 84, 3) := by decide +kernel
theorem dX10_lapse_48 : decode cX10_lapse 48 = .ok (.getfield 388, 3) := by decide +kernel
theorem dX10_lapse_51 : decode cX10_lapse 51 = .ok (.invokevirtual 391, 3) := by decide +kernel
theorem dX10_lapse_54 : decode cX10_lapse 54 = .ok (.i2l, 1) := by decide +kernel
theorem dX10_lapse_55 : decode cX10_lapse 55 = .ok (.invokevirtual 233, 3) := by decide +kernel
theorem dX10_lapse_58 : decode cX10_lapse 58 = .ok (.aload_n 0, 1) := by decide +kernel
theorem dX10_lapse_59 : decode cX10_lapse 59 = .ok (.getfield 84, 3) := by decide +kernel
theorem dX10_lapse_62 : decode cX10_lapse 62 = .ok (.getfield 388, 3) := by decide +kernel
theorem dX10_lapse_65 : decode cX10_lapse 65 = .ok (.ireturn, 1) := by decide +kernel
theorem dX10_isSpan_0 : decode cX10_isSpan 0 = .ok (.iload_n 0, 1) := by decide +kernel
theorem dX10_isSpan_1 : decode cX10_isSpan 1 = .ok (.ifCond .lt 13, 3) := by decide +kernel
theorem dX10_isSpan_4 : decode cX10_isSpan 4 = .ok (.iload_n 0, 1) := by decide +kernel
theorem dX10_isSpan_5 : decode cX10_isSpan 5 = .ok (.bipush 60, 2) := by decide +kernel
theorem dX10_isSpan_7 : decode cX10_isSpan 7 = .ok (.if_icmp .gt 7, 3) := by decide +kernel
theorem dX10_isSpan_10 : decode cX10_isSpan 10 = .ok (.iconst 1, 1) := by decide +kernel
theorem dX10_isSpan_11 : decode cX10_isSpan 11 = .ok (.goto 4, 3) := by decide +kernel
theorem dX10_isSpan_14 : decode cX10_isSpan 14 = .ok (.iconst 0, 1) := by decide +kernel
theorem dX10_isSpan_15 : decode cX10_isSpan 15 = .ok (.ireturn, 1) := by decide +kernel
theorem dX10_days_0 : decode cX10_days 0 = .ok (.iload_n 1, 1) := by decide +kernel
theorem dX10_days_1 : decode cX10_days 1 = .ok (.invokestatic 381, 3) := by decide +kernel
theorem dX10_days_4 : decode cX10_days 4 = .ok (.ifCond .ne 5, 3) := by decide +kernel
theorem dX10_days_7 : decode cX10_days 7 = .ok (.iconst (-1), 1) := by decide +kernel
theorem dX10_days_8 : decode cX10_days 8 = .ok (.ireturn, 1) := by decide +kernel
theorem dX10_days_9 : decode cX10_days 9 = .ok (.aload_n 0, 1) := by decide +kernel
theorem dX10_days_10 : decode cX10_days 10 = .ok (.getfield 84, 3) := by decide +kernel
theorem dX10_days_13 : decode cX10_days 13 = .ok (.aload_n 0, 1) := by decide +kernel
theorem dX10_days_14 : decode cX10_days 14 = .ok (.getfield 26, 3) := by decide +kernel
theorem dX10_days_17 : decode cX10_days 17 = .ok (.aload_n 0, 1) := by decide +kernel
theorem dX10_days_18 : decode cX10_days 18 = .ok (.getfield 49, 3) := by decide +kernel
theorem dX10_days_21 : decode cX10_days 21 = .ok (.iload_n 1, 1) := by decide +kernel
theorem dX10_days_22 : decode cX10_days 22 = .ok (.invokevirtual 384, 3) := by decide +kernel
theorem dX10_days_25 : decode cX10_days 25 = .ok (.aload_n 0, 1) := by decide +kernel
theorem dX10_days_26 : decode cX10_days 26 = .ok (.invokevirtual 110, 3) := by decide +kernel
theorem dX10_days_29 : decode cX10_days 29 = .ok (.aload_n 0, 1) := by decide +kernel
theorem dX10_days_30 : decode cX10_days 30 = .ok (.getfield 19, 3) := by decide +kernel
theorem dX10_days_33 : decode cX10_days 33 = .ok (.aload_n 0, 1) := by decide +kernel
theorem dX10_days_34 : decode cX10_days 34 = .ok (.getfield 84, 3) := by decide +kernel
theorem dX10_days_37 : decode cX10_days 37 = .ok (.getfield 394, 3) := by decide +kernel
theorem dX10_days_40 : decode cX10_days 40 = .ok (.i2l, 1) := by decide +kernel
theorem dX10_days_41 : decode cX10_days 41 = .ok (.aload_n 0, 1) := by decide +kernel
theorem dX10_days_42 : decode cX10_days 42 = .ok (.getfield 84, 3) := by decide +kernel
theorem dX10_days_45 : decode cX10_days 45 = .ok (.getfield 388, 3) := by decide +kernel
theorem dX10_days_48 : decode cX10_days 48 = .ok (.invokestatic 322, 3) := by decide +kernel
theorem dX10_days_51 : decode cX10_days 51 = .ok (.i2l, 1) := by decide +kernel
theorem dX10_days_52 : decode cX10_days 52 = .ok (.invokevirtual 221, 3) := by decide +kernel
theorem dX10_days_55 : decode cX10_days 55 = .ok (.aload_n 0, 1) := by decide +kernel
theorem dX10_days_56 : decode cX10_days 56 = .ok (.getfield 84, 3) := by decide +kernel
theorem dX10_days_59 : decode cX10_days 59 = .ok (.getfield 396, 3) := by decide +kernel
theorem dX10_days_62 : decode cX10_days 62 = .ok (.ireturn, 1) := by decide +kernel
theorem dX10_best_0 : decode cX10_best 0 = .ok (.iload_n 1, 1) := by decide +kernel
theorem dX10_best_1 : decode cX10_best 1 = .ok (.invokestatic 381, 3) := by decide +kernel
theorem dX10_best_4 : decode cX10_best 4 = .ok (.ifCond .ne 5, 3) := by decide +kernel
theorem dX10_best_7 : decode cX10_best 7 = .ok (.iconst (-1), 1) := by decide +kernel
theorem dX10_best_8 : decode cX10_best 8 = .ok (.ireturn, 1) := by decide +kernel
theorem dX10_best_9 : decode cX10_best 9 = .ok (.iconst 0, 1) := by decide +kernel
theorem dX10_best_10 : decode cX10_best 10 = .ok (.istore_n 2, 1) := by decide +kernel
theorem dX10_best_11 : decode cX10_best 11 = .ok (.iconst (-1), 1) := by decide +kernel
theorem dX10_best_12 : decode cX10_best 12 = .ok (.istore_n 3, 1) := by decide +kernel
theorem dX10_best_13 : decode cX10_best 13 = .ok (.aload_n 0, 1) := by decide +kernel
theorem dX10_best_14 : decode cX10_best 14 = .ok (.getfield 19, 3) := by decide +kernel
theorem dX10_best_17 : decode cX10_best 17 = .ok (.invokevirtual 212, 3) := by decide +kernel
theorem dX10_best_20 : decode cX10_best 20 = .ok (.iconst 0, 1) := by decide +kernel
theorem dX10_best_21 : decode cX10_best 21 = .ok (.istore 4, 2) := by decide +kernel
theorem dX10_best_23 : decode cX10_best 23 = .ok (.iload 4, 2) := by decide +kernel
theorem dX10_best_25 : decode cX10_best 25 = .ok (.iconst 4, 1) := by decide +kernel
theorem dX10_best_26 : decode cX10_best 26 = .ok (.if_icmp .ge 84, 3) := by decide +kernel
theorem dX10_best_29 : decode cX10_best 29 = .ok (.aload_n 0, 1) := by decide +kernel
theorem dX10_best_30 : decode cX10_best 30 = .ok (.getfield 30, 3) := by decide +kernel
theorem dX10_best_33 : decode cX10_best 33 = .ok (.aload_n 0, 1) := by decide +kernel
theorem dX10_best_34 : decode cX10_best 34 = .ok (.getfield 26, 3) := by decide +kernel
theorem dX10_best_37 : decode cX10_best 37 = .ok (.invokevirtual 250, 3) := by decide +kernel
theorem dX10_best_40 : decode cX10_best 40 = .ok (.aload_n 0, 1) := by decide +kernel
theorem dX10_best_41 : decode cX10_best 41 = .ok (.getfield 30, 3) := by decide +kernel
theorem dX10_best_44 : decode cX10_best 44 = .ok (.getfield 181, 3) := by decide +kernel
theorem dX10_best_47 : decode cX10_best 47 = .ok (.iconst 0, 1) := by decide +kernel
theorem dX10_best_48 : decode cX10_best 48 = .ok (.iload 4, 2) := by decide +kernel
theorem dX10_best_50 : decode cX10_best 50 = .ok (.iastore, 1) := by decide +kernel
theorem dX10_best_51 : decode cX10_best 51 = .ok (.aload_n 0, 1) := by decide +kernel
theorem dX10_best_52 : decode cX10_best 52 = .ok (.getfield 84, 3) := by decide +kernel
theorem dX10_best_55 : decode cX10_best 55 = .ok (.aload_n 0, 1) := by decide +kernel
theorem dX10_best_56 : decode cX10_best 56 = .ok (.getfield 30, 3) := by decide +kernel
theorem dX10_best_59 : decode cX10_best 59 = .ok (.aload_n 0, 1) := by decide +kernel
theorem dX10_best_60 : decode cX10_best 60 = .ok (.getfield 49, 3) := by decide +kernel
theorem dX10_best_63 : decode cX10_best 63 = .ok (.iload_n 1, 1) := by decide +kernel
theorem dX10_best_64 : decode cX10_best 64 = .ok (.invokevirtual 384, 3) := by decide +kernel
theorem dX10_best_67 : decode cX10_best 67 = .ok (.aload_n 0, 1) := by decide +kernel
theorem dX10_best_68 : decode cX10_best 68 = .ok (.getfield 19, 3) := by decide +kernel
theorem dX10_best_71 : decode cX10_best 71 = .ok (.aload_n 0, 1) := by decide +kernel
theorem dX10_best_72 : decode cX10_best 72 = .ok (.getfield 84, 3) := by decide +kernel
theorem dX10_best_75 : decode cX10_best 75 = .ok (.getfield 399, 3) := by decide +kernel
theorem dX10_best_78 : decode cX10_best 78 = .ok (.i2l, 1) := by decide +kernel
theorem dX10_best_79 : decode cX10_best 79 = .ok (.invokevirtual 330, 3) := by decide +kernel
theorem dX10_best_82 : decode cX10_best 82 = .ok (.aload_n 0, 1) := by decide +kernel
theorem dX10_best_83 : decode cX10_best 83 = .ok (.getfield 84, 3) := by decide +kernel
theorem dX10_best_86 : decode cX10_best 86 = .ok (.getfield 399, 3) := by decide +kernel
theorem dX10_best_89 : decode cX10_best 89 = .ok (.iload_n 3, 1) := by decide +kernel
theorem dX10_best_90 : decode cX10_best 90 = .ok (.if_icmp .le 14, 3) := by decide +kernel
theorem dX10_best_93 : decode cX10_best 93 = .ok (.aload_n 0, 1) := by decide +kernel
theorem dX10_best_94 : decode cX10_best 94 = .ok (.getfield 84, 3) := by decide +kernel
theorem dX10_best_97 : decode cX10_best 97 = .ok (.getfield 399, 3) := by decide +kernel
theorem dX10_best_100 : decode cX10_best 100 = .ok (.istore_n 3, 1) := by decide +kernel
theorem dX10_best_101 : decode cX10_best 101 = .ok (.iload 4, 2) := by decide +kernel
theorem dX10_best_103 : decode cX10_best 103 = .ok (.istore_n 2, 1) := by decide +kernel
theorem dX10_best_104 : decode cX10_best 104 = .ok (.iinc 4 1, 3) := by decide +kernel
theorem dX10_best_107 : decode cX10_best 107 = .ok (.goto (-84), 3) := by decide +kernel
theorem dX10_best_110 : decode cX10_best 110 = .ok (.iload_n 2, 1) := by decide +kernel
theorem dX10_best_111 : decode cX10_best 111 = .ok (.ireturn, 1) := by decide +kernel
theorem dX10_pays_0 : decode cX10_pays 0 = .ok (.aload_n 0, 1) := by decide +kernel
theorem dX10_pays_1 : decode cX10_pays 1 = .ok (.getfield 26, 3) := by decide +kernel
theorem dX10_pays_4 : decode cX10_pays 4 = .ok (.iload_n 1, 1) := by decide +kernel
theorem dX10_pays_5 : decode cX10_pays 5 = .ok (.invokevirtual 120, 3) := by decide +kernel
theorem dX10_pays_8 : decode cX10_pays 8 = .ok (.ifCond .eq 27, 3) := by decide +kernel
theorem dX10_pays_11 : decode cX10_pays 11 = .ok (.iload_n 2, 1) := by decide +kernel
theorem dX10_pays_12 : decode cX10_pays 12 = .ok (.ifCond .lt 23, 3) := by decide +kernel
theorem dX10_pays_15 : decode cX10_pays 15 = .ok (.iload_n 2, 1) := by decide +kernel
theorem dX10_pays_16 : decode cX10_pays 16 = .ok (.aload_n 0, 1) := by decide +kernel
theorem dX10_pays_17 : decode cX10_pays 17 = .ok (.getfield 26, 3) := by decide +kernel
theorem dX10_pays_20 : decode cX10_pays 20 = .ok (.getfield 126, 3) := by decide +kernel
theorem dX10_pays_23 : decode cX10_pays 23 = .ok (.iload_n 1, 1) := by decide +kernel
theorem dX10_pays_24 : decode cX10_pays 24 = .ok (.iaload, 1) := by decide +kernel
theorem dX10_pays_25 : decode cX10_pays 25 = .ok (.if_icmp .gt 10, 3) := by decide +kernel
theorem dX10_pays_28 : decode cX10_pays 28 = .ok (.iload_n 3, 1) := by decide +kernel
theorem dX10_pays_29 : decode cX10_pays 29 = .ok (.invokestatic 381, 3) := by decide +kernel
theorem dX10_pays_32 : decode cX10_pays 32 = .ok (.ifCond .ne 11, 3) := by decide +kernel
theorem dX10_pays_35 : decode cX10_pays 35 = .ok (.new 123, 3) := by decide +kernel
theorem dX10_pays_38 : decode cX10_pays 38 = .ok (.dup, 1) := by decide +kernel
theorem dX10_pays_39 : decode cX10_pays 39 = .ok (.invokespecial 125, 3) := by decide +kernel
theorem dX10_pays_42 : decode cX10_pays 42 = .ok (.athrow, 1) := by decide +kernel
theorem dX10_pays_43 : decode cX10_pays 43 = .ok (.aload_n 0, 1) := by decide +kernel
theorem dX10_pays_44 : decode cX10_pays 44 = .ok (.iload_n 1, 1) := by decide +kernel
theorem dX10_pays_45 : decode cX10_pays 45 = .ok (.iload_n 2, 1) := by decide +kernel
theorem dX10_pays_46 : decode cX10_pays 46 = .ok (.iload_n 3, 1) := by decide +kernel
theorem dX10_pays_47 : decode cX10_pays 47 = .ok (.invokevirtual 401, 3) := by decide +kernel
theorem dX10_pays_50 : decode cX10_pays 50 = .ok (.aload_n 0, 1) := by decide +kernel
theorem dX10_pays_51 : decode cX10_pays 51 = .ok (.iload_n 1, 1) := by decide +kernel
theorem dX10_pays_52 : decode cX10_pays 52 = .ok (.iconst 0, 1) := by decide +kernel
theorem dX10_pays_53 : decode cX10_pays 53 = .ok (.iload_n 3, 1) := by decide +kernel
theorem dX10_pays_54 : decode cX10_pays 54 = .ok (.invokevirtual 401, 3) := by decide +kernel
theorem dX10_pays_57 : decode cX10_pays 57 = .ok (.isub, 1) := by decide +kernel
theorem dX10_pays_58 : decode cX10_pays 58 = .ok (.ireturn, 1) := by decide +kernel
theorem dX10_wealthBehind_0 : decode cX10_wealthBehind 0 = .ok (.aload_n 0, 1) := by decide +kernel
theorem dX10_wealthBehind_1 : decode cX10_wealthBehind 1 = .ok (.getfield 30, 3) := by decide +kernel
theorem dX10_wealthBehind_4 : decode cX10_wealthBehind 4 = .ok (.aload_n 0, 1) := by decide +kernel
theorem dX10_wealthBehind_5 : decode cX10_wealthBehind 5 = .ok (.getfield 26, 3) := by decide +kernel
theorem dX10_wealthBehind_8 : decode cX10_wealthBehind 8 = .ok (.invokevirtual 250, 3) := by decide +kernel
theorem dX10_wealthBehind_11 : decode cX10_wealthBehind 11 = .ok (.aload_n 0, 1) := by decide +kernel
theorem dX10_wealthBehind_12 : decode cX10_wealthBehind 12 = .ok (.getfield 30, 3) := by decide +kernel
theorem dX10_wealthBehind_15 : decode cX10_wealthBehind 15 = .ok (.getfield 135, 3) := by decide +kernel
theorem dX10_wealthBehind_18 : decode cX10_wealthBehind 18 = .ok (.iload_n 1, 1) := by decide +kernel
theorem dX10_wealthBehind_19 : decode cX10_wealthBehind 19 = .ok (.iload_n 2, 1) := by decide +kernel
theorem dX10_wealthBehind_20 : decode cX10_wealthBehind 20 = .ok (.iastore, 1) := by decide +kernel
theorem dX10_wealthBehind_21 : decode cX10_wealthBehind 21 = .ok (.aload_n 0, 1) := by decide +kernel
theorem dX10_wealthBehind_22 : decode cX10_wealthBehind 22 = .ok (.getfield 84, 3) := by decide +kernel
theorem dX10_wealthBehind_25 : decode cX10_wealthBehind 25 = .ok (.aload_n 0, 1) := by decide +kernel
theorem dX10_wealthBehind_26 : decode cX10_wealthBehind 26 = .ok (.getfield 30, 3) := by decide +kernel
theorem dX10_wealthBehind_29 : decode cX10_wealthBehind 29 = .ok (.aload_n 0, 1) := by decide +kernel
theorem dX10_wealthBehind_30 : decode cX10_wealthBehind 30 = .ok (.getfield 49, 3) := by decide +kernel
theorem dX10_wealthBehind_33 : decode cX10_wealthBehind 33 = .ok (.iload_n 3, 1) := by decide +kernel
theorem dX10_wealthBehind_34 : decode cX10_wealthBehind 34 = .ok (.invokevirtual 384, 3) := by decide +kernel
theorem dX10_wealthBehind_37 : decode cX10_wealthBehind 37 = .ok (.aload_n 0, 1) := by decide +kernel
theorem dX10_wealthBehind_38 : decode cX10_wealthBehind 38 = .ok (.getfield 30, 3) := by decide +kernel
theorem dX10_wealthBehind_41 : decode cX10_wealthBehind 41 = .ok (.getfield 126, 3) := by decide +kernel
theorem dX10_wealthBehind_44 : decode cX10_wealthBehind 44 = .ok (.iload_n 1, 1) := by decide +kernel
theorem dX10_wealthBehind_45 : decode cX10_wealthBehind 45 = .ok (.iaload, 1) := by decide +kernel
theorem dX10_wealthBehind_46 : decode cX10_wealthBehind 46 = .ok (.aload_n 0, 1) := by decide +kernel
theorem dX10_wealthBehind_47 : decode cX10_wealthBehind 47 = .ok (.getfield 30, 3) := by decide +kernel
theorem dX10_wealthBehind_50 : decode cX10_wealthBehind 50 = .ok (.iload_n 1, 1) := by decide +kernel
theorem dX10_wealthBehind_51 : decode cX10_wealthBehind 51 = .ok (.invokevirtual 154, 3) := by decide +kernel
theorem dX10_wealthBehind_54 : decode cX10_wealthBehind 54 = .ok (.iadd, 1) := by decide +kernel
theorem dX10_wealthBehind_55 : decode cX10_wealthBehind 55 = .ok (.ireturn, 1) := by decide +kernel
theorem dX10_spread_0 : decode cX10_spread 0 = .ok (.aload_n 0, 1) := by decide +kernel
theorem dX10_spread_1 : decode cX10_spread 1 = .ok (.getfield 26, 3) := by decide +kernel
theorem dX10_spread_4 : decode cX10_spread 4 = .ok (.invokevirtual 405, 3) := by decide +kernel
theorem dX10_spread_7 : decode cX10_spread 7 = .ok (.istore_n 1, 1) := by decide +kernel
theorem dX10_spread_8 : decode cX10_spread 8 = .ok (.iload_n 1, 1) := by decide +kernel
theorem dX10_spread_9 : decode cX10_spread 9 = .ok (.ifCond .ne 6, 3) := by decide +kernel
theorem dX10_spread_12 : decode cX10_spread 12 = .ok (.bipush (-2), 2) := by decide +kernel
theorem dX10_spread_14 : decode cX10_spread 14 = .ok (.ireturn, 1) := by decide +kernel
theorem dX10_spread_15 : decode cX10_spread 15 = .ok (.lconst 0, 1) := by decide +kernel
theorem dX10_spread_16 : decode cX10_spread 16 = .ok (.lstore_n 2, 1) := by decide +kernel
theorem dX10_spread_17 : decode cX10_spread 17 = .ok (.aload_n 0, 1) := by decide +kernel
theorem dX10_spread_18 : decode cX10_spread 18 = .ok (.getfield 26, 3) := by decide +kernel
theorem dX10_spread_21 : decode cX10_spread 21 = .ok (.getfield 126, 3) := by decide +kernel
theorem dX10_spread_24 : decode cX10_spread 24 = .ok (.iconst 0, 1) := by decide +kernel
theorem dX10_spread_25 : decode cX10_spread 25 = .ok (.iaload, 1) := by decide +kernel
theorem dX10_spread_26 : decode cX10_spread 26 = .ok (.istore 4, 2) := by decide +kernel
theorem dX10_spread_28 : decode cX10_spread 28 = .ok (.aload_n 0, 1) := by decide +kernel
theorem dX10_spread_29 : decode cX10_spread 29 = .ok (.getfield 26, 3) := by decide +kernel
theorem dX10_spread_32 : decode cX10_spread 32 = .ok (.getfield 126, 3) := by decide +kernel
theorem dX10_spread_35 : decode cX10_spread 35 = .ok (.iconst 0, 1) := by decide +kernel
theorem dX10_spread_36 : decode cX10_spread 36 = .ok (.iaload, 1) := by decide +kernel
theorem dX10_spread_37 : decode cX10_spread 37 = .ok (.istore 5, 2) := by decide +kernel
theorem dX10_spread_39 : decode cX10_spread 39 = .ok (.iconst 0, 1) := by decide +kernel
theorem dX10_spread_40 : decode cX10_spread 40 = .ok (.istore 6, 2) := by decide +kernel
theorem dX10_spread_42 : decode cX10_spread 42 = .ok (.iload 6, 2) := by decide +kernel
theorem dX10_spread_44 : decode cX10_spread 44 = .ok (.aload_n 0, 1) := by decide +kernel
theorem dX10_spread_45 : decode cX10_spread 45 = .ok (.getfield 26, 3) := by decide +kernel
theorem dX10_spread_48 : decode cX10_spread 48 = .ok (.getfield 184, 3) := by decide +kernel
theorem dX10_spread_51 : decode cX10_spread 51 = .ok (.if_icmp .ge 87, 3) := by decide +kernel
theorem dX10_spread_54 : decode cX10_spread 54 = .ok (.iload 4, 2) := by decide +kernel
theorem dX10_spread_56 : decode cX10_spread 56 = .ok (.aload_n 0, 1) := by decide +kernel
theorem dX10_spread_57 : decode cX10_spread 57 = .ok (.getfield 26, 3) := by decide +kernel
theorem dX10_spread_60 : decode cX10_spread 60 = .ok (.getfield 126, 3) := by decide +kernel
theorem dX10_spread_63 : decode cX10_spread 63 = .ok (.iload 6, 2) := by decide +kernel
theorem dX10_spread_65 : decode cX10_spread 65 = .ok (.iaload, 1) := by decide +kernel
theorem dX10_spread_66 : decode cX10_spread 66 = .ok (.invokestatic 197, 3) := by decide +kernel
theorem dX10_spread_69 : decode cX10_spread 69 = .ok (.istore 4, 2) := by decide +kernel
theorem dX10_spread_71 : decode cX10_spread 71 = .ok (.iload 5, 2) := by decide +kernel
theorem dX10_spread_73 : decode cX10_spread 73 = .ok (.aload_n 0, 1) := by decide +kernel
theorem dX10_spread_74 : decode cX10_spread 74 = .ok (.getfield 26, 3) := by decide +kernel
theorem dX10_spread_77 : decode cX10_spread 77 = .ok (.getfield 126, 3) := by decide +kernel
theorem dX10_spread_80 : decode cX10_spread 80 = .ok (.iload 6, 2) := by decide +kernel
theorem dX10_spread_82 : decode cX10_spread 82 = .ok (.iaload, 1) := by decide +kernel
theorem dX10_spread_83 : decode cX10_spread 83 = .ok (.invokestatic 192, 3) := by decide +kernel
theorem dX10_spread_86 : decode cX10_spread 86 = .ok (.istore 5, 2) := by decide +kernel
theorem dX10_spread_88 : decode cX10_spread 88 = .ok (.iconst 0, 1) := by decide +kernel
theorem dX10_spread_89 : decode cX10_spread 89 = .ok (.istore 7, 2) := by decide +kernel
theorem dX10_spread_91 : decode cX10_spread 91 = .ok (.iload 7, 2) := by decide +kernel
theorem dX10_spread_93 : decode cX10_spread 93 = .ok (.iload 6, 2) := by decide +kernel
theorem dX10_spread_95 : decode cX10_spread 95 = .ok (.if_icmp .ge 37, 3) := by decide +kernel
theorem dX10_spread_98 : decode cX10_spread 98 = .ok (.lload_n 2, 1) := by decide +kernel
theorem dX10_spread_99 : decode cX10_spread 99 = .ok (.aload_n 0, 1) := by decide +kernel
theorem dX10_spread_100 : decode cX10_spread 100 = .ok (.getfield 26, 3) := by decide +kernel
theorem dX10_spread_103 : decode cX10_spread 103 = .ok (.getfield 126, 3) := by decide +kernel
theorem dX10_spread_106 : decode cX10_spread 106 = .ok (.iload 6, 2) := by decide +kernel
theorem dX10_spread_108 : decode cX10_spread 108 = .ok (.iaload, 1) := by decide +kernel
theorem dX10_spread_109 : decode cX10_spread 109 = .ok (.aload_n 0, 1) := by decide +kernel
theorem dX10_spread_110 : decode cX10_spread 110 = .ok (.getfield 26, 3) := by decide +kernel
theorem dX10_spread_113 : decode cX10_spread 113 = .ok (.getfield 126, 3) := by decide +kernel
theorem dX10_spread_116 : decode cX10_spread 116 = .ok (.iload 7, 2) := by decide +kernel
theorem dX10_spread_118 : decode cX10_spread 118 = .ok (.iaload, 1) := by decide +kernel
theorem dX10_spread_119 : decode cX10_spread 119 = .ok (.isub, 1) := by decide +kernel
theorem dX10_spread_120 : decode cX10_spread 120 = .ok (.invokestatic 408, 3) := by decide +kernel
theorem dX10_spread_123 : decode cX10_spread 123 = .ok (.i2l, 1) := by decide +kernel
theorem dX10_spread_124 : decode cX10_spread 124 = .ok (.ladd, 1) := by decide +kernel
theorem dX10_spread_125 : decode cX10_spread 125 = .ok (.lstore_n 2, 1) := by decide +kernel
theorem dX10_spread_126 : decode cX10_spread 126 = .ok (.iinc 7 1, 3) := by decide +kernel
theorem dX10_spread_129 : decode cX10_spread 129 = .ok (.goto (-38), 3) := by decide +kernel
theorem dX10_spread_132 : decode cX10_spread 132 = .ok (.iinc 6 1, 3) := by decide +kernel
theorem dX10_spread_135 : decode cX10_spread 135 = .ok (.goto (-93), 3) := by decide +kernel
theorem dX10_spread_138 : decode cX10_spread 138 = .ok (.aload_n 0, 1) := by decide +kernel
theorem dX10_spread_139 : decode cX10_spread 139 = .ok (.lload_n 2, 1) := by decide +kernel
theorem dX10_spread_140 : decode cX10_spread 140 = .ok (.aload_n 0, 1) := by decide +kernel
theorem dX10_spread_141 : decode cX10_spread 141 = .ok (.getfield 26, 3) := by decide +kernel
theorem dX10_spread_144 : decode cX10_spread 144 = .ok (.getfield 184, 3) := by decide +kernel
theorem dX10_spread_147 : decode cX10_spread 147 = .ok (.i2l, 1) := by decide +kernel
theorem dX10_spread_148 : decode cX10_spread 148 = .ok (.iload_n 1, 1) := by decide +kernel
theorem dX10_spread_149 : decode cX10_spread 149 = .ok (.i2l, 1) := by decide +kernel
theorem dX10_spread_150 : decode cX10_spread 150 = .ok (.lmul, 1) := by decide +kernel
theorem dX10_spread_151 : decode cX10_spread 151 = .ok (.invokevirtual 411, 3) := by decide +kernel
theorem dX10_spread_154 : decode cX10_spread 154 = .ok (.aload_n 0, 1) := by decide +kernel
theorem dX10_spread_155 : decode cX10_spread 155 = .ok (.getfield 19, 3) := by decide +kernel
theorem dX10_spread_158 : decode cX10_spread 158 = .ok (.iload 4, 2) := by decide +kernel
theorem dX10_spread_160 : decode cX10_spread 160 = .ok (.i2l, 1) := by decide +kernel
theorem dX10_spread_161 : decode cX10_spread 161 = .ok (.invokevirtual 330, 3) := by decide +kernel
theorem dX10_spread_164 : decode cX10_spread 164 = .ok (.aload_n 0, 1) := by decide +kernel
theorem dX10_spread_165 : decode cX10_spread 165 = .ok (.getfield 19, 3) := by decide +kernel
theorem dX10_spread_168 : decode cX10_spread 168 = .ok (.iload 5, 2) := by decide +kernel
theorem dX10_spread_170 : decode cX10_spread 170 = .ok (.i2l, 1) := by decide +kernel
theorem dX10_spread_171 : decode cX10_spread 171 = .ok (.invokevirtual 330, 3) := by decide +kernel
theorem dX10_spread_174 : decode cX10_spread 174 = .ok (.iconst 0, 1) := by decide +kernel
theorem dX10_spread_175 : decode cX10_spread 175 = .ok (.ireturn, 1) := by decide +kernel
theorem dX10_tellFraction_0 : decode cX10_tellFraction 0 = .ok (.lload_n 1, 1) := by decide +kernel
theorem dX10_tellFraction_1 : decode cX10_tellFraction 1 = .ok (.lload_n 3, 1) := by decide +kernel
theorem dX10_tellFraction_2 : decode cX10_tellFraction 2 = .ok (.invokestatic 414, 3) := by decide +kernel
theorem dX10_tellFraction_5 : decode cX10_tellFraction 5 = .ok (.lstore 5, 2) := by decide +kernel
theorem dX10_tellFraction_7 : decode cX10_tellFraction 7 = .ok (.lload 5, 2) := by decide +kernel
theorem dX10_tellFraction_9 : decode cX10_tellFraction 9 = .ok (.lconst 0, 1) := by decide +kernel
theorem dX10_tellFraction_10 : decode cX10_tellFraction 10 = .ok (.lcmp, 1) := by decide +kernel
theorem dX10_tellFraction_11 : decode cX10_tellFraction 11 = .ok (.ifCond .le 18, 3) := by decide +kernel
theorem dX10_tellFraction_14 : decode cX10_tellFraction 14 = .ok (.aload_n 0, 1) := by decide +kernel
theorem dX10_tellFraction_15 : decode cX10_tellFraction 15 = .ok (.getfield 19, 3) := by decide +kernel
theorem dX10_tellFraction_18 : decode cX10_tellFraction 18 = .ok (.lload_n 1, 1) := by decide +kernel
theorem dX10_tellFraction_19 : decode cX10_tellFraction 19 = .ok (.lload 5, 2) := by decide +kernel
theorem dX10_tellFraction_21 : decode cX10_tellFraction 21 = .ok (.ldiv, 1) := by decide +kernel
theorem dX10_tellFraction_22 : decode cX10_tellFraction 22 = .ok (.lload_n 3, 1) := by decide +kernel
theorem dX10_tellFraction_23 : decode cX10_tellFraction 23 = .ok (.lload 5, 2) := by decide +kernel
theorem dX10_tellFraction_25 : decode cX10_tellFraction 25 = .ok (.ldiv, 1) := by decide +kernel
theorem dX10_tellFraction_26 : decode cX10_tellFraction 26 = .ok (.invokevirtual 221, 3) := by decide +kernel
theorem dX10_tellFraction_29 : decode cX10_tellFraction 29 = .ok (.return_, 1) := by decide +kernel
theorem dX10_commonMeasure_0 : decode cX10_commonMeasure 0 = .ok (.lload_n 0, 1) := by decide +kernel
theorem dX10_commonMeasure_1 : decode cX10_commonMeasure 1 = .ok (.lstore 4, 2) := by decide +kernel
theorem dX10_commonMeasure_3 : decode cX10_commonMeasure 3 = .ok (.lload_n 2, 1) := by decide +kernel
theorem dX10_commonMeasure_4 : decode cX10_commonMeasure 4 = .ok (.lstore 6, 2) := by decide +kernel
theorem dX10_commonMeasure_6 : decode cX10_commonMeasure 6 = .ok (.iconst 0, 1) := by decide +kernel
theorem dX10_commonMeasure_7 : decode cX10_commonMeasure 7 = .ok (.istore 8, 2) := by decide +kernel
theorem dX10_commonMeasure_9 : decode cX10_commonMeasure 9 = .ok (.iload 8, 2) := by decide +kernel
theorem dX10_commonMeasure_11 : decode cX10_commonMeasure 11 = .ok (.sipush 1000, 3) := by decide +kernel
theorem dX10_commonMeasure_14 : decode cX10_commonMeasure 14 = .ok (.if_icmp .ge 31, 3) := by decide +kernel
theorem dX10_commonMeasure_17 : decode cX10_commonMeasure 17 = .ok (.lload 6, 2) := by decide +kernel
theorem dX10_commonMeasure_19 : decode cX10_commonMeasure 19 = .ok (.lconst 0, 1) := by decide +kernel
theorem dX10_commonMeasure_20 : decode cX10_commonMeasure 20 = .ok (.lcmp, 1) := by decide +kernel
theorem dX10_commonMeasure_21 : decode cX10_commonMeasure 21 = .ok (.ifCond .eq 24, 3) := by decide +kernel
theorem dX10_commonMeasure_24 : decode cX10_commonMeasure 24 = .ok (.lload 4, 2) := by decide +kernel
theorem dX10_commonMeasure_26 : decode cX10_commonMeasure 26 = .ok (.lload 6, 2) := by decide +kernel
theorem dX10_commonMeasure_28 : decode cX10_commonMeasure 28 = .ok (.lrem, 1) := by decide +kernel
theorem dX10_commonMeasure_29 : decode cX10_commonMeasure 29 = .ok (.lstore 9, 2) := by decide +kernel
theorem dX10_commonMeasure_31 : decode cX10_commonMeasure 31 = .ok (.lload 6, 2) := by decide +kernel
theorem dX10_commonMeasure_33 : decode cX10_commonMeasure 33 = .ok (.lstore 4, 2) := by decide +kernel
theorem dX10_commonMeasure_35 : decode cX10_commonMeasure 35 = .ok (.lload 9, 2) := by decide +kernel
theorem dX10_commonMeasure_37 : decode cX10_commonMeasure 37 = .ok (.lstore 6, 2) := by decide +kernel
theorem dX10_commonMeasure_39 : decode cX10_commonMeasure 39 = .ok (.iinc 8 1, 3) := by decide +kernel
theorem dX10_commonMeasure_42 : decode cX10_commonMeasure 42 = .ok (.goto (-33), 3) := by decide +kernel
theorem dX10_commonMeasure_45 : decode cX10_commonMeasure 45 = .ok (.lload 4, 2) := by decide +kernel
theorem dX10_commonMeasure_47 : decode cX10_commonMeasure 47 = .ok (.lreturn, 1) := by decide +kernel
theorem dX10_today_0 : decode cX10_today 0 = .ok (.aload_n 0, 1) := by decide +kernel
theorem dX10_today_1 : decode cX10_today 1 = .ok (.getfield 26, 3) := by decide +kernel
theorem dX10_today_4 : decode cX10_today 4 = .ok (.getfield 418, 3) := by decide +kernel
theorem dX10_today_7 : decode cX10_today 7 = .ok (.ireturn, 1) := by decide +kernel
theorem dX10_seed_0 : decode cX10_seed 0 = .ok (.aload_n 0, 1) := by decide +kernel
theorem dX10_seed_1 : decode cX10_seed 1 = .ok (.getfield 26, 3) := by decide +kernel
theorem dX10_seed_4 : decode cX10_seed 4 = .ok (.getfield 421, 3) := by decide +kernel
theorem dX10_seed_7 : decode cX10_seed 7 = .ok (.istore_n 2, 1) := by decide +kernel
theorem dX10_seed_8 : decode cX10_seed 8 = .ok (.aload_n 0, 1) := by decide +kernel
theorem dX10_seed_9 : decode cX10_seed 9 = .ok (.getfield 26, 3) := by decide +kernel
theorem dX10_seed_12 : decode cX10_seed 12 = .ok (.iload_n 1, 1) := by decide +kernel
theorem dX10_seed_13 : decode cX10_seed 13 = .ok (.putfield 421, 3) := by decide +kernel
theorem dX10_seed_16 : decode cX10_seed 16 = .ok (.iload_n 2, 1) := by decide +kernel
theorem dX10_seed_17 : decode cX10_seed 17 = .ok (.ireturn, 1) := by decide +kernel
theorem dX10_keep_0 : decode cX10_keep 0 = .ok (.iload_n 1, 1) := by decide +kernel
theorem dX10_keep_1 : decode cX10_keep 1 = .ok (.ifCond .ne 21, 3) := by decide +kernel
theorem dX10_keep_4 : decode cX10_keep 4 = .ok (.aload_n 0, 1) := by decide +kernel
theorem dX10_keep_5 : decode cX10_keep 5 = .ok (.getfield 33, 3) := by decide +kernel
theorem dX10_keep_8 : decode cX10_keep 8 = .ok (.aload_n 0, 1) := by decide +kernel
theorem dX10_keep_9 : decode cX10_keep 9 = .ok (.getfield 26, 3) := by decide +kernel
theorem dX10_keep_12 : decode cX10_keep 12 = .ok (.invokevirtual 250, 3) := by decide +kernel
theorem dX10_keep_15 : decode cX10_keep 15 = .ok (.aload_n 0, 1) := by decide +kernel
theorem dX10_keep_16 : decode cX10_keep 16 = .ok (.iconst 1, 1) := by decide +kernel
theorem dX10_keep_17 : decode cX10_keep 17 = .ok (.putfield 424, 3) := by decide +kernel
theorem dX10_keep_20 : decode cX10_keep 20 = .ok (.iconst 1, 1) := by decide +kernel
theorem dX10_keep_21 : decode cX10_keep 21 = .ok (.ireturn, 1) := by decide +kernel
theorem dX10_keep_22 : decode cX10_keep 22 = .ok (.iload_n 1, 1) := by decide +kernel
theorem dX10_keep_23 : decode cX10_keep 23 = .ok (.iconst 1, 1) := by decide +kernel
theorem dX10_keep_24 : decode cX10_keep 24 = .ok (.if_icmp .ne 21, 3) := by decide +kernel
theorem dX10_keep_27 : decode cX10_keep 27 = .ok (.aload_n 0, 1) := by decide +kernel
theorem dX10_keep_28 : decode cX10_keep 28 = .ok (.getfield 36, 3) := by decide +kernel
theorem dX10_keep_31 : decode cX10_keep 31 = .ok (.aload_n 0, 1) := by decide +kernel
theorem dX10_keep_32 : decode cX10_keep 32 = .ok (.getfield 26, 3) := by decide +kernel
theorem dX10_keep_35 : decode cX10_keep 35 = .ok (.invokevirtual 250, 3) := by decide +kernel
theorem dX10_keep_38 : decode cX10_keep 38 = .ok (.aload_n 0, 1) := by decide +kernel
theorem dX10_keep_39 : decode cX10_keep 39 = .ok (.iconst 1, 1) := by decide +kernel
theorem dX10_keep_40 : decode cX10_keep 40 = .ok (.putfield 428, 3) := by decide +kernel
theorem dX10_keep_43 : decode cX10_keep 43 = .ok (.iconst 1, 1) := by decide +kernel
theorem dX10_keep_44 : decode cX10_keep 44 = .ok (.ireturn, 1) := by decide +kernel
theorem dX10_keep_45 : decode cX10_keep 45 = .ok (.iconst 0, 1) := by decide +kernel
theorem dX10_keep_46 : decode cX10_keep 46 = .ok (.ireturn, 1) := by decide +kernel
theorem dX10_again_0 : decode cX10_again 0 = .ok (.iload_n 1, 1) := by decide +kernel
theorem dX10_again_1 : decode cX10_again 1 = .ok (.ifCond .ne 19, 3) := by decide +kernel
theorem dX10_again_4 : decode cX10_again 4 = .ok (.aload_n 0, 1) := by decide +kernel
theorem dX10_again_5 : decode cX10_again 5 = .ok (.getfield 424, 3) := by decide +kernel
theorem dX10_again_8 : decode cX10_again 8 = .ok (.ifCond .eq 12, 3) := by decide +kernel
theorem dX10_again_11 : decode cX10_again 11 = .ok (.aload_n 0, 1) := by decide +kernel
theorem dX10_again_12 : decode cX10_again 12 = .ok (.aload_n 0, 1) := by decide +kernel
theorem dX10_again_13 : decode cX10_again 13 = .ok (.getfield 33, 3) := by decide +kernel
theorem dX10_again_16 : decode cX10_again 16 = .ok (.invokevirtual 431, 3) := by decide +kernel
theorem dX10_again_19 : decode cX10_again 19 = .ok (.ireturn, 1) := by decide +kernel
theorem dX10_again_20 : decode cX10_again 20 = .ok (.iload_n 1, 1) := by decide +kernel
theorem dX10_again_21 : decode cX10_again 21 = .ok (.iconst 1, 1) := by decide +kernel
theorem dX10_again_22 : decode cX10_again 22 = .ok (.if_icmp .ne 19, 3) := by decide +kernel
theorem dX10_again_25 : decode cX10_again 25 = .ok (.aload_n 0, 1) := by decide +kernel
theorem dX10_again_26 : decode cX10_again 26 = .ok (.getfield 428, 3) := by decide +kernel
theorem dX10_again_29 : decode cX10_again 29 = .ok (.ifCond .eq 12, 3) := by decide +kernel
theorem dX10_again_32 : decode cX10_again 32 = .ok (.aload_n 0, 1) := by decide +kernel
theorem dX10_again_33 : decode cX10_again 33 = .ok (.aload_n 0, 1) := by decide +kernel
theorem dX10_again_34 : decode cX10_again 34 = .ok (.getfield 36, 3) := by decide +kernel
theorem dX10_again_37 : decode cX10_again 37 = .ok (.invokevirtual 431, 3) := by decide +kernel
theorem dX10_again_40 : decode cX10_again 40 = .ok (.ireturn, 1) := by decide +kernel
theorem dX10_again_41 : decode cX10_again 41 = .ok (.iconst 0, 1) := by decide +kernel
theorem dX10_again_42 : decode cX10_again 42 = .ok (.ireturn, 1) := by decide +kernel
theorem dX10_takeAgain_0 : decode cX10_takeAgain 0 = .ok (.aload_n 1, 1) := by decide +kernel
theorem dX10_takeAgain_1 : decode cX10_takeAgain 1 = .ok (.getfield 184, 3) := by decide +kernel
theorem dX10_takeAgain_4 : decode cX10_takeAgain 4 = .ok (.aload_n 0, 1) := by decide +kernel
theorem dX10_takeAgain_5 : decode cX10_takeAgain 5 = .ok (.getfield 26, 3) := by decide +kernel
theorem dX10_takeAgain_8 : decode cX10_takeAgain 8 = .ok (.getfield 184, 3) := by decide +kernel
theorem dX10_takeAgain_11 : decode cX10_takeAgain 11 = .ok (.if_icmp .ne 17, 3) := by decide +kernel
theorem dX10_takeAgain_14 : decode cX10_takeAgain 14 = .ok (.aload_n 1, 1) := by decide +kernel
theorem dX10_takeAgain_15 : decode cX10_takeAgain 15 = .ok (.getfield 435, 3) := by decide +kernel
theorem dX10_takeAgain_18 : decode cX10_takeAgain 18 = .ok (.aload_n 0, 1) := by decide +kernel
theorem dX10_takeAgain_19 : decode cX10_takeAgain 19 = .ok (.getfield 26, 3) := by decide +kernel
theorem dX10_takeAgain_22 : decode cX10_takeAgain 22 = .ok (.getfield 435, 3) := by decide +kernel
theorem dX10_takeAgain_25 : decode cX10_takeAgain 25 = .ok (.if_icmp .eq 5, 3) := by decide +kernel
theorem dX10_takeAgain_28 : decode cX10_takeAgain 28 = .ok (.iconst 0, 1) := by decide +kernel
theorem dX10_takeAgain_29 : decode cX10_takeAgain 29 = .ok (.ireturn, 1) := by decide +kernel
theorem dX10_takeAgain_30 : decode cX10_takeAgain 30 = .ok (.aload_n 0, 1) := by decide +kernel
theorem dX10_takeAgain_31 : decode cX10_takeAgain 31 = .ok (.getfield 26, 3) := by decide +kernel
theorem dX10_takeAgain_34 : decode cX10_takeAgain 34 = .ok (.aload_n 1, 1) := by decide +kernel
theorem dX10_takeAgain_35 : decode cX10_takeAgain 35 = .ok (.invokevirtual 250, 3) := by decide +kernel
theorem dX10_takeAgain_38 : decode cX10_takeAgain 38 = .ok (.aload_n 0, 1) := by decide +kernel
theorem dX10_takeAgain_39 : decode cX10_takeAgain 39 = .ok (.invokevirtual 110, 3) := by decide +kernel
theorem dX10_takeAgain_42 : decode cX10_takeAgain 42 = .ok (.iconst 1, 1) := by decide +kernel
theorem dX10_takeAgain_43 : decode cX10_takeAgain 43 = .ok (.ireturn, 1) := by decide +kernel
theorem dX10_count_0 : decode cX10_count 0 = .ok (.iload_n 1, 1) := by decide +kernel
theorem dX10_count_1 : decode cX10_count 1 = .ok (.tableswitch 108 0 7 #[47, 55, 63, 71, 76, 84, 92, 100], 47) := by decide +kernel
theorem dX10_count_48 : decode cX10_count 48 = .ok (.aload_n 0, 1) := by decide +kernel
theorem dX10_count_49 : decode cX10_count 49 = .ok (.getfield 26, 3) := by decide +kernel
theorem dX10_count_52 : decode cX10_count 52 = .ok (.getfield 184, 3) := by decide +kernel
theorem dX10_count_55 : decode cX10_count 55 = .ok (.ireturn, 1) := by decide +kernel
theorem dX10_count_56 : decode cX10_count 56 = .ok (.aload_n 0, 1) := by decide +kernel
theorem dX10_count_57 : decode cX10_count 57 = .ok (.getfield 26, 3) := by decide +kernel
theorem dX10_count_60 : decode cX10_count 60 = .ok (.getfield 435, 3) := by decide +kernel
theorem dX10_count_63 : decode cX10_count 63 = .ok (.ireturn, 1) := by decide +kernel
theorem dX10_count_64 : decode cX10_count 64 = .ok (.aload_n 0, 1) := by decide +kernel
theorem dX10_count_65 : decode cX10_count 65 = .ok (.getfield 26, 3) := by decide +kernel
theorem dX10_count_68 : decode cX10_count 68 = .ok (.invokevirtual 438, 3) := by decide +kernel
theorem dX10_count_71 : decode cX10_count 71 = .ok (.ireturn, 1) := by decide +kernel
theorem dX10_count_72 : decode cX10_count 72 = .ok (.aload_n 0, 1) := by decide +kernel
theorem dX10_count_73 : decode cX10_count 73 = .ok (.getfield 240, 3) := by decide +kernel
theorem dX10_count_76 : decode cX10_count 76 = .ok (.ireturn, 1) := by decide +kernel
theorem dX10_count_77 : decode cX10_count 77 = .ok (.aload_n 0, 1) := by decide +kernel
theorem dX10_count_78 : decode cX10_count 78 = .ok (.getfield 26, 3) := by decide +kernel
theorem dX10_count_81 : decode cX10_count 81 = .ok (.getfield 268, 3) := by decide +kernel
theorem dX10_count_84 : decode cX10_count 84 = .ok (.ireturn, 1) := by decide +kernel
theorem dX10_count_85 : decode cX10_count 85 = .ok (.aload_n 0, 1) := by decide +kernel
theorem dX10_count_86 : decode cX10_count 86 = .ok (.getfield 26, 3) := by decide +kernel
theorem dX10_count_89 : decode cX10_count 89 = .ok (.invokevirtual 405, 3) := by decide +kernel
theorem dX10_count_92 : decode cX10_count 92 = .ok (.ireturn, 1) := by decide +kernel
theorem dX10_count_93 : decode cX10_count 93 = .ok (.aload_n 0, 1) := by decide +kernel
theorem dX10_count_94 : decode cX10_count 94 = .ok (.getfield 19, 3) := by decide +kernel
theorem dX10_count_97 : decode cX10_count 97 = .ok (.getfield 441, 3) := by decide +kernel
theorem dX10_count_100 : decode cX10_count 100 = .ok (.ireturn, 1) := by decide +kernel
theorem dX10_count_101 : decode cX10_count 101 = .ok (.aload_n 0, 1) := by decide +kernel
theorem dX10_count_102 : decode cX10_count 102 = .ok (.getfield 12, 3) := by decide +kernel
theorem dX10_count_105 : decode cX10_count 105 = .ok (.invokevirtual 96, 3) := by decide +kernel
theorem dX10_count_108 : decode cX10_count 108 = .ok (.ireturn, 1) := by decide +kernel
theorem dX10_count_109 : decode cX10_count 109 = .ok (.iconst (-1), 1) := by decide +kernel
theorem dX10_count_110 : decode cX10_count 110 = .ok (.ireturn, 1) := by decide +kernel
theorem dX10_row_0 : decode cX10_row 0 = .ok (.iload_n 1, 1) := by decide +kernel
theorem dX10_row_1 : decode cX10_row 1 = .ok (.ifCond .lt 14, 3) := by decide +kernel
theorem dX10_row_4 : decode cX10_row 4 = .ok (.iload_n 1, 1) := by decide +kernel
theorem dX10_row_5 : decode cX10_row 5 = .ok (.aload_n 0, 1) := by decide +kernel
theorem dX10_row_6 : decode cX10_row 6 = .ok (.getfield 19, 3) := by decide +kernel
theorem dX10_row_9 : decode cX10_row 9 = .ok (.getfield 441, 3) := by decide +kernel
theorem dX10_row_12 : decode cX10_row 12 = .ok (.if_icmp .lt 11, 3) := by decide +kernel
theorem dX10_row_15 : decode cX10_row 15 = .ok (.new 123, 3) := by decide +kernel
theorem dX10_row_18 : decode cX10_row 18 = .ok (.dup, 1) := by decide +kernel
theorem dX10_row_19 : decode cX10_row 19 = .ok (.invokespecial 125, 3) := by decide +kernel
theorem dX10_row_22 : decode cX10_row 22 = .ok (.athrow, 1) := by decide +kernel
theorem dX10_row_23 : decode cX10_row 23 = .ok (.aload_n 0, 1) := by decide +kernel
theorem dX10_row_24 : decode cX10_row 24 = .ok (.getfield 19, 3) := by decide +kernel
theorem dX10_row_27 : decode cX10_row 27 = .ok (.getfield 442, 3) := by decide +kernel
theorem dX10_row_30 : decode cX10_row 30 = .ok (.iload_n 1, 1) := by decide +kernel
theorem dX10_row_31 : decode cX10_row 31 = .ok (.laload, 1) := by decide +kernel
theorem dX10_row_32 : decode cX10_row 32 = .ok (.lreturn, 1) := by decide +kernel
