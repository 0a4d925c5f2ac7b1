theorem kl_0 : kd 0 = (20, 17) := rfl
theorem kl_1 : kd 1 = (0, 10) := rfl
theorem kl_2 : kd 2 = (16, 2) := rfl
theorem kl_3 : kd 3 = (0, 80) := rfl
theorem kl_4 : kd 4 = (17, 2) := rfl
theorem kl_5 : kd 5 = (1, 10) := rfl
theorem kl_6 : kd 6 = (19, 2) := rfl
theorem kl_7 : kd 7 = (13, 3) := rfl
theorem kl_8 : kd 8 = (0, 40) := rfl
theorem kl_9 : kd 9 = (0, 40) := rfl
theorem kl_10 : kd 10 = (14, 8) := rfl
theorem kl_11 : kd 11 = (0, 40) := rfl
theorem kl_12 : kd 12 = (0, 40) := rfl
theorem kl_13 : kd 13 = (3, 5) := rfl
theorem kl_14 : kd 14 = (11, 3) := rfl
theorem kl_15 : kd 15 = (12, 3) := rfl
theorem kl_16 : kd 16 = (0, 10) := rfl
theorem kl_17 : kd 17 = (10, 5) := rfl
theorem kl_18 : kd 18 = (0, 10) := rfl
theorem kl_19 : kd 19 = (15, 15) := rfl
theorem kl_20 : kd 20 = (1, 3000) := rfl
theorem kl_21 : kd 21 = (1, 3000) := rfl
theorem kl_22 : kd 22 = (1, 3000) := rfl
theorem kl_23 : kd 23 = (1, 3000) := rfl
theorem kl_24 : kd 24 = (0, 3000) := rfl
theorem kl_25 : kd 25 = (0, 3000) := rfl
theorem kl_26 : kd 26 = (0, 8192) := rfl
theorem kl_27 : kd 27 = (0, 10) := rfl
theorem kl_28 : kd 28 = (18, 20) := rfl
theorem kl_29 : kd 29 = (0, 8) := rfl
theorem kl_30 : kd 30 = (0, 8) := rfl
theorem kl_31 : kd 31 = (0, 8) := rfl
theorem kl_32 : kd 32 = (0, 8) := rfl
theorem kl_33 : kd 33 = (0, 8) := rfl
theorem kl_34 : kd 34 = (0, 8) := rfl
theorem kl_35 : kd 35 = (0, 10) := rfl
theorem kl_36 : kd 36 = (0, 10) := rfl
theorem kl_37 : kd 37 = (0, 10) := rfl
theorem kl_38 : kd 38 = (0, 10) := rfl
theorem kl_39 : kd 39 = (0, 10) := rfl
theorem kl_40 : kd 40 = (0, 10) := rfl
theorem kl_41 : kd 41 = (0, 64) := rfl
theorem kl_42 : kd 42 = (0, 18) := rfl
theorem kl_43 : kd 43 = (0, 4) := rfl
theorem kl_44 : kd 44 = (18, 20) := rfl
theorem kl_45 : kd 45 = (0, 8) := rfl
theorem kl_46 : kd 46 = (0, 8) := rfl
theorem kl_47 : kd 47 = (0, 8) := rfl
theorem kl_48 : kd 48 = (0, 8) := rfl
theorem kl_49 : kd 49 = (0, 8) := rfl
theorem kl_50 : kd 50 = (0, 8) := rfl
theorem kl_51 : kd 51 = (0, 10) := rfl
theorem kl_52 : kd 52 = (0, 10) := rfl
theorem kl_53 : kd 53 = (0, 10) := rfl
theorem kl_54 : kd 54 = (0, 10) := rfl
theorem kl_55 : kd 55 = (0, 10) := rfl
theorem kl_56 : kd 56 = (0, 10) := rfl
theorem kl_57 : kd 57 = (0, 64) := rfl
theorem kl_58 : kd 58 = (0, 18) := rfl
theorem kl_59 : kd 59 = (0, 4) := rfl
theorem kl_60 : kd 60 = (18, 20) := rfl
theorem kl_61 : kd 61 = (0, 8) := rfl
theorem kl_62 : kd 62 = (0, 8) := rfl
theorem kl_63 : kd 63 = (0, 8) := rfl
theorem kl_64 : kd 64 = (0, 8) := rfl
theorem kl_65 : kd 65 = (0, 8) := rfl
theorem kl_66 : kd 66 = (0, 8) := rfl
theorem kl_67 : kd 67 = (0, 10) := rfl
theorem kl_68 : kd 68 = (0, 10) := rfl
theorem kl_69 : kd 69 = (0, 10) := rfl
theorem kl_70 : kd 70 = (0, 10) := rfl
theorem kl_71 : kd 71 = (0, 10) := rfl
theorem kl_72 : kd 72 = (0, 10) := rfl
theorem kl_73 : kd 73 = (0, 64) := rfl
theorem kl_74 : kd 74 = (0, 18) := rfl
theorem kl_75 : kd 75 = (0, 4) := rfl
theorem kl_76 : kd 76 = (18, 20) := rfl
theorem kl_77 : kd 77 = (0, 8) := rfl
theorem kl_78 : kd 78 = (0, 8) := rfl
theorem kl_79 : kd 79 = (0, 8) := rfl
theorem kl_80 : kd 80 = (0, 8) := rfl
theorem kl_81 : kd 81 = (0, 8) := rfl
theorem kl_82 : kd 82 = (0, 8) := rfl
theorem kl_83 : kd 83 = (0, 10) := rfl
theorem kl_84 : kd 84 = (0, 10) := rfl
theorem kl_85 : kd 85 = (0, 10) := rfl
theorem kl_86 : kd 86 = (0, 10) := rfl
theorem kl_87 : kd 87 = (0, 10) := rfl
theorem kl_88 : kd 88 = (0, 10) := rfl
theorem kl_89 : kd 89 = (0, 64) := rfl
theorem kl_90 : kd 90 = (0, 18) := rfl
theorem kl_91 : kd 91 = (0, 4) := rfl
theorem kl_92 : kd 92 = (18, 20) := rfl
theorem kl_93 : kd 93 = (0, 8) := rfl
theorem kl_94 : kd 94 = (0, 8) := rfl
theorem kl_95 : kd 95 = (0, 8) := rfl
theorem kl_96 : kd 96 = (0, 8) := rfl
theorem kl_97 : kd 97 = (0, 8) := rfl
theorem kl_98 : kd 98 = (0, 8) := rfl
theorem kl_99 : kd 99 = (0, 10) := rfl
theorem kl_100 : kd 100 = (0, 10) := rfl
theorem kl_101 : kd 101 = (0, 10) := rfl
theorem kl_102 : kd 102 = (0, 10) := rfl
theorem kl_103 : kd 103 = (0, 10) := rfl
theorem kl_104 : kd 104 = (0, 10) := rfl
theorem kl_105 : kd 105 = (0, 64) := rfl
theorem kl_106 : kd 106 = (0, 18) := rfl
theorem kl_107 : kd 107 = (0, 4) := rfl
theorem kl_108 : kd 108 = (18, 20) := rfl
theorem kl_109 : kd 109 = (0, 8) := rfl
theorem kl_110 : kd 110 = (0, 8) := rfl
theorem kl_111 : kd 111 = (0, 8) := rfl
theorem kl_112 : kd 112 = (0, 8) := rfl
theorem kl_113 : kd 113 = (0, 8) := rfl
theorem kl_114 : kd 114 = (0, 8) := rfl
theorem kl_115 : kd 115 = (0, 10) := rfl
theorem kl_116 : kd 116 = (0, 10) := rfl
theorem kl_117 : kd 117 = (0, 10) := rfl
theorem kl_118 : kd 118 = (0, 10) := rfl
theorem kl_119 : kd 119 = (0, 10) := rfl
theorem kl_120 : kd 120 = (0, 10) := rfl
theorem kl_121 : kd 121 = (0, 64) := rfl
theorem kl_122 : kd 122 = (0, 18) := rfl
theorem kl_123 : kd 123 = (0, 4) := rfl
theorem kl_124 : kd 124 = (18, 20) := rfl
theorem kl_125 : kd 125 = (0, 8) := rfl
theorem kl_126 : kd 126 = (0, 8) := rfl
theorem kl_127 : kd 127 = (0, 8) := rfl
theorem kl_128 : kd 128 = (0, 8) := rfl
theorem kl_129 : kd 129 = (0, 8) := rfl
theorem kl_130 : kd 130 = (0, 8) := rfl
theorem kl_131 : kd 131 = (0, 10) := rfl
theorem kl_132 : kd 132 = (0, 10) := rfl
theorem kl_133 : kd 133 = (0, 10) := rfl
theorem kl_134 : kd 134 = (0, 10) := rfl
theorem kl_135 : kd 135 = (0, 10) := rfl
theorem kl_136 : kd 136 = (0, 10) := rfl
theorem kl_137 : kd 137 = (0, 64) := rfl
theorem kl_138 : kd 138 = (0, 18) := rfl
theorem kl_139 : kd 139 = (0, 4) := rfl
theorem kl_140 : kd 140 = (21, 59) := rfl
theorem kl_141 : kd 141 = (0, 8) := rfl
theorem kl_142 : kd 142 = (0, 8) := rfl
theorem kl_143 : kd 143 = (3, 8) := rfl
theorem kl_144 : kd 144 = (0, 8) := rfl
theorem kl_145 : kd 145 = (0, 8) := rfl
theorem kl_146 : kd 146 = (0, 64) := rfl
theorem kl_147 : kd 147 = (0, 10) := rfl
theorem kl_148 : kd 148 = (0, 10) := rfl
theorem kl_149 : kd 149 = (0, 10) := rfl
theorem kl_150 : kd 150 = (0, 10) := rfl
theorem kl_151 : kd 151 = (0, 10) := rfl
theorem kl_152 : kd 152 = (0, 10) := rfl
theorem kl_153 : kd 153 = (0, 4) := rfl
theorem kl_154 : kd 154 = (2, 80) := rfl
theorem kl_155 : kd 155 = (1, 16) := rfl
theorem kl_156 : kd 156 = (2, 40) := rfl
theorem kl_157 : kd 157 = (0, 10) := rfl
theorem kl_158 : kd 158 = (0, 18) := rfl
theorem kl_159 : kd 159 = (0, 3000) := rfl
theorem kl_160 : kd 160 = (0, 24000) := rfl
theorem kl_161 : kd 161 = (0, 240000) := rfl
theorem kl_162 : kd 162 = (0, 3000) := rfl
theorem kl_163 : kd 163 = (0, 3000) := rfl
theorem kl_164 : kd 164 = (0, 3000) := rfl
theorem kl_165 : kd 165 = (0, 3000) := rfl
theorem kl_166 : kd 166 = (1, 3000) := rfl
theorem kl_167 : kd 167 = (3, 3000) := rfl
theorem kl_168 : kd 168 = (0, 8192) := rfl
theorem kl_169 : kd 169 = (0, 8) := rfl
theorem kl_170 : kd 170 = (0, 10) := rfl
theorem kl_171 : kd 171 = (0, 4) := rfl
theorem kl_172 : kd 172 = (0, 101) := rfl
theorem kl_173 : kd 173 = (0, 266) := rfl
theorem kl_174 : kd 174 = (3, 2) := rfl
theorem kl_175 : kd 175 = (0, 2) := rfl
theorem kl_176 : kd 176 = (1, 1) := rfl
theorem ti_0_0 : isIf (tyOf 0 0) = false := rfl
theorem ti_0_1 : isIf (tyOf 0 1) = true := rfl
theorem ty_0_1 : tyOf 0 1 = .int := rfl
theorem fn_0_1 : FinNo 0 1 := by intro C T N h; cases h; rfl
theorem ti_0_2 : isIf (tyOf 0 2) = true := rfl
theorem ty_0_2 : tyOf 0 2 = .int := rfl
theorem fn_0_2 : FinNo 0 2 := by intro C T N h; cases h; rfl
theorem ti_0_3 : isIf (tyOf 0 3) = true := rfl
theorem ty_0_3 : tyOf 0 3 = .int := rfl
theorem fn_0_3 : FinNo 0 3 := by intro C T N h; cases h; rfl
theorem ti_0_4 : isIf (tyOf 0 4) = true := rfl
theorem ty_0_4 : tyOf 0 4 = .int := rfl
theorem fn_0_4 : FinNo 0 4 := by intro C T N h; cases h; rfl
theorem ti_1_0 : isIf (tyOf 1 0) = false := rfl
theorem ti_1_1 : isIf (tyOf 1 1) = true := rfl
theorem ty_1_1 : tyOf 1 1 = .int := rfl
theorem fn_1_1 : FinNo 1 1 := by intro C T N h; cases h; rfl
theorem ti_1_2 : isIf (tyOf 1 2) = true := rfl
theorem ty_1_2 : tyOf 1 2 = .int := rfl
theorem fn_1_2 : FinNo 1 2 := by intro C T N h; cases h; rfl
theorem ti_2_0 : isIf (tyOf 2 0) = false := rfl
theorem ti_2_1 : isIf (tyOf 2 1) = false := rfl
theorem ti_2_2 : isIf (tyOf 2 2) = true := rfl
theorem ty_2_2 : tyOf 2 2 = .int := rfl
theorem fn_2_2 : FinNo 2 2 := by intro C T N h; cases h; rfl
theorem ti_3_0 : isIf (tyOf 3 0) = false := rfl
theorem ti_3_1 : isIf (tyOf 3 1) = false := rfl
theorem ti_3_2 : isIf (tyOf 3 2) = true := rfl
theorem ty_3_2 : tyOf 3 2 = .int := rfl
theorem fn_3_2 : FinNo 3 2 := by intro C T N h; cases h; rfl
theorem ti_4_0 : isIf (tyOf 4 0) = false := rfl
theorem ti_4_1 : isIf (tyOf 4 1) = false := rfl
theorem ti_4_2 : isIf (tyOf 4 2) = false := rfl
theorem ti_4_3 : isIf (tyOf 4 3) = true := rfl
theorem ty_4_3 : tyOf 4 3 = .int := rfl
theorem fn_4_3 : FinNo 4 3 := by intro C T N h; cases h; rfl
theorem ti_4_4 : isIf (tyOf 4 4) = true := rfl
theorem ty_4_4 : tyOf 4 4 = .int := rfl
theorem fn_4_4 : FinNo 4 4 := by intro C T N h; cases h; rfl
theorem ti_4_5 : isIf (tyOf 4 5) = true := rfl
theorem ty_4_5 : tyOf 4 5 = .int := rfl
theorem fn_4_5 : FinNo 4 5 := by intro C T N h; cases h; rfl
theorem ti_4_6 : isIf (tyOf 4 6) = true := rfl
theorem ty_4_6 : tyOf 4 6 = .int := rfl
theorem fn_4_6 : FinNo 4 6 := by intro C T N h; cases h; rfl
theorem ti_4_7 : isIf (tyOf 4 7) = true := rfl
theorem ty_4_7 : tyOf 4 7 = .boolean := rfl
theorem fn_4_7 : FinNo 4 7 := by intro C T N h; cases h; rfl
theorem ti_5_0 : isIf (tyOf 5 0) = false := rfl
theorem ti_5_1 : isIf (tyOf 5 1) = false := rfl
theorem ti_5_2 : isIf (tyOf 5 2) = false := rfl
theorem ti_5_3 : isIf (tyOf 5 3) = false := rfl
theorem ti_5_4 : isIf (tyOf 5 4) = false := rfl
theorem ti_5_5 : isIf (tyOf 5 5) = false := rfl
theorem ti_5_6 : isIf (tyOf 5 6) = false := rfl
theorem ti_5_7 : isIf (tyOf 5 7) = false := rfl
theorem ti_5_8 : isIf (tyOf 5 8) = false := rfl
theorem ti_5_9 : isIf (tyOf 5 9) = true := rfl
theorem ty_5_9 : tyOf 5 9 = .int := rfl
theorem fn_5_9 : FinNo 5 9 := by intro C T N h; cases h; rfl
theorem ti_5_10 : isIf (tyOf 5 10) = true := rfl
theorem ty_5_10 : tyOf 5 10 = .int := rfl
theorem fn_5_10 : FinNo 5 10 := by intro C T N h; cases h; rfl
theorem ti_5_11 : isIf (tyOf 5 11) = true := rfl
theorem ty_5_11 : tyOf 5 11 = .int := rfl
theorem fn_5_11 : FinNo 5 11 := by intro C T N h; cases h; rfl
theorem ti_5_12 : isIf (tyOf 5 12) = true := rfl
theorem ty_5_12 : tyOf 5 12 = .int := rfl
theorem fn_5_12 : FinNo 5 12 := by intro C T N h; cases h; rfl
theorem ti_5_13 : isIf (tyOf 5 13) = true := rfl
theorem ty_5_13 : tyOf 5 13 = .boolean := rfl
theorem fn_5_13 : FinNo 5 13 := by intro C T N h; cases h; rfl
theorem ti_5_14 : isIf (tyOf 5 14) = true := rfl
theorem ty_5_14 : tyOf 5 14 = .boolean := rfl
theorem fn_5_14 : FinNo 5 14 := by intro C T N h; cases h; rfl
theorem ti_6_0 : isIf (tyOf 6 0) = false := rfl
theorem ti_6_1 : isIf (tyOf 6 1) = true := rfl
theorem ty_6_1 : tyOf 6 1 = .int := rfl
theorem fn_6_1 : FinNo 6 1 := by intro C T N h; cases h; rfl
theorem ti_7_0 : isIf (tyOf 7 0) = false := rfl
theorem ti_7_1 : isIf (tyOf 7 1) = true := rfl
theorem ty_7_1 : tyOf 7 1 = .int := rfl
theorem fn_7_1 : FinNo 7 1 := by intro C T N h; cases h; rfl
theorem ti_8_0 : isIf (tyOf 8 0) = false := rfl
theorem ti_8_1 : isIf (tyOf 8 1) = false := rfl
theorem ti_8_2 : isIf (tyOf 8 2) = false := rfl
theorem ti_8_3 : isIf (tyOf 8 3) = false := rfl
theorem ti_8_4 : isIf (tyOf 8 4) = false := rfl
theorem ti_8_5 : isIf (tyOf 8 5) = false := rfl
theorem ti_8_6 : isIf (tyOf 8 6) = false := rfl
theorem ti_8_7 : isIf (tyOf 8 7) = false := rfl
theorem ti_8_8 : isIf (tyOf 8 8) = false := rfl
theorem ti_8_9 : isIf (tyOf 8 9) = false := rfl
theorem ti_8_10 : isIf (tyOf 8 10) = false := rfl
theorem ti_8_11 : isIf (tyOf 8 11) = false := rfl
theorem ti_8_12 : isIf (tyOf 8 12) = false := rfl
theorem ti_8_13 : isIf (tyOf 8 13) = false := rfl
theorem ti_8_14 : isIf (tyOf 8 14) = false := rfl
theorem ti_8_15 : isIf (tyOf 8 15) = true := rfl
theorem ty_8_15 : tyOf 8 15 = .int := rfl
theorem fn_8_15 : FinNo 8 15 := by intro C T N h; cases h; rfl
theorem ti_8_16 : isIf (tyOf 8 16) = true := rfl
theorem ty_8_16 : tyOf 8 16 = .int := rfl
theorem fn_8_16 : FinNo 8 16 := by intro C T N h; cases h; rfl
theorem ti_8_17 : isIf (tyOf 8 17) = true := rfl
theorem ty_8_17 : tyOf 8 17 = .int := rfl
theorem fn_8_17 : FinNo 8 17 := by intro C T N h; cases h; rfl
theorem ti_8_18 : isIf (tyOf 8 18) = true := rfl
theorem ty_8_18 : tyOf 8 18 = .int := rfl
theorem fn_8_18 : FinNo 8 18 := by intro C T N h; cases h; rfl
theorem ti_8_19 : isIf (tyOf 8 19) = true := rfl
theorem ty_8_19 : tyOf 8 19 = .int := rfl
theorem fn_8_19 : FinNo 8 19 := by intro C T N h; cases h; rfl
theorem ti_9_0 : isIf (tyOf 9 0) = true := rfl
theorem ty_9_0 : tyOf 9 0 = .int := rfl
theorem fn_9_0 : FinNo 9 0 := by intro C T N h; cases h; rfl
theorem ti_9_1 : isIf (tyOf 9 1) = true := rfl
theorem ty_9_1 : tyOf 9 1 = .int := rfl
theorem fn_9_1 : FinNo 9 1 := by intro C T N h; cases h; rfl
theorem ti_10_0 : isIf (tyOf 10 0) = false := rfl
theorem ti_10_1 : isIf (tyOf 10 1) = false := rfl
theorem ti_10_2 : isIf (tyOf 10 2) = false := rfl
theorem ti_10_3 : isIf (tyOf 10 3) = false := rfl
theorem ti_10_4 : isIf (tyOf 10 4) = false := rfl
theorem ti_10_5 : isIf (tyOf 10 5) = false := rfl
theorem ti_10_6 : isIf (tyOf 10 6) = false := rfl
theorem ti_10_7 : isIf (tyOf 10 7) = false := rfl
theorem ti_10_8 : isIf (tyOf 10 8) = false := rfl
theorem ti_10_9 : isIf (tyOf 10 9) = false := rfl
theorem ti_10_10 : isIf (tyOf 10 10) = false := rfl
theorem ti_10_11 : isIf (tyOf 10 11) = false := rfl
theorem ti_10_12 : isIf (tyOf 10 12) = false := rfl
theorem ti_10_13 : isIf (tyOf 10 13) = false := rfl
theorem ti_10_14 : isIf (tyOf 10 14) = true := rfl
theorem ty_10_14 : tyOf 10 14 = .int := rfl
theorem fn_10_14 : FinNo 10 14 := by intro C T N h; cases h; rfl
theorem ti_10_15 : isIf (tyOf 10 15) = true := rfl
theorem ty_10_15 : tyOf 10 15 = .boolean := rfl
theorem fn_10_15 : FinNo 10 15 := by intro C T N h; cases h; rfl
theorem ti_10_16 : isIf (tyOf 10 16) = true := rfl
theorem ty_10_16 : tyOf 10 16 = .boolean := rfl
theorem fn_10_16 : FinNo 10 16 := by intro C T N h; cases h; rfl
theorem ti_11_0 : isIf (tyOf 11 0) = true := rfl
theorem ty_11_0 : tyOf 11 0 = .int := rfl
theorem fn_11_0 : FinNo 11 0 := by intro C T N h; cases h; rfl
theorem ti_11_1 : isIf (tyOf 11 1) = false := rfl
theorem ti_11_2 : isIf (tyOf 11 2) = false := rfl
theorem ti_11_3 : isIf (tyOf 11 3) = false := rfl
theorem ti_11_4 : isIf (tyOf 11 4) = false := rfl
theorem ti_11_5 : isIf (tyOf 11 5) = false := rfl
theorem ti_11_6 : isIf (tyOf 11 6) = false := rfl
theorem ti_11_7 : isIf (tyOf 11 7) = true := rfl
theorem ty_11_7 : tyOf 11 7 = .int := rfl
theorem fn_11_7 : FinNo 11 7 := by intro C T N h; cases h; rfl
theorem ti_11_8 : isIf (tyOf 11 8) = false := rfl
theorem ti_11_9 : isIf (tyOf 11 9) = false := rfl
theorem ti_11_10 : isIf (tyOf 11 10) = false := rfl
theorem ti_11_11 : isIf (tyOf 11 11) = false := rfl
theorem ti_11_12 : isIf (tyOf 11 12) = false := rfl
theorem ti_11_13 : isIf (tyOf 11 13) = false := rfl
theorem ti_11_14 : isIf (tyOf 11 14) = false := rfl
theorem ti_11_15 : isIf (tyOf 11 15) = true := rfl
theorem ty_11_15 : tyOf 11 15 = .int := rfl
theorem fn_11_15 : FinNo 11 15 := by intro C T N h; cases h; rfl
theorem ti_11_16 : isIf (tyOf 11 16) = true := rfl
theorem ty_11_16 : tyOf 11 16 = .int := rfl
theorem fn_11_16 : FinNo 11 16 := by intro C T N h; cases h; rfl
theorem ti_11_17 : isIf (tyOf 11 17) = false := rfl
theorem ti_11_18 : isIf (tyOf 11 18) = true := rfl
theorem ty_11_18 : tyOf 11 18 = .int := rfl
theorem fn_11_18 : FinNo 11 18 := by intro C T N h; cases h; rfl
theorem ti_11_19 : isIf (tyOf 11 19) = false := rfl
theorem ti_11_20 : isIf (tyOf 11 20) = true := rfl
theorem ty_11_20 : tyOf 11 20 = .int := rfl
theorem fn_11_20 : FinNo 11 20 := by intro C T N h; cases h; rfl
theorem ti_11_21 : isIf (tyOf 11 21) = true := rfl
theorem ty_11_21 : tyOf 11 21 = .int := rfl
theorem fn_11_21 : FinNo 11 21 := by intro C T N h; cases h; rfl
theorem ti_11_22 : isIf (tyOf 11 22) = false := rfl
theorem fn_11_22 : FinNo 11 22 := by intro C T N h; cases h; rfl
theorem ti_11_23 : isIf (tyOf 11 23) = true := rfl
theorem ty_11_23 : tyOf 11 23 = .int := rfl
theorem fn_11_23 : FinNo 11 23 := by intro C T N h; cases h; rfl
theorem ti_11_24 : isIf (tyOf 11 24) = true := rfl
theorem ty_11_24 : tyOf 11 24 = .int := rfl
theorem fn_11_24 : FinNo 11 24 := by intro C T N h; cases h; rfl
theorem ti_11_25 : isIf (tyOf 11 25) = true := rfl
theorem ty_11_25 : tyOf 11 25 = .int := rfl
theorem fn_11_25 : FinNo 11 25 := by intro C T N h; cases h; rfl
theorem ti_11_26 : isIf (tyOf 11 26) = true := rfl
theorem ty_11_26 : tyOf 11 26 = .int := rfl
theorem fn_11_26 : FinNo 11 26 := by intro C T N h; cases h; rfl
theorem ti_11_27 : isIf (tyOf 11 27) = false := rfl
theorem ti_11_28 : isIf (tyOf 11 28) = true := rfl
theorem ty_11_28 : tyOf 11 28 = .int := rfl
theorem fn_11_28 : FinNo 11 28 := by intro C T N h; cases h; rfl
theorem ti_11_29 : isIf (tyOf 11 29) = true := rfl
theorem ty_11_29 : tyOf 11 29 = .int := rfl
theorem fn_11_29 : FinNo 11 29 := by intro C T N h; cases h; rfl
theorem ti_11_30 : isIf (tyOf 11 30) = true := rfl
theorem ty_11_30 : tyOf 11 30 = .int := rfl
theorem fn_11_30 : FinNo 11 30 := by intro C T N h; cases h; rfl
theorem ti_11_31 : isIf (tyOf 11 31) = false := rfl
theorem ti_11_32 : isIf (tyOf 11 32) = true := rfl
theorem ty_11_32 : tyOf 11 32 = .int := rfl
theorem fn_11_32 : FinNo 11 32 := by intro C T N h; cases h; rfl
theorem ti_11_33 : isIf (tyOf 11 33) = false := rfl
theorem ti_11_34 : isIf (tyOf 11 34) = true := rfl
theorem ty_11_34 : tyOf 11 34 = .int := rfl
theorem fn_11_34 : FinNo 11 34 := by intro C T N h; cases h; rfl
theorem ti_11_35 : isIf (tyOf 11 35) = false := rfl
theorem ti_11_36 : isIf (tyOf 11 36) = false := rfl
theorem ti_11_37 : isIf (tyOf 11 37) = false := rfl
theorem ti_11_38 : isIf (tyOf 11 38) = false := rfl
theorem ti_11_39 : isIf (tyOf 11 39) = false := rfl
theorem ti_11_40 : isIf (tyOf 11 40) = false := rfl
theorem ti_11_41 : isIf (tyOf 11 41) = false := rfl
theorem ti_11_42 : isIf (tyOf 11 42) = false := rfl
theorem ti_11_43 : isIf (tyOf 11 43) = false := rfl
theorem ti_11_44 : isIf (tyOf 11 44) = true := rfl
theorem ty_11_44 : tyOf 11 44 = .int := rfl
theorem fn_11_44 : FinNo 11 44 := by intro C T N h; cases h; rfl
theorem ti_11_45 : isIf (tyOf 11 45) = false := rfl
theorem ti_11_46 : isIf (tyOf 11 46) = true := rfl
theorem ty_11_46 : tyOf 11 46 = .int := rfl
theorem fn_11_46 : FinNo 11 46 := by intro C T N h; cases h; rfl
theorem ti_11_47 : isIf (tyOf 11 47) = false := rfl
theorem ti_11_48 : isIf (tyOf 11 48) = false := rfl
theorem ti_11_49 : isIf (tyOf 11 49) = false := rfl
theorem ti_11_50 : isIf (tyOf 11 50) = true := rfl
theorem ty_11_50 : tyOf 11 50 = .int := rfl
theorem fn_11_50 : FinNo 11 50 := by intro C T N h; cases h; rfl
theorem ti_11_51 : isIf (tyOf 11 51) = true := rfl
theorem ty_11_51 : tyOf 11 51 = .int := rfl
theorem fn_11_51 : FinNo 11 51 := by intro C T N h; cases h; rfl
theorem ti_11_52 : isIf (tyOf 11 52) = true := rfl
theorem ty_11_52 : tyOf 11 52 = .int := rfl
theorem fn_11_52 : FinNo 11 52 := by intro C T N h; cases h; rfl
theorem ti_11_53 : isIf (tyOf 11 53) = true := rfl
theorem ty_11_53 : tyOf 11 53 = .int := rfl
theorem fn_11_53 : FinNo 11 53 := by intro C T N h; cases h; rfl
theorem ti_11_54 : isIf (tyOf 11 54) = false := rfl
theorem ti_11_55 : isIf (tyOf 11 55) = true := rfl
theorem ty_11_55 : tyOf 11 55 = .int := rfl
theorem fn_11_55 : FinNo 11 55 := by intro C T N h; cases h; rfl
theorem ti_11_56 : isIf (tyOf 11 56) = false := rfl
theorem ti_11_57 : isIf (tyOf 11 57) = false := rfl
theorem ti_11_58 : isIf (tyOf 11 58) = false := rfl
theorem fo_X0_9 : FldOK RX0 9 0 0 := ⟨RX0, TX0, 5, rfl, by decide, Or.inl (List.mem_of_getElem? (i := 436) (by decide +kernel))⟩
theorem fo_X0_15 : FldOK RX0 15 0 1 := ⟨RX0, TX0, 5, rfl, by decide, Or.inl (List.mem_of_getElem? (i := 437) (by decide +kernel))⟩
theorem fo_X0_19 : FldOK RX0 19 0 2 := ⟨RX0, TX0, 5, rfl, by decide, Or.inl (List.mem_of_getElem? (i := 439) (by decide +kernel))⟩
theorem fo_X0_22 : FldOK RX0 22 0 3 := ⟨RX0, TX0, 5, rfl, by decide, Or.inl (List.mem_of_getElem? (i := 441) (by decide +kernel))⟩
theorem fo_X0_25 : FldOK RX0 25 0 4 := ⟨RX0, TX0, 5, rfl, by decide, Or.inl (List.mem_of_getElem? (i := 443) (by decide +kernel))⟩
theorem lk_X0_28 : LnkOK RX0 28 yX8_countList := Or.inl (List.mem_of_getElem? (i := 1227) (by decide +kernel))
theorem lk_X0_34 : LnkOK RX0 34 yX0_sortDue := Or.inl (List.mem_of_getElem? (i := 1228) (by decide +kernel))
theorem lk_X0_38 : LnkOK RX0 38 yX3_chosen := Or.inl (List.mem_of_getElem? (i := 1233) (by decide +kernel))
theorem lk_X0_44 : LnkOK RX0 44 yX8_makePayment := Or.inl (List.mem_of_getElem? (i := 1234) (by decide +kernel))
theorem fo_X0_48 : FldOK RX0 48 8 8 := ⟨RX8, TX8, 20, rfl, by decide, Or.inr ⟨"PaidByPoorer", List.mem_of_getElem? (i := 187) (by decide +kernel)⟩⟩
theorem fo_X0_50 : FldOK RX0 50 8 18 := ⟨RX8, TX8, 20, rfl, by decide, Or.inr ⟨"PaidByPoorer", List.mem_of_getElem? (i := 223) (by decide +kernel)⟩⟩
theorem fo_X0_53 : FldOK RX0 53 8 9 := ⟨RX8, TX8, 20, rfl, by decide, Or.inr ⟨"PaidByPoorer", List.mem_of_getElem? (i := 193) (by decide +kernel)⟩⟩
theorem fo_X0_56 : FldOK RX0 56 8 14 := ⟨RX8, TX8, 20, rfl, by decide, Or.inr ⟨"PaidByPoorer", List.mem_of_getElem? (i := 206) (by decide +kernel)⟩⟩
theorem fo_X0_59 : FldOK RX0 59 8 10 := ⟨RX8, TX8, 20, rfl, by decide, Or.inr ⟨"PaidByPoorer", List.mem_of_getElem? (i := 196) (by decide +kernel)⟩⟩
theorem lk_X0_62 : LnkOK RX0 62 yX8_openDueBy := Or.inl (List.mem_of_getElem? (i := 1232) (by decide +kernel))
theorem fo_X0_66 : FldOK RX0 66 8 16 := ⟨RX8, TX8, 20, rfl, by decide, Or.inr ⟨"PaidByPoorer", List.mem_of_getElem? (i := 218) (by decide +kernel)⟩⟩
theorem lk_X1_9 : LnkOK RX1 9 yX8_init := Or.inl (List.mem_of_getElem? (i := 339) (by decide +kernel))
theorem fo_X1_10 : FldOK RX1 10 1 0 := ⟨RX1, TX1, 3, rfl, by decide, Or.inl (List.mem_of_getElem? (i := 340) (by decide +kernel))⟩
theorem lk_X1_16 : LnkOK RX1 16 yX8_copyFrom := Or.inl (List.mem_of_getElem? (i := 981) (by decide +kernel))
theorem fo_X1_20 : FldOK RX1 20 8 6 := ⟨RX8, TX8, 20, rfl, by decide, Or.inr ⟨"PaidByPoorer", List.mem_of_getElem? (i := 178) (by decide +kernel)⟩⟩
theorem lk_X1_24 : LnkOK RX1 24 yX8_allCoin := Or.inl (List.mem_of_getElem? (i := 982) (by decide +kernel))
theorem fo_X1_28 : FldOK RX1 28 8 15 := ⟨RX8, TX8, 20, rfl, by decide, Or.inr ⟨"PaidByPoorer", List.mem_of_getElem? (i := 209) (by decide +kernel)⟩⟩
theorem lk_X1_32 : LnkOK RX1 32 yX8_canGive := Or.inl (List.mem_of_getElem? (i := 986) (by decide +kernel))
theorem lk_X1_36 : LnkOK RX1 36 yX1_payersAfter := Or.inl (List.mem_of_getElem? (i := 987) (by decide +kernel))
theorem fo_X1_40 : FldOK RX1 40 1 2 := ⟨RX1, TX1, 3, rfl, by decide, Or.inl (List.mem_of_getElem? (i := 343) (by decide +kernel))⟩
theorem fo_X1_43 : FldOK RX1 43 1 1 := ⟨RX1, TX1, 3, rfl, by decide, Or.inl (List.mem_of_getElem? (i := 341) (by decide +kernel))⟩
theorem lk_X1_46 : LnkOK RX1 46 yX8_counted := Or.inl (List.mem_of_getElem? (i := 1002) (by decide +kernel))
theorem lk_X1_50 : LnkOK RX1 50 yX8_shift := Or.inl (List.mem_of_getElem? (i := 991) (by decide +kernel))
theorem lk_X1_54 : LnkOK RX1 54 yX8_makeList := Or.inl (List.mem_of_getElem? (i := 992) (by decide +kernel))
theorem lk_X1_57 : LnkOK RX1 57 yX8_payers := Or.inl (List.mem_of_getElem? (i := 993) (by decide +kernel))
theorem lk_X2_11 : LnkOK RX2 11 yX8_init := Or.inl (List.mem_of_getElem? (i := 419) (by decide +kernel))
theorem fo_X2_12 : FldOK RX2 12 2 0 := ⟨RX2, TX2, 3, rfl, by decide, Or.inl (List.mem_of_getElem? (i := 420) (by decide +kernel))⟩
theorem fo_X2_18 : FldOK RX2 18 2 1 := ⟨RX2, TX2, 3, rfl, by decide, Or.inl (List.mem_of_getElem? (i := 421) (by decide +kernel))⟩
theorem lk_X2_22 : LnkOK RX2 22 yX8_copyFrom := Or.inl (List.mem_of_getElem? (i := 1167) (by decide +kernel))
theorem fo_X2_26 : FldOK RX2 26 8 14 := ⟨RX8, TX8, 20, rfl, by decide, Or.inr ⟨"PaidByPoorer", List.mem_of_getElem? (i := 204) (by decide +kernel)⟩⟩
theorem lk_X2_29 : LnkOK RX2 29 yX8_makeList := Or.inl (List.mem_of_getElem? (i := 1168) (by decide +kernel))
theorem lk_X2_32 : LnkOK RX2 32 yX8_openDueBy := Or.inl (List.mem_of_getElem? (i := 1169) (by decide +kernel))
theorem fo_X2_36 : FldOK RX2 36 2 2 := ⟨RX2, TX2, 3, rfl, by decide, Or.inl (List.mem_of_getElem? (i := 422) (by decide +kernel))⟩
theorem fo_X2_40 : FldOK RX2 40 8 16 := ⟨RX8, TX8, 20, rfl, by decide, Or.inr ⟨"PaidByPoorer", List.mem_of_getElem? (i := 216) (by decide +kernel)⟩⟩
theorem fo_X2_43 : FldOK RX2 43 8 6 := ⟨RX8, TX8, 20, rfl, by decide, Or.inr ⟨"PaidByPoorer", List.mem_of_getElem? (i := 179) (by decide +kernel)⟩⟩
theorem lk_X2_46 : LnkOK RX2 46 yX8_belowBits := Or.inl (List.mem_of_getElem? (i := 1170) (by decide +kernel))
theorem lk_X2_49 : LnkOK RX2 49 yX8_outsiders := Or.inl (List.mem_of_getElem? (i := 1171) (by decide +kernel))
theorem fo_X2_52 : FldOK RX2 52 8 15 := ⟨RX8, TX8, 20, rfl, by decide, Or.inr ⟨"PaidByPoorer", List.mem_of_getElem? (i := 211) (by decide +kernel)⟩⟩
theorem lk_X2_55 : LnkOK RX2 55 yX8_counted := Or.inl (List.mem_of_getElem? (i := 1180) (by decide +kernel))
theorem lk_X2_58 : LnkOK RX2 58 yX2_debtsBehind := Or.inl (List.mem_of_getElem? (i := 1195) (by decide +kernel))
theorem lk_X2_61 : LnkOK RX2 61 yX8_sumOf := Or.inl (List.mem_of_getElem? (i := 1199) (by decide +kernel))
theorem lk_X2_65 : LnkOK RX2 65 yX8_everybody := Or.inl (List.mem_of_getElem? (i := 1190) (by decide +kernel))
theorem lk_X2_69 : LnkOK RX2 69 yX2_countedOf := Or.inl (List.mem_of_getElem? (i := 1176) (by decide +kernel))
theorem lk_X2_72 : LnkOK RX2 72 yX2_sumsBehind := Or.inl (List.mem_of_getElem? (i := 1191) (by decide +kernel))
theorem lk_X2_75 : LnkOK RX2 75 yX2_leastBar := Or.inl (List.mem_of_getElem? (i := 1185) (by decide +kernel))
theorem fo_X2_78 : FldOK RX2 78 8 8 := ⟨RX8, TX8, 20, rfl, by decide, Or.inr ⟨"PaidByPoorer", List.mem_of_getElem? (i := 191) (by decide +kernel)⟩⟩
theorem fo_X3_11 : FldOK RX3 11 3 0 := ⟨RX3, TX3, 3, rfl, by decide, Or.inl (List.mem_of_getElem? (i := 288) (by decide +kernel))⟩
theorem fo_X3_15 : FldOK RX3 15 3 1 := ⟨RX3, TX3, 3, rfl, by decide, Or.inl (List.mem_of_getElem? (i := 289) (by decide +kernel))⟩
theorem fo_X3_18 : FldOK RX3 18 4 0 := ⟨RX4, TX4, 8, rfl, by decide, Or.inr ⟨"PaidByPoorer", List.mem_of_getElem? (i := 305) (by decide +kernel)⟩⟩
theorem fo_X3_27 : FldOK RX3 27 4 3 := ⟨RX4, TX4, 8, rfl, by decide, Or.inr ⟨"PaidByPoorer", List.mem_of_getElem? (i := 308) (by decide +kernel)⟩⟩
theorem fo_X3_31 : FldOK RX3 31 3 2 := ⟨RX3, TX3, 3, rfl, by decide, Or.inl (List.mem_of_getElem? (i := 290) (by decide +kernel))⟩
theorem lk_X3_32 : LnkOK RX3 32 yX8_makeList := Or.inl (List.mem_of_getElem? (i := 857) (by decide +kernel))
theorem lk_X3_37 : LnkOK RX3 37 yX8_payers := Or.inl (List.mem_of_getElem? (i := 858) (by decide +kernel))
theorem fo_X3_41 : FldOK RX3 41 8 15 := ⟨RX8, TX8, 20, rfl, by decide, Or.inr ⟨"PaidByPoorer", List.mem_of_getElem? (i := 212) (by decide +kernel)⟩⟩
theorem lk_X3_44 : LnkOK RX3 44 yX3_worth := Or.inl (List.mem_of_getElem? (i := 859) (by decide +kernel))
theorem lk_X3_48 : LnkOK RX3 48 yX3_thing := Or.inl (List.mem_of_getElem? (i := 863) (by decide +kernel))
theorem lk_X3_52 : LnkOK RX3 52 yX3_done := Or.inl (List.mem_of_getElem? (i := 888) (by decide +kernel))
theorem lk_X3_56 : LnkOK RX3 56 yX8_counted := Or.inl (List.mem_of_getElem? (i := 866) (by decide +kernel))
theorem fo_X3_59 : FldOK RX3 59 8 1 := ⟨RX8, TX8, 20, rfl, by decide, Or.inr ⟨"PaidByPoorer", List.mem_of_getElem? (i := 168) (by decide +kernel)⟩⟩
theorem fo_X3_62 : FldOK RX3 62 8 8 := ⟨RX8, TX8, 20, rfl, by decide, Or.inr ⟨"PaidByPoorer", List.mem_of_getElem? (i := 188) (by decide +kernel)⟩⟩
theorem lk_X3_65 : LnkOK RX3 65 yX8_price := Or.inl (List.mem_of_getElem? (i := 867) (by decide +kernel))
theorem lk_X3_69 : LnkOK RX3 69 yX8_favoursOwedTo := Or.inl (List.mem_of_getElem? (i := 868) (by decide +kernel))
theorem lk_X3_72 : LnkOK RX3 72 yX8_openOwedBy := Or.inl (List.mem_of_getElem? (i := 872) (by decide +kernel))
theorem fo_X3_75 : FldOK RX3 75 8 6 := ⟨RX8, TX8, 20, rfl, by decide, Or.inr ⟨"PaidByPoorer", List.mem_of_getElem? (i := 180) (by decide +kernel)⟩⟩
theorem lk_X3_78 : LnkOK RX3 78 yX8_hasOpenDebt := Or.inl (List.mem_of_getElem? (i := 884) (by decide +kernel))
theorem fo_X4_9 : FldOK RX4 9 4 0 := ⟨RX4, TX4, 8, rfl, by decide, Or.inl (List.mem_of_getElem? (i := 304) (by decide +kernel))⟩
theorem fo_X4_15 : FldOK RX4 15 4 1 := ⟨RX4, TX4, 8, rfl, by decide, Or.inl (List.mem_of_getElem? (i := 306) (by decide +kernel))⟩
theorem fo_X4_18 : FldOK RX4 18 4 2 := ⟨RX4, TX4, 8, rfl, by decide, Or.inl (List.mem_of_getElem? (i := 307) (by decide +kernel))⟩
theorem lk_X4_22 : LnkOK RX4 22 yX4_start := Or.inl (List.mem_of_getElem? (i := 606) (by decide +kernel))
theorem lk_X4_25 : LnkOK RX4 25 yX6_length := Or.inl (List.mem_of_getElem? (i := 610) (by decide +kernel))
theorem lk_X4_31 : LnkOK RX4 31 yJ9_min_7cf53 := Or.inl (List.mem_of_getElem? (i := 611) (by decide +kernel))
theorem lk_X4_37 : LnkOK RX4 37 yX6_at := Or.inl (List.mem_of_getElem? (i := 612) (by decide +kernel))
theorem fo_X4_41 : FldOK RX4 41 4 7 := ⟨RX4, TX4, 8, rfl, by decide, Or.inl (List.mem_of_getElem? (i := 313) (by decide +kernel))⟩
theorem lk_X4_45 : LnkOK RX4 45 yX4_takesThing := Or.inl (List.mem_of_getElem? (i := 613) (by decide +kernel))
theorem lk_X4_49 : LnkOK RX4 49 yX4_takesBehind := Or.inl (List.mem_of_getElem? (i := 713) (by decide +kernel))
theorem fo_X4_52 : FldOK RX4 52 4 5 := ⟨RX4, TX4, 8, rfl, by decide, Or.inl (List.mem_of_getElem? (i := 311) (by decide +kernel))⟩
theorem lk_X4_56 : LnkOK RX4 56 yX4_settle := Or.inl (List.mem_of_getElem? (i := 725) (by decide +kernel))
theorem fo_X4_60 : FldOK RX4 60 4 3 := ⟨RX4, TX4, 8, rfl, by decide, Or.inl (List.mem_of_getElem? (i := 309) (by decide +kernel))⟩
theorem fo_X4_63 : FldOK RX4 63 4 4 := ⟨RX4, TX4, 8, rfl, by decide, Or.inl (List.mem_of_getElem? (i := 310) (by decide +kernel))⟩
theorem fo_X4_66 : FldOK RX4 66 4 6 := ⟨RX4, TX4, 8, rfl, by decide, Or.inl (List.mem_of_getElem? (i := 312) (by decide +kernel))⟩
theorem lk_X4_69 : LnkOK RX4 69 yX4_await := Or.inl (List.mem_of_getElem? (i := 617) (by decide +kernel))
theorem lk_X4_72 : LnkOK RX4 72 yX4_opens := Or.inl (List.mem_of_getElem? (i := 621) (by decide +kernel))
theorem lk_X4_78 : LnkOK RX4 78 yJ0_indexOf_0f7a4 := Or.inl (List.mem_of_getElem? (i := 626) (by decide +kernel))
theorem lk_X4_83 : LnkOK RX4 83 yX9_isDigit := Or.inr ⟨"PaidByPoorer", List.mem_of_getElem? (i := 708) (by decide +kernel)⟩
theorem lk_X4_88 : LnkOK RX4 88 yX4_put := Or.inl (List.mem_of_getElem? (i := 709) (by decide +kernel))
theorem lk_X4_91 : LnkOK RX4 91 yX4_lengthens := Or.inl (List.mem_of_getElem? (i := 717) (by decide +kernel))
theorem lk_X4_94 : LnkOK RX4 94 yX4_closes := Or.inl (List.mem_of_getElem? (i := 721) (by decide +kernel))
theorem lk_X4_99 : LnkOK RX4 99 yX4_strength := Or.inl (List.mem_of_getElem? (i := 729) (by decide +kernel))
theorem lk_X5_11 : LnkOK RX5 11 yX8_init := Or.inl (List.mem_of_getElem? (i := 359) (by decide +kernel))
theorem fo_X5_12 : FldOK RX5 12 5 0 := ⟨RX5, TX5, 15, rfl, by decide, Or.inl (List.mem_of_getElem? (i := 360) (by decide +kernel))⟩
theorem fo_X5_18 : FldOK RX5 18 5 1 := ⟨RX5, TX5, 15, rfl, by decide, Or.inl (List.mem_of_getElem? (i := 361) (by decide +kernel))⟩
theorem fo_X5_22 : FldOK RX5 22 5 2 := ⟨RX5, TX5, 15, rfl, by decide, Or.inl (List.mem_of_getElem? (i := 362) (by decide +kernel))⟩
theorem fo_X5_25 : FldOK RX5 25 5 3 := ⟨RX5, TX5, 15, rfl, by decide, Or.inl (List.mem_of_getElem? (i := 363) (by decide +kernel))⟩
theorem fo_X5_28 : FldOK RX5 28 5 4 := ⟨RX5, TX5, 15, rfl, by decide, Or.inl (List.mem_of_getElem? (i := 364) (by decide +kernel))⟩
theorem fo_X5_31 : FldOK RX5 31 5 5 := ⟨RX5, TX5, 15, rfl, by decide, Or.inl (List.mem_of_getElem? (i := 365) (by decide +kernel))⟩
theorem fo_X5_35 : FldOK RX5 35 5 6 := ⟨RX5, TX5, 15, rfl, by decide, Or.inl (List.mem_of_getElem? (i := 367) (by decide +kernel))⟩
theorem fo_X5_38 : FldOK RX5 38 5 7 := ⟨RX5, TX5, 15, rfl, by decide, Or.inl (List.mem_of_getElem? (i := 369) (by decide +kernel))⟩
theorem fo_X5_41 : FldOK RX5 41 5 8 := ⟨RX5, TX5, 15, rfl, by decide, Or.inl (List.mem_of_getElem? (i := 370) (by decide +kernel))⟩
theorem fo_X5_44 : FldOK RX5 44 5 13 := ⟨RX5, TX5, 15, rfl, by decide, Or.inl (List.mem_of_getElem? (i := 379) (by decide +kernel))⟩
theorem fo_X5_48 : FldOK RX5 48 5 12 := ⟨RX5, TX5, 15, rfl, by decide, Or.inl (List.mem_of_getElem? (i := 378) (by decide +kernel))⟩
theorem fo_X5_52 : FldOK RX5 52 8 14 := ⟨RX8, TX8, 20, rfl, by decide, Or.inr ⟨"PaidByPoorer", List.mem_of_getElem? (i := 205) (by decide +kernel)⟩⟩
theorem lk_X5_55 : LnkOK RX5 55 yX8_isLike := Or.inl (List.mem_of_getElem? (i := 1018) (by decide +kernel))
theorem fo_X5_59 : FldOK RX5 59 5 14 := ⟨RX5, TX5, 15, rfl, by decide, Or.inl (List.mem_of_getElem? (i := 380) (by decide +kernel))⟩
theorem lk_X5_62 : LnkOK RX5 62 yX8_copyFrom := Or.inl (List.mem_of_getElem? (i := 1022) (by decide +kernel))
theorem lk_X5_66 : LnkOK RX5 66 yX8_openDueBy := Or.inl (List.mem_of_getElem? (i := 1023) (by decide +kernel))
theorem fo_X5_70 : FldOK RX5 70 5 10 := ⟨RX5, TX5, 15, rfl, by decide, Or.inl (List.mem_of_getElem? (i := 374) (by decide +kernel))⟩
theorem lk_X5_73 : LnkOK RX5 73 yX5_start := Or.inl (List.mem_of_getElem? (i := 1031) (by decide +kernel))
theorem fo_X5_76 : FldOK RX5 76 5 9 := ⟨RX5, TX5, 15, rfl, by decide, Or.inl (List.mem_of_getElem? (i := 372) (by decide +kernel))⟩
theorem lk_X5_79 : LnkOK RX5 79 yX5_load := Or.inl (List.mem_of_getElem? (i := 1053) (by decide +kernel))
theorem lk_X5_83 : LnkOK RX5 83 yX5_leave := Or.inl (List.mem_of_getElem? (i := 1062) (by decide +kernel))
theorem lk_X5_86 : LnkOK RX5 86 yJ7_fill_53178 := Or.inl (List.mem_of_getElem? (i := 1035) (by decide +kernel))
theorem fo_X5_92 : FldOK RX5 92 5 11 := ⟨RX5, TX5, 15, rfl, by decide, Or.inl (List.mem_of_getElem? (i := 376) (by decide +kernel))⟩
theorem fo_X5_95 : FldOK RX5 95 8 15 := ⟨RX8, TX8, 20, rfl, by decide, Or.inr ⟨"PaidByPoorer", List.mem_of_getElem? (i := 213) (by decide +kernel)⟩⟩
theorem fo_X5_98 : FldOK RX5 98 8 0 := ⟨RX8, TX8, 20, rfl, by decide, Or.inr ⟨"PaidByPoorer", List.mem_of_getElem? (i := 165) (by decide +kernel)⟩⟩
theorem lk_X5_101 : LnkOK RX5 101 yX5_part := Or.inl (List.mem_of_getElem? (i := 1038) (by decide +kernel))
theorem lk_X5_105 : LnkOK RX5 105 yX5_find := Or.inl (List.mem_of_getElem? (i := 1041) (by decide +kernel))
theorem lk_X5_110 : LnkOK RX5 110 yX5_coinIn := Or.inl (List.mem_of_getElem? (i := 1057) (by decide +kernel))
theorem lk_X5_114 : LnkOK RX5 114 yX8_makeList := Or.inl (List.mem_of_getElem? (i := 1066) (by decide +kernel))
theorem fo_X5_117 : FldOK RX5 117 8 16 := ⟨RX8, TX8, 20, rfl, by decide, Or.inr ⟨"PaidByPoorer", List.mem_of_getElem? (i := 219) (by decide +kernel)⟩⟩
theorem lk_X5_120 : LnkOK RX5 120 yX8_payers := Or.inl (List.mem_of_getElem? (i := 1067) (by decide +kernel))
theorem lk_X5_123 : LnkOK RX5 123 yX5_step := Or.inl (List.mem_of_getElem? (i := 1068) (by decide +kernel))
theorem fo_X5_127 : FldOK RX5 127 8 8 := ⟨RX8, TX8, 20, rfl, by decide, Or.inr ⟨"PaidByPoorer", List.mem_of_getElem? (i := 190) (by decide +kernel)⟩⟩
theorem fo_X5_130 : FldOK RX5 130 8 7 := ⟨RX8, TX8, 20, rfl, by decide, Or.inr ⟨"PaidByPoorer", List.mem_of_getElem? (i := 185) (by decide +kernel)⟩⟩
theorem lk_X5_133 : LnkOK RX5 133 yX8_price := Or.inl (List.mem_of_getElem? (i := 1072) (by decide +kernel))
theorem lk_X5_136 : LnkOK RX5 136 yX5_rank := Or.inl (List.mem_of_getElem? (i := 1073) (by decide +kernel))
theorem fo_X5_139 : FldOK RX5 139 8 6 := ⟨RX8, TX8, 20, rfl, by decide, Or.inr ⟨"PaidByPoorer", List.mem_of_getElem? (i := 182) (by decide +kernel)⟩⟩
theorem lk_X5_148 : LnkOK RX5 148 yX5_newState := Or.inl (List.mem_of_getElem? (i := 1048) (by decide +kernel))
theorem lk_X5_153 : LnkOK RX5 153 yJ6_bitCount_0f7a4 := Or.inl (List.mem_of_getElem? (i := 1087) (by decide +kernel))
theorem lk_X5_158 : LnkOK RX5 158 yJ9_max_7cf53 := Or.inl (List.mem_of_getElem? (i := 1082) (by decide +kernel))
theorem lk_X5_163 : LnkOK RX5 163 yX8_sumOf := Or.inl (List.mem_of_getElem? (i := 1081) (by decide +kernel))
theorem lk_X5_166 : LnkOK RX5 166 yX8_isDebt := Or.inl (List.mem_of_getElem? (i := 1110) (by decide +kernel))
theorem lk_X5_170 : LnkOK RX5 170 yJ9_min_7cf53 := Or.inl (List.mem_of_getElem? (i := 1111) (by decide +kernel))
theorem lk_X5_173 : LnkOK RX5 173 yX5_payersTo := Or.inl (List.mem_of_getElem? (i := 1132) (by decide +kernel))
theorem lk_X5_176 : LnkOK RX5 176 yX5_isFewer := Or.inl (List.mem_of_getElem? (i := 1152) (by decide +kernel))
theorem lk_X5_180 : LnkOK RX5 180 yX5_got := Or.inl (List.mem_of_getElem? (i := 1136) (by decide +kernel))
theorem fo_X6_11 : FldOK RX6 11 6 0 := ⟨RX6, TX6, 2, rfl, by decide, Or.inl (List.mem_of_getElem? (i := 134) (by decide +kernel))⟩
theorem fo_X6_15 : FldOK RX6 15 6 1 := ⟨RX6, TX6, 2, rfl, by decide, Or.inl (List.mem_of_getElem? (i := 135) (by decide +kernel))⟩
theorem fo_X7_9 : FldOK RX7 9 7 0 := ⟨RX7, TX7, 2, rfl, by decide, Or.inl (List.mem_of_getElem? (i := 148) (by decide +kernel))⟩
theorem fo_X7_15 : FldOK RX7 15 7 1 := ⟨RX7, TX7, 2, rfl, by decide, Or.inl (List.mem_of_getElem? (i := 150) (by decide +kernel))⟩
theorem lk_X7_19 : LnkOK RX7 19 yX7_clear := Or.inl (List.mem_of_getElem? (i := 844) (by decide +kernel))
theorem lk_X7_22 : LnkOK RX7 22 yX7_add := Or.inl (List.mem_of_getElem? (i := 845) (by decide +kernel))
theorem fo_X8_9 : FldOK RX8 9 8 0 := ⟨RX8, TX8, 20, rfl, by decide, Or.inl (List.mem_of_getElem? (i := 164) (by decide +kernel))⟩
theorem fo_X8_15 : FldOK RX8 15 8 1 := ⟨RX8, TX8, 20, rfl, by decide, Or.inl (List.mem_of_getElem? (i := 167) (by decide +kernel))⟩
theorem fo_X8_18 : FldOK RX8 18 8 2 := ⟨RX8, TX8, 20, rfl, by decide, Or.inl (List.mem_of_getElem? (i := 170) (by decide +kernel))⟩
theorem fo_X8_21 : FldOK RX8 21 8 3 := ⟨RX8, TX8, 20, rfl, by decide, Or.inl (List.mem_of_getElem? (i := 172) (by decide +kernel))⟩
theorem fo_X8_24 : FldOK RX8 24 8 4 := ⟨RX8, TX8, 20, rfl, by decide, Or.inl (List.mem_of_getElem? (i := 174) (by decide +kernel))⟩
theorem fo_X8_27 : FldOK RX8 27 8 5 := ⟨RX8, TX8, 20, rfl, by decide, Or.inl (List.mem_of_getElem? (i := 175) (by decide +kernel))⟩
theorem fo_X8_30 : FldOK RX8 30 8 6 := ⟨RX8, TX8, 20, rfl, by decide, Or.inl (List.mem_of_getElem? (i := 177) (by decide +kernel))⟩
theorem fo_X8_33 : FldOK RX8 33 8 7 := ⟨RX8, TX8, 20, rfl, by decide, Or.inl (List.mem_of_getElem? (i := 183) (by decide +kernel))⟩
theorem fo_X8_36 : FldOK RX8 36 8 8 := ⟨RX8, TX8, 20, rfl, by decide, Or.inl (List.mem_of_getElem? (i := 186) (by decide +kernel))⟩
theorem fo_X8_39 : FldOK RX8 39 8 9 := ⟨RX8, TX8, 20, rfl, by decide, Or.inl (List.mem_of_getElem? (i := 192) (by decide +kernel))⟩
theorem fo_X8_42 : FldOK RX8 42 8 10 := ⟨RX8, TX8, 20, rfl, by decide, Or.inl (List.mem_of_getElem? (i := 195) (by decide +kernel))⟩
theorem fo_X8_45 : FldOK RX8 45 8 11 := ⟨RX8, TX8, 20, rfl, by decide, Or.inl (List.mem_of_getElem? (i := 198) (by decide +kernel))⟩
theorem fo_X8_48 : FldOK RX8 48 8 12 := ⟨RX8, TX8, 20, rfl, by decide, Or.inl (List.mem_of_getElem? (i := 200) (by decide +kernel))⟩
theorem fo_X8_51 : FldOK RX8 51 8 13 := ⟨RX8, TX8, 20, rfl, by decide, Or.inl (List.mem_of_getElem? (i := 202) (by decide +kernel))⟩
theorem fo_X8_54 : FldOK RX8 54 8 14 := ⟨RX8, TX8, 20, rfl, by decide, Or.inl (List.mem_of_getElem? (i := 203) (by decide +kernel))⟩
theorem fo_X8_57 : FldOK RX8 57 8 19 := ⟨RX8, TX8, 20, rfl, by decide, Or.inl (List.mem_of_getElem? (i := 226) (by decide +kernel))⟩
theorem fo_X8_67 : FldOK RX8 67 8 15 := ⟨RX8, TX8, 20, rfl, by decide, Or.inl (List.mem_of_getElem? (i := 210) (by decide +kernel))⟩
theorem fo_X8_70 : FldOK RX8 70 8 16 := ⟨RX8, TX8, 20, rfl, by decide, Or.inl (List.mem_of_getElem? (i := 217) (by decide +kernel))⟩
theorem fo_X8_73 : FldOK RX8 73 8 17 := ⟨RX8, TX8, 20, rfl, by decide, Or.inl (List.mem_of_getElem? (i := 221) (by decide +kernel))⟩
theorem fo_X8_76 : FldOK RX8 76 8 18 := ⟨RX8, TX8, 20, rfl, by decide, Or.inl (List.mem_of_getElem? (i := 224) (by decide +kernel))⟩
theorem lk_X8_79 : LnkOK RX8 79 yX8_isDebt := Or.inl (List.mem_of_getElem? (i := 817) (by decide +kernel))
theorem lk_X8_83 : LnkOK RX8 83 yX8_counted := Or.inl (List.mem_of_getElem? (i := 765) (by decide +kernel))
theorem lk_X8_88 : LnkOK RX8 88 yX8_greatestUnder := Or.inl (List.mem_of_getElem? (i := 796) (by decide +kernel))
theorem lk_X8_92 : LnkOK RX8 92 yX8_everybody := Or.inl (List.mem_of_getElem? (i := 823) (by decide +kernel))
theorem lk_X8_96 : LnkOK RX8 96 yX8_isOpen := Or.inl (List.mem_of_getElem? (i := 813) (by decide +kernel))
theorem lk_X8_99 : LnkOK RX8 99 yX8_belowBits := Or.inl (List.mem_of_getElem? (i := 818) (by decide +kernel))
theorem lk_X8_102 : LnkOK RX8 102 yX8_outsiders := Or.inl (List.mem_of_getElem? (i := 819) (by decide +kernel))
theorem lk_X8_105 : LnkOK RX8 105 yX8_isPerson := Or.inl (List.mem_of_getElem? (i := 904) (by decide +kernel))
theorem lk_X8_108 : LnkOK RX8 108 yX8_makeList := Or.inl (List.mem_of_getElem? (i := 905) (by decide +kernel))
theorem lk_X8_111 : LnkOK RX8 111 yX8_payers := Or.inl (List.mem_of_getElem? (i := 906) (by decide +kernel))
theorem lk_X8_114 : LnkOK RX8 114 yX8_price := Or.inl (List.mem_of_getElem? (i := 911) (by decide +kernel))
theorem lk_X8_118 : LnkOK RX8 118 yX8_shift := Or.inl (List.mem_of_getElem? (i := 912) (by decide +kernel))
theorem lk_X8_122 : LnkOK RX8 122 yJ9_min_7cf53 := Or.inl (List.mem_of_getElem? (i := 945) (by decide +kernel))
theorem lk_X8_127 : LnkOK RX8 127 yX8_canGive := Or.inl (List.mem_of_getElem? (i := 971) (by decide +kernel))
theorem lk_X8_132 : LnkOK RX8 132 yX8_openDebtsOf := Or.inl (List.mem_of_getElem? (i := 876) (by decide +kernel))
theorem lk_X8_135 : LnkOK RX8 135 yX8_sumOf := Or.inl (List.mem_of_getElem? (i := 880) (by decide +kernel))
theorem lk_X8_138 : LnkOK RX8 138 yX8_openDebts := Or.inl (List.mem_of_getElem? (i := 1027) (by decide +kernel))
theorem lk_X9_9 : LnkOK RX9 9 yX6_length := Or.inl (List.mem_of_getElem? (i := 536) (by decide +kernel))
theorem lk_X9_17 : LnkOK RX9 17 yJ9_min_7cf53 := Or.inl (List.mem_of_getElem? (i := 537) (by decide +kernel))
theorem fo_X9_23 : FldOK RX9 23 9 0 := ⟨RX9, TX9, 2, rfl, by decide, Or.inl (List.mem_of_getElem? (i := 275) (by decide +kernel))⟩
theorem fo_X9_27 : FldOK RX9 27 9 1 := ⟨RX9, TX9, 2, rfl, by decide, Or.inl (List.mem_of_getElem? (i := 276) (by decide +kernel))⟩
theorem fo_X9_30 : FldOK RX9 30 8 15 := ⟨RX8, TX8, 20, rfl, by decide, Or.inr ⟨"PaidByPoorer", List.mem_of_getElem? (i := 208) (by decide +kernel)⟩⟩
theorem fo_X9_35 : FldOK RX9 35 8 16 := ⟨RX8, TX8, 20, rfl, by decide, Or.inr ⟨"PaidByPoorer", List.mem_of_getElem? (i := 215) (by decide +kernel)⟩⟩
theorem lk_X9_38 : LnkOK RX9 38 yX9_readLine := Or.inl (List.mem_of_getElem? (i := 540) (by decide +kernel))
theorem lk_X9_42 : LnkOK RX9 42 yX9_takes := Or.inl (List.mem_of_getElem? (i := 566) (by decide +kernel))
theorem lk_X9_46 : LnkOK RX9 46 yX6_at := Or.inl (List.mem_of_getElem? (i := 548) (by decide +kernel))
theorem lk_X9_50 : LnkOK RX9 50 yX9_peek := Or.inl (List.mem_of_getElem? (i := 544) (by decide +kernel))
theorem lk_X9_54 : LnkOK RX9 54 yX9_isDigit := Or.inl (List.mem_of_getElem? (i := 552) (by decide +kernel))
theorem lk_X9_58 : LnkOK RX9 58 yX9_readPerson := Or.inl (List.mem_of_getElem? (i := 555) (by decide +kernel))
theorem lk_X9_61 : LnkOK RX9 61 yX9_readDebt := Or.inl (List.mem_of_getElem? (i := 574) (by decide +kernel))
theorem lk_X9_64 : LnkOK RX9 64 yX9_number := Or.inl (List.mem_of_getElem? (i := 559) (by decide +kernel))
theorem lk_X9_68 : LnkOK RX9 68 yX8_addPerson := Or.inl (List.mem_of_getElem? (i := 570) (by decide +kernel))
theorem lk_X9_72 : LnkOK RX9 72 yX9_person := Or.inl (List.mem_of_getElem? (i := 578) (by decide +kernel))
theorem lk_X9_76 : LnkOK RX9 76 yX8_addDebt := Or.inl (List.mem_of_getElem? (i := 586) (by decide +kernel))
theorem lk_X9_80 : LnkOK RX9 80 yX8_isPerson := Or.inl (List.mem_of_getElem? (i := 582) (by decide +kernel))
theorem lk_X9_83 : LnkOK RX9 83 yJ9_max_7cf53 := Or.inl (List.mem_of_getElem? (i := 563) (by decide +kernel))
theorem lk_X10_11 : LnkOK RX10 11 yX6_init := Or.inl (List.mem_of_getElem? (i := 130) (by decide +kernel))
theorem fo_X10_12 : FldOK RX10 12 10 0 := ⟨RX10, TX10, 17, rfl, by decide, Or.inl (List.mem_of_getElem? (i := 456) (by decide +kernel))⟩
theorem lk_X10_18 : LnkOK RX10 18 yX7_init := Or.inl (List.mem_of_getElem? (i := 144) (by decide +kernel))
theorem fo_X10_19 : FldOK RX10 19 10 1 := ⟨RX10, TX10, 17, rfl, by decide, Or.inl (List.mem_of_getElem? (i := 457) (by decide +kernel))⟩
theorem lk_X10_25 : LnkOK RX10 25 yX8_init := Or.inl (List.mem_of_getElem? (i := 160) (by decide +kernel))
theorem fo_X10_26 : FldOK RX10 26 10 2 := ⟨RX10, TX10, 17, rfl, by decide, Or.inl (List.mem_of_getElem? (i := 458) (by decide +kernel))⟩
theorem fo_X10_30 : FldOK RX10 30 10 3 := ⟨RX10, TX10, 17, rfl, by decide, Or.inl (List.mem_of_getElem? (i := 459) (by decide +kernel))⟩
theorem fo_X10_33 : FldOK RX10 33 10 4 := ⟨RX10, TX10, 17, rfl, by decide, Or.inl (List.mem_of_getElem? (i := 460) (by decide +kernel))⟩
theorem fo_X10_36 : FldOK RX10 36 10 5 := ⟨RX10, TX10, 17, rfl, by decide, Or.inl (List.mem_of_getElem? (i := 461) (by decide +kernel))⟩
theorem lk_X10_41 : LnkOK RX10 41 yX9_init := Or.inr ⟨"PaidByPoorer", List.mem_of_getElem? (i := 271) (by decide +kernel)⟩
theorem fo_X10_42 : FldOK RX10 42 10 6 := ⟨RX10, TX10, 17, rfl, by decide, Or.inl (List.mem_of_getElem? (i := 462) (by decide +kernel))⟩
theorem lk_X10_48 : LnkOK RX10 48 yX3_init := Or.inl (List.mem_of_getElem? (i := 284) (by decide +kernel))
theorem fo_X10_49 : FldOK RX10 49 10 7 := ⟨RX10, TX10, 17, rfl, by decide, Or.inl (List.mem_of_getElem? (i := 463) (by decide +kernel))⟩
theorem lk_X10_55 : LnkOK RX10 55 yX4_init := Or.inl (List.mem_of_getElem? (i := 300) (by decide +kernel))
theorem fo_X10_56 : FldOK RX10 56 10 8 := ⟨RX10, TX10, 17, rfl, by decide, Or.inl (List.mem_of_getElem? (i := 464) (by decide +kernel))⟩
theorem lk_X10_62 : LnkOK RX10 62 yX1_init := Or.inl (List.mem_of_getElem? (i := 334) (by decide +kernel))
theorem fo_X10_63 : FldOK RX10 63 10 9 := ⟨RX10, TX10, 17, rfl, by decide, Or.inl (List.mem_of_getElem? (i := 465) (by decide +kernel))⟩
theorem lk_X10_69 : LnkOK RX10 69 yX5_init := Or.inl (List.mem_of_getElem? (i := 354) (by decide +kernel))
theorem fo_X10_70 : FldOK RX10 70 10 10 := ⟨RX10, TX10, 17, rfl, by decide, Or.inl (List.mem_of_getElem? (i := 466) (by decide +kernel))⟩
theorem lk_X10_76 : LnkOK RX10 76 yX2_init := Or.inl (List.mem_of_getElem? (i := 414) (by decide +kernel))
theorem fo_X10_77 : FldOK RX10 77 10 11 := ⟨RX10, TX10, 17, rfl, by decide, Or.inl (List.mem_of_getElem? (i := 467) (by decide +kernel))⟩
theorem lk_X10_83 : LnkOK RX10 83 yX0_init := Or.inl (List.mem_of_getElem? (i := 432) (by decide +kernel))
theorem fo_X10_84 : FldOK RX10 84 10 12 := ⟨RX10, TX10, 17, rfl, by decide, Or.inl (List.mem_of_getElem? (i := 468) (by decide +kernel))⟩
theorem fo_X10_88 : FldOK RX10 88 10 13 := ⟨RX10, TX10, 17, rfl, by decide, Or.inl (List.mem_of_getElem? (i := 469) (by decide +kernel))⟩
theorem lk_X10_92 : LnkOK RX10 92 yX6_addFour := Or.inl (List.mem_of_getElem? (i := 512) (by decide +kernel))
theorem lk_X10_96 : LnkOK RX10 96 yX6_length := Or.inl (List.mem_of_getElem? (i := 516) (by decide +kernel))
theorem lk_X10_100 : LnkOK RX10 100 yX6_cut := Or.inl (List.mem_of_getElem? (i := 524) (by decide +kernel))
theorem lk_X10_103 : LnkOK RX10 103 yX9_read := Or.inl (List.mem_of_getElem? (i := 532) (by decide +kernel))
theorem lk_X10_107 : LnkOK RX10 107 yX6_clear := Or.inl (List.mem_of_getElem? (i := 590) (by decide +kernel))
theorem lk_X10_110 : LnkOK RX10 110 yX10_forgetPayments := Or.inl (List.mem_of_getElem? (i := 594) (by decide +kernel))
theorem lk_X10_113 : LnkOK RX10 113 yX4_read := Or.inl (List.mem_of_getElem? (i := 602) (by decide +kernel))
theorem lk_X10_116 : LnkOK RX10 116 yX3_take := Or.inl (List.mem_of_getElem? (i := 733) (by decide +kernel))
theorem lk_X10_120 : LnkOK RX10 120 yX8_isPerson := Or.inl (List.mem_of_getElem? (i := 773) (by decide +kernel))
theorem fo_X10_126 : FldOK RX10 126 8 0 := ⟨RX8, TX8, 20, rfl, by decide, Or.inr ⟨"PaidByPoorer", List.mem_of_getElem? (i := 166) (by decide +kernel)⟩⟩
theorem fo_X10_129 : FldOK RX10 129 8 1 := ⟨RX8, TX8, 20, rfl, by decide, Or.inr ⟨"PaidByPoorer", List.mem_of_getElem? (i := 169) (by decide +kernel)⟩⟩
theorem fo_X10_132 : FldOK RX10 132 8 2 := ⟨RX8, TX8, 20, rfl, by decide, Or.inr ⟨"PaidByPoorer", List.mem_of_getElem? (i := 171) (by decide +kernel)⟩⟩
theorem fo_X10_135 : FldOK RX10 135 8 3 := ⟨RX8, TX8, 20, rfl, by decide, Or.inr ⟨"PaidByPoorer", List.mem_of_getElem? (i := 173) (by decide +kernel)⟩⟩
theorem lk_X10_138 : LnkOK RX10 138 yX8_makeList := Or.inl (List.mem_of_getElem? (i := 787) (by decide +kernel))
theorem fo_X10_141 : FldOK RX10 141 8 5 := ⟨RX8, TX8, 20, rfl, by decide, Or.inr ⟨"PaidByPoorer", List.mem_of_getElem? (i := 176) (by decide +kernel)⟩⟩
theorem lk_X10_144 : LnkOK RX10 144 yX8_openOwedBy := Or.inl (List.mem_of_getElem? (i := 1353) (by decide +kernel))
theorem lk_X10_148 : LnkOK RX10 148 yX8_openOwedTo := Or.inl (List.mem_of_getElem? (i := 1354) (by decide +kernel))
theorem lk_X10_151 : LnkOK RX10 151 yX8_favoursOwedBy := Or.inl (List.mem_of_getElem? (i := 1358) (by decide +kernel))
theorem lk_X10_154 : LnkOK RX10 154 yX8_favoursOwedTo := Or.inl (List.mem_of_getElem? (i := 1362) (by decide +kernel))
theorem lk_X10_157 : LnkOK RX10 157 yX8_isDebt := Or.inl (List.mem_of_getElem? (i := 805) (by decide +kernel))
theorem fo_X10_160 : FldOK RX10 160 8 6 := ⟨RX8, TX8, 20, rfl, by decide, Or.inr ⟨"PaidByPoorer", List.mem_of_getElem? (i := 181) (by decide +kernel)⟩⟩
theorem fo_X10_163 : FldOK RX10 163 8 7 := ⟨RX8, TX8, 20, rfl, by decide, Or.inr ⟨"PaidByPoorer", List.mem_of_getElem? (i := 184) (by decide +kernel)⟩⟩
theorem fo_X10_166 : FldOK RX10 166 8 8 := ⟨RX8, TX8, 20, rfl, by decide, Or.inr ⟨"PaidByPoorer", List.mem_of_getElem? (i := 189) (by decide +kernel)⟩⟩
theorem fo_X10_169 : FldOK RX10 169 8 9 := ⟨RX8, TX8, 20, rfl, by decide, Or.inr ⟨"PaidByPoorer", List.mem_of_getElem? (i := 194) (by decide +kernel)⟩⟩
theorem fo_X10_172 : FldOK RX10 172 8 10 := ⟨RX8, TX8, 20, rfl, by decide, Or.inr ⟨"PaidByPoorer", List.mem_of_getElem? (i := 197) (by decide +kernel)⟩⟩
theorem fo_X10_175 : FldOK RX10 175 8 11 := ⟨RX8, TX8, 20, rfl, by decide, Or.inr ⟨"PaidByPoorer", List.mem_of_getElem? (i := 199) (by decide +kernel)⟩⟩
theorem lk_X10_178 : LnkOK RX10 178 yX10_greatestLaw := Or.inl (List.mem_of_getElem? (i := 745) (by decide +kernel))
theorem fo_X10_181 : FldOK RX10 181 8 14 := ⟨RX8, TX8, 20, rfl, by decide, Or.inr ⟨"PaidByPoorer", List.mem_of_getElem? (i := 207) (by decide +kernel)⟩⟩
theorem fo_X10_184 : FldOK RX10 184 8 15 := ⟨RX8, TX8, 20, rfl, by decide, Or.inr ⟨"PaidByPoorer", List.mem_of_getElem? (i := 214) (by decide +kernel)⟩⟩
theorem lk_X10_188 : LnkOK RX10 188 yX10_entry := Or.inl (List.mem_of_getElem? (i := 752) (by decide +kernel))
theorem lk_X10_192 : LnkOK RX10 192 yJ9_min_7cf53 := Or.inl (List.mem_of_getElem? (i := 755) (by decide +kernel))
theorem lk_X10_197 : LnkOK RX10 197 yJ9_max_7cf53 := Or.inl (List.mem_of_getElem? (i := 756) (by decide +kernel))
theorem lk_X10_200 : LnkOK RX10 200 yX8_countList := Or.inl (List.mem_of_getElem? (i := 761) (by decide +kernel))
theorem lk_X10_203 : LnkOK RX10 203 yX8_draw := Or.inl (List.mem_of_getElem? (i := 778) (by decide +kernel))
theorem lk_X10_206 : LnkOK RX10 206 yX8_belowBits := Or.inl (List.mem_of_getElem? (i := 791) (by decide +kernel))
theorem lk_X10_209 : LnkOK RX10 209 yX8_payers := Or.inl (List.mem_of_getElem? (i := 809) (by decide +kernel))
theorem lk_X10_212 : LnkOK RX10 212 yX7_clear := Or.inl (List.mem_of_getElem? (i := 827) (by decide +kernel))
theorem lk_X10_213 : LnkOK RX10 213 yX10_tellCheapest := Or.inl (List.mem_of_getElem? (i := 831) (by decide +kernel))
theorem lk_X10_218 : LnkOK RX10 218 yX8_price := Or.inl (List.mem_of_getElem? (i := 836) (by decide +kernel))
theorem lk_X10_221 : LnkOK RX10 221 yX7_tell_ := Or.inl (List.mem_of_getElem? (i := 840) (by decide +kernel))
theorem lk_X10_225 : LnkOK RX10 225 yX3_chosen := Or.inl (List.mem_of_getElem? (i := 853) (by decide +kernel))
theorem lk_X10_229 : LnkOK RX10 229 yX3_worth := Or.inl (List.mem_of_getElem? (i := 891) (by decide +kernel))
theorem lk_X10_233 : LnkOK RX10 233 yX7_tell := Or.inl (List.mem_of_getElem? (i := 892) (by decide +kernel))
theorem lk_X10_236 : LnkOK RX10 236 yX8_canPay := Or.inl (List.mem_of_getElem? (i := 900) (by decide +kernel))
theorem fo_X10_240 : FldOK RX10 240 10 14 := ⟨RX10, TX10, 17, rfl, by decide, Or.inl (List.mem_of_getElem? (i := 470) (by decide +kernel))⟩
theorem lk_X10_243 : LnkOK RX10 243 yX8_makePayment := Or.inl (List.mem_of_getElem? (i := 907) (by decide +kernel))
theorem lk_X10_246 : LnkOK RX10 246 yX8_unmakePayment := Or.inl (List.mem_of_getElem? (i := 920) (by decide +kernel))
theorem lk_X10_250 : LnkOK RX10 250 yX8_copyFrom := Or.inl (List.mem_of_getElem? (i := 928) (by decide +kernel))
theorem fo_X10_254 : FldOK RX10 254 8 12 := ⟨RX8, TX8, 20, rfl, by decide, Or.inr ⟨"PaidByPoorer", List.mem_of_getElem? (i := 201) (by decide +kernel)⟩⟩
theorem lk_X10_257 : LnkOK RX10 257 yX8_setOff := Or.inl (List.mem_of_getElem? (i := 941) (by decide +kernel))
theorem lk_X10_260 : LnkOK RX10 260 yX8_canGive := Or.inl (List.mem_of_getElem? (i := 950) (by decide +kernel))
theorem lk_X10_264 : LnkOK RX10 264 yX8_shift := Or.inl (List.mem_of_getElem? (i := 954) (by decide +kernel))
theorem fo_X10_268 : FldOK RX10 268 8 17 := ⟨RX8, TX8, 20, rfl, by decide, Or.inr ⟨"PaidByPoorer", List.mem_of_getElem? (i := 222) (by decide +kernel)⟩⟩
theorem lk_X10_271 : LnkOK RX10 271 yX8_noteLent := Or.inl (List.mem_of_getElem? (i := 959) (by decide +kernel))
theorem lk_X10_274 : LnkOK RX10 274 yX8_giveLastBack := Or.inl (List.mem_of_getElem? (i := 967) (by decide +kernel))
theorem lk_X10_278 : LnkOK RX10 278 yX8_isOpen := Or.inl (List.mem_of_getElem? (i := 976) (by decide +kernel))
theorem lk_X10_281 : LnkOK RX10 281 yX1_leastGift := Or.inl (List.mem_of_getElem? (i := 977) (by decide +kernel))
theorem fo_X10_284 : FldOK RX10 284 1 1 := ⟨RX1, TX1, 3, rfl, by decide, Or.inr ⟨"PaidByPoorer", List.mem_of_getElem? (i := 342) (by decide +kernel)⟩⟩
theorem fo_X10_287 : FldOK RX10 287 1 2 := ⟨RX1, TX1, 3, rfl, by decide, Or.inr ⟨"PaidByPoorer", List.mem_of_getElem? (i := 344) (by decide +kernel)⟩⟩
theorem lk_X10_289 : LnkOK RX10 289 yX1_leastLoss := Or.inl (List.mem_of_getElem? (i := 998) (by decide +kernel))
theorem lk_X10_292 : LnkOK RX10 292 yX5_visit := Or.inl (List.mem_of_getElem? (i := 1014) (by decide +kernel))
theorem lk_X10_296 : LnkOK RX10 296 yX10_isDay := Or.inl (List.mem_of_getElem? (i := 1007) (by decide +kernel))
theorem lk_X10_299 : LnkOK RX10 299 yX10_visit := Or.inl (List.mem_of_getElem? (i := 1010) (by decide +kernel))
theorem lk_X10_301 : LnkOK RX10 301 yX5_greatestSum := Or.inl (List.mem_of_getElem? (i := 1077) (by decide +kernel))
theorem fo_X10_304 : FldOK RX10 304 5 9 := ⟨RX5, TX5, 15, rfl, by decide, Or.inr ⟨"PaidByPoorer", List.mem_of_getElem? (i := 373) (by decide +kernel)⟩⟩
theorem lk_X10_307 : LnkOK RX10 307 yX5_mostPaid := Or.inl (List.mem_of_getElem? (i := 1083) (by decide +kernel))
theorem lk_X10_310 : LnkOK RX10 310 yX5_cheapestEnd := Or.inl (List.mem_of_getElem? (i := 1097) (by decide +kernel))
theorem lk_X10_313 : LnkOK RX10 313 yX10_tellPayments := Or.inl (List.mem_of_getElem? (i := 1101) (by decide +kernel))
theorem fo_X10_316 : FldOK RX10 316 5 6 := ⟨RX5, TX5, 15, rfl, by decide, Or.inr ⟨"PaidByPoorer", List.mem_of_getElem? (i := 368) (by decide +kernel)⟩⟩
theorem fo_X10_319 : FldOK RX10 319 5 5 := ⟨RX5, TX5, 15, rfl, by decide, Or.inr ⟨"PaidByPoorer", List.mem_of_getElem? (i := 366) (by decide +kernel)⟩⟩
theorem lk_X10_322 : LnkOK RX10 322 yJ6_bitCount_0f7a4 := Or.inl (List.mem_of_getElem? (i := 1105) (by decide +kernel))
theorem lk_X10_327 : LnkOK RX10 327 yX5_payment := Or.inl (List.mem_of_getElem? (i := 1106) (by decide +kernel))
theorem lk_X10_330 : LnkOK RX10 330 yX7_add := Or.inl (List.mem_of_getElem? (i := 1112) (by decide +kernel))
theorem fo_X10_333 : FldOK RX10 333 5 10 := ⟨RX5, TX5, 15, rfl, by decide, Or.inr ⟨"PaidByPoorer", List.mem_of_getElem? (i := 375) (by decide +kernel)⟩⟩
theorem fo_X10_336 : FldOK RX10 336 5 11 := ⟨RX5, TX5, 15, rfl, by decide, Or.inr ⟨"PaidByPoorer", List.mem_of_getElem? (i := 377) (by decide +kernel)⟩⟩
theorem lk_X10_343 : LnkOK RX10 343 yX5_fullWays := Or.inl (List.mem_of_getElem? (i := 1123) (by decide +kernel))
theorem lk_X10_347 : LnkOK RX10 347 yX8_everybody := Or.inl (List.mem_of_getElem? (i := 1127) (by decide +kernel))
theorem lk_X10_350 : LnkOK RX10 350 yX5_allPayers := Or.inl (List.mem_of_getElem? (i := 1128) (by decide +kernel))
theorem fo_X10_353 : FldOK RX10 353 5 8 := ⟨RX5, TX5, 15, rfl, by decide, Or.inr ⟨"PaidByPoorer", List.mem_of_getElem? (i := 371) (by decide +kernel)⟩⟩
theorem lk_X10_356 : LnkOK RX10 356 yX5_fewestPayers := Or.inl (List.mem_of_getElem? (i := 1148) (by decide +kernel))
theorem lk_X10_359 : LnkOK RX10 359 yX2_look := Or.inl (List.mem_of_getElem? (i := 1163) (by decide +kernel))
theorem lk_X10_363 : LnkOK RX10 363 yX2_tooGreat := Or.inl (List.mem_of_getElem? (i := 1172) (by decide +kernel))
theorem lk_X10_366 : LnkOK RX10 366 yX2_greatestFlow := Or.inl (List.mem_of_getElem? (i := 1181) (by decide +kernel))
theorem lk_X10_369 : LnkOK RX10 369 yX2_leastBar := Or.inl (List.mem_of_getElem? (i := 1204) (by decide +kernel))
theorem lk_X10_372 : LnkOK RX10 372 yX2_sumsBehind := Or.inl (List.mem_of_getElem? (i := 1205) (by decide +kernel))
theorem lk_X10_375 : LnkOK RX10 375 yX2_debtsBehind := Or.inl (List.mem_of_getElem? (i := 1206) (by decide +kernel))
theorem lk_X10_378 : LnkOK RX10 378 yX8_openDebtsOf := Or.inl (List.mem_of_getElem? (i := 1215) (by decide +kernel))
theorem lk_X10_381 : LnkOK RX10 381 yX10_isSpan := Or.inl (List.mem_of_getElem? (i := 1220) (by decide +kernel))
theorem lk_X10_384 : LnkOK RX10 384 yX0_pass := Or.inl (List.mem_of_getElem? (i := 1223) (by decide +kernel))
theorem fo_X10_388 : FldOK RX10 388 0 4 := ⟨RX0, TX0, 5, rfl, by decide, Or.inr ⟨"PaidByPoorer", List.mem_of_getElem? (i := 444) (by decide +kernel)⟩⟩
theorem lk_X10_391 : LnkOK RX10 391 yX8_sumOf := Or.inl (List.mem_of_getElem? (i := 1235) (by decide +kernel))
theorem fo_X10_394 : FldOK RX10 394 0 2 := ⟨RX0, TX0, 5, rfl, by decide, Or.inr ⟨"PaidByPoorer", List.mem_of_getElem? (i := 440) (by decide +kernel)⟩⟩
theorem fo_X10_396 : FldOK RX10 396 0 1 := ⟨RX0, TX0, 5, rfl, by decide, Or.inr ⟨"PaidByPoorer", List.mem_of_getElem? (i := 438) (by decide +kernel)⟩⟩
theorem fo_X10_399 : FldOK RX10 399 0 3 := ⟨RX0, TX0, 5, rfl, by decide, Or.inr ⟨"PaidByPoorer", List.mem_of_getElem? (i := 442) (by decide +kernel)⟩⟩
theorem lk_X10_401 : LnkOK RX10 401 yX10_wealthBehind := Or.inl (List.mem_of_getElem? (i := 1377) (by decide +kernel))
theorem lk_X10_405 : LnkOK RX10 405 yX8_allCoin := Or.inl (List.mem_of_getElem? (i := 1248) (by decide +kernel))
theorem lk_X10_408 : LnkOK RX10 408 yJ9_abs_0f7a4 := Or.inl (List.mem_of_getElem? (i := 1249) (by decide +kernel))
theorem lk_X10_411 : LnkOK RX10 411 yX10_tellFraction := Or.inl (List.mem_of_getElem? (i := 1252) (by decide +kernel))
theorem lk_X10_414 : LnkOK RX10 414 yX10_commonMeasure := Or.inl (List.mem_of_getElem? (i := 1256) (by decide +kernel))
theorem fo_X10_418 : FldOK RX10 418 8 18 := ⟨RX8, TX8, 20, rfl, by decide, Or.inr ⟨"PaidByPoorer", List.mem_of_getElem? (i := 225) (by decide +kernel)⟩⟩
theorem fo_X10_421 : FldOK RX10 421 8 19 := ⟨RX8, TX8, 20, rfl, by decide, Or.inr ⟨"PaidByPoorer", List.mem_of_getElem? (i := 227) (by decide +kernel)⟩⟩
theorem fo_X10_424 : FldOK RX10 424 10 15 := ⟨RX10, TX10, 17, rfl, by decide, Or.inl (List.mem_of_getElem? (i := 471) (by decide +kernel))⟩
theorem fo_X10_428 : FldOK RX10 428 10 16 := ⟨RX10, TX10, 17, rfl, by decide, Or.inl (List.mem_of_getElem? (i := 472) (by decide +kernel))⟩
theorem lk_X10_431 : LnkOK RX10 431 yX10_takeAgain := Or.inl (List.mem_of_getElem? (i := 1275) (by decide +kernel))
theorem fo_X10_435 : FldOK RX10 435 8 16 := ⟨RX8, TX8, 20, rfl, by decide, Or.inr ⟨"PaidByPoorer", List.mem_of_getElem? (i := 220) (by decide +kernel)⟩⟩
theorem lk_X10_438 : LnkOK RX10 438 yX8_openDebts := Or.inl (List.mem_of_getElem? (i := 1283) (by decide +kernel))
theorem fo_X10_441 : FldOK RX10 441 7 1 := ⟨RX7, TX7, 2, rfl, by decide, Or.inr ⟨"PaidByPoorer", List.mem_of_getElem? (i := 151) (by decide +kernel)⟩⟩
theorem fo_X10_442 : FldOK RX10 442 7 0 := ⟨RX7, TX7, 2, rfl, by decide, Or.inr ⟨"PaidByPoorer", List.mem_of_getElem? (i := 149) (by decide +kernel)⟩⟩
theorem fo_X11_9 : FldOK RX11 9 11 1 := ⟨RX11, TX11, 59, rfl, by decide, Or.inl (List.mem_of_getElem? (i := 1396) (by decide +kernel))⟩
theorem fo_X11_13 : FldOK RX11 13 11 2 := ⟨RX11, TX11, 59, rfl, by decide, Or.inl (List.mem_of_getElem? (i := 1397) (by decide +kernel))⟩
theorem fo_X11_16 : FldOK RX11 16 11 3 := ⟨RX11, TX11, 59, rfl, by decide, Or.inl (List.mem_of_getElem? (i := 1398) (by decide +kernel))⟩
theorem fo_X11_20 : FldOK RX11 20 11 4 := ⟨RX11, TX11, 59, rfl, by decide, Or.inl (List.mem_of_getElem? (i := 1399) (by decide +kernel))⟩
theorem fo_X11_23 : FldOK RX11 23 11 5 := ⟨RX11, TX11, 59, rfl, by decide, Or.inl (List.mem_of_getElem? (i := 1400) (by decide +kernel))⟩
theorem fo_X11_26 : FldOK RX11 26 11 6 := ⟨RX11, TX11, 59, rfl, by decide, Or.inl (List.mem_of_getElem? (i := 1401) (by decide +kernel))⟩
theorem fo_X11_29 : FldOK RX11 29 11 8 := ⟨RX11, TX11, 59, rfl, by decide, Or.inl (List.mem_of_getElem? (i := 1403) (by decide +kernel))⟩
theorem fo_X11_32 : FldOK RX11 32 11 9 := ⟨RX11, TX11, 59, rfl, by decide, Or.inl (List.mem_of_getElem? (i := 1404) (by decide +kernel))⟩
theorem fo_X11_35 : FldOK RX11 35 11 10 := ⟨RX11, TX11, 59, rfl, by decide, Or.inl (List.mem_of_getElem? (i := 1405) (by decide +kernel))⟩
theorem fo_X11_38 : FldOK RX11 38 11 11 := ⟨RX11, TX11, 59, rfl, by decide, Or.inl (List.mem_of_getElem? (i := 1406) (by decide +kernel))⟩
theorem fo_X11_41 : FldOK RX11 41 11 12 := ⟨RX11, TX11, 59, rfl, by decide, Or.inl (List.mem_of_getElem? (i := 1407) (by decide +kernel))⟩
theorem fo_X11_44 : FldOK RX11 44 11 13 := ⟨RX11, TX11, 59, rfl, by decide, Or.inl (List.mem_of_getElem? (i := 1408) (by decide +kernel))⟩
theorem fo_X11_47 : FldOK RX11 47 11 14 := ⟨RX11, TX11, 59, rfl, by decide, Or.inl (List.mem_of_getElem? (i := 1409) (by decide +kernel))⟩
theorem fo_X11_50 : FldOK RX11 50 11 16 := ⟨RX11, TX11, 59, rfl, by decide, Or.inl (List.mem_of_getElem? (i := 1411) (by decide +kernel))⟩
theorem fo_X11_54 : FldOK RX11 54 11 17 := ⟨RX11, TX11, 59, rfl, by decide, Or.inl (List.mem_of_getElem? (i := 1412) (by decide +kernel))⟩
theorem fo_X11_58 : FldOK RX11 58 11 19 := ⟨RX11, TX11, 59, rfl, by decide, Or.inl (List.mem_of_getElem? (i := 1414) (by decide +kernel))⟩
theorem fo_X11_62 : FldOK RX11 62 11 27 := ⟨RX11, TX11, 59, rfl, by decide, Or.inl (List.mem_of_getElem? (i := 1422) (by decide +kernel))⟩
theorem fo_X11_65 : FldOK RX11 65 11 29 := ⟨RX11, TX11, 59, rfl, by decide, Or.inl (List.mem_of_getElem? (i := 1424) (by decide +kernel))⟩
theorem fo_X11_68 : FldOK RX11 68 11 31 := ⟨RX11, TX11, 59, rfl, by decide, Or.inl (List.mem_of_getElem? (i := 1426) (by decide +kernel))⟩
theorem fo_X11_71 : FldOK RX11 71 11 33 := ⟨RX11, TX11, 59, rfl, by decide, Or.inl (List.mem_of_getElem? (i := 1428) (by decide +kernel))⟩
theorem fo_X11_74 : FldOK RX11 74 11 35 := ⟨RX11, TX11, 59, rfl, by decide, Or.inl (List.mem_of_getElem? (i := 1430) (by decide +kernel))⟩
theorem fo_X11_77 : FldOK RX11 77 11 36 := ⟨RX11, TX11, 59, rfl, by decide, Or.inl (List.mem_of_getElem? (i := 1431) (by decide +kernel))⟩
theorem fo_X11_81 : FldOK RX11 81 11 37 := ⟨RX11, TX11, 59, rfl, by decide, Or.inl (List.mem_of_getElem? (i := 1432) (by decide +kernel))⟩
theorem fo_X11_84 : FldOK RX11 84 11 38 := ⟨RX11, TX11, 59, rfl, by decide, Or.inl (List.mem_of_getElem? (i := 1433) (by decide +kernel))⟩
theorem fo_X11_87 : FldOK RX11 87 11 39 := ⟨RX11, TX11, 59, rfl, by decide, Or.inl (List.mem_of_getElem? (i := 1434) (by decide +kernel))⟩
theorem fo_X11_90 : FldOK RX11 90 11 40 := ⟨RX11, TX11, 59, rfl, by decide, Or.inl (List.mem_of_getElem? (i := 1435) (by decide +kernel))⟩
theorem fo_X11_93 : FldOK RX11 93 11 41 := ⟨RX11, TX11, 59, rfl, by decide, Or.inl (List.mem_of_getElem? (i := 1436) (by decide +kernel))⟩
theorem fo_X11_96 : FldOK RX11 96 11 42 := ⟨RX11, TX11, 59, rfl, by decide, Or.inl (List.mem_of_getElem? (i := 1437) (by decide +kernel))⟩
theorem fo_X11_99 : FldOK RX11 99 11 43 := ⟨RX11, TX11, 59, rfl, by decide, Or.inl (List.mem_of_getElem? (i := 1438) (by decide +kernel))⟩
theorem fo_X11_102 : FldOK RX11 102 11 45 := ⟨RX11, TX11, 59, rfl, by decide, Or.inl (List.mem_of_getElem? (i := 1440) (by decide +kernel))⟩
theorem fo_X11_105 : FldOK RX11 105 11 47 := ⟨RX11, TX11, 59, rfl, by decide, Or.inl (List.mem_of_getElem? (i := 1442) (by decide +kernel))⟩
theorem fo_X11_108 : FldOK RX11 108 11 48 := ⟨RX11, TX11, 59, rfl, by decide, Or.inl (List.mem_of_getElem? (i := 1443) (by decide +kernel))⟩
theorem fo_X11_111 : FldOK RX11 111 11 49 := ⟨RX11, TX11, 59, rfl, by decide, Or.inl (List.mem_of_getElem? (i := 1444) (by decide +kernel))⟩
theorem fo_X11_114 : FldOK RX11 114 11 54 := ⟨RX11, TX11, 59, rfl, by decide, Or.inl (List.mem_of_getElem? (i := 1449) (by decide +kernel))⟩
theorem fo_X11_117 : FldOK RX11 117 11 56 := ⟨RX11, TX11, 59, rfl, by decide, Or.inl (List.mem_of_getElem? (i := 1451) (by decide +kernel))⟩
theorem fo_X11_120 : FldOK RX11 120 11 57 := ⟨RX11, TX11, 59, rfl, by decide, Or.inl (List.mem_of_getElem? (i := 1452) (by decide +kernel))⟩
theorem fo_X11_123 : FldOK RX11 123 11 58 := ⟨RX11, TX11, 59, rfl, by decide, Or.inl (List.mem_of_getElem? (i := 1453) (by decide +kernel))⟩
theorem fo_X11_126 : FldOK RX11 126 11 21 := ⟨RX11, TX11, 59, rfl, by decide, Or.inl (List.mem_of_getElem? (i := 1416) (by decide +kernel))⟩
theorem fo_X11_129 : FldOK RX11 129 11 20 := ⟨RX11, TX11, 59, rfl, by decide, Or.inl (List.mem_of_getElem? (i := 1415) (by decide +kernel))⟩
theorem fo_X11_132 : FldOK RX11 132 11 0 := ⟨RX11, TX11, 59, rfl, by decide, Or.inl (List.mem_of_getElem? (i := 1395) (by decide +kernel))⟩
theorem lk_X11_135 : LnkOK RX11 135 yX11_in := Or.inl (List.mem_of_getElem? (i := 1585) (by decide +kernel))
theorem fo_X11_139 : FldOK RX11 139 11 7 := ⟨RX11, TX11, 59, rfl, by decide, Or.inl (List.mem_of_getElem? (i := 1402) (by decide +kernel))⟩
theorem lk_X11_142 : LnkOK RX11 142 yX11_isDebt := Or.inl (List.mem_of_getElem? (i := 1699) (by decide +kernel))
theorem fo_X11_146 : FldOK RX11 146 11 18 := ⟨RX11, TX11, 59, rfl, by decide, Or.inl (List.mem_of_getElem? (i := 1413) (by decide +kernel))⟩
theorem fo_X11_149 : FldOK RX11 149 11 22 := ⟨RX11, TX11, 59, rfl, by decide, Or.inl (List.mem_of_getElem? (i := 1417) (by decide +kernel))⟩
theorem fo_X11_152 : FldOK RX11 152 11 23 := ⟨RX11, TX11, 59, rfl, by decide, Or.inl (List.mem_of_getElem? (i := 1418) (by decide +kernel))⟩
theorem fo_X11_155 : FldOK RX11 155 11 24 := ⟨RX11, TX11, 59, rfl, by decide, Or.inl (List.mem_of_getElem? (i := 1419) (by decide +kernel))⟩
theorem fo_X11_158 : FldOK RX11 158 11 25 := ⟨RX11, TX11, 59, rfl, by decide, Or.inl (List.mem_of_getElem? (i := 1420) (by decide +kernel))⟩
theorem fo_X11_161 : FldOK RX11 161 11 26 := ⟨RX11, TX11, 59, rfl, by decide, Or.inl (List.mem_of_getElem? (i := 1421) (by decide +kernel))⟩
theorem lk_X11_164 : LnkOK RX11 164 yX11_fine := Or.inl (List.mem_of_getElem? (i := 1596) (by decide +kernel))
theorem lk_X11_168 : LnkOK RX11 168 yX11_here := Or.inl (List.mem_of_getElem? (i := 1600) (by decide +kernel))
theorem lk_X11_172 : LnkOK RX11 172 yX11_passes := Or.inl (List.mem_of_getElem? (i := 1622) (by decide +kernel))
theorem lk_X11_176 : LnkOK RX11 176 yX11_fault := Or.inl (List.mem_of_getElem? (i := 1604) (by decide +kernel))
theorem lk_X11_184 : LnkOK RX11 184 yX11_begin := Or.inl (List.mem_of_getElem? (i := 1592) (by decide +kernel))
theorem lk_X11_188 : LnkOK RX11 188 yX11_readDebt := Or.inl (List.mem_of_getElem? (i := 1608) (by decide +kernel))
theorem lk_X11_192 : LnkOK RX11 192 yX11_readOne := Or.inl (List.mem_of_getElem? (i := 1626) (by decide +kernel))
theorem fo_X11_195 : FldOK RX11 195 11 55 := ⟨RX11, TX11, 59, rfl, by decide, Or.inl (List.mem_of_getElem? (i := 1450) (by decide +kernel))⟩
theorem fo_X11_198 : FldOK RX11 198 11 32 := ⟨RX11, TX11, 59, rfl, by decide, Or.inl (List.mem_of_getElem? (i := 1427) (by decide +kernel))⟩
theorem lk_X11_201 : LnkOK RX11 201 yX11_number := Or.inl (List.mem_of_getElem? (i := 1612) (by decide +kernel))
theorem lk_X11_205 : LnkOK RX11 205 yX11_need := Or.inl (List.mem_of_getElem? (i := 1618) (by decide +kernel))
theorem lk_X11_209 : LnkOK RX11 209 yX11_sum := Or.inl (List.mem_of_getElem? (i := 1638) (by decide +kernel))
theorem lk_X11_213 : LnkOK RX11 213 yX11_product := Or.inl (List.mem_of_getElem? (i := 1642) (by decide +kernel))
theorem lk_X11_216 : LnkOK RX11 216 yX11_thing := Or.inl (List.mem_of_getElem? (i := 1646) (by decide +kernel))
theorem lk_X11_219 : LnkOK RX11 219 yX11_held := Or.inl (List.mem_of_getElem? (i := 1634) (by decide +kernel))
theorem lk_X11_222 : LnkOK RX11 222 yX11_letter := Or.inl (List.mem_of_getElem? (i := 1650) (by decide +kernel))
theorem lk_X11_225 : LnkOK RX11 225 yX11_counted := Or.inl (List.mem_of_getElem? (i := 1654) (by decide +kernel))
theorem fo_X11_228 : FldOK RX11 228 11 30 := ⟨RX11, TX11, 59, rfl, by decide, Or.inl (List.mem_of_getElem? (i := 1425) (by decide +kernel))⟩
theorem lk_X11_231 : LnkOK RX11 231 yX11_priceOf := Or.inl (List.mem_of_getElem? (i := 1658) (by decide +kernel))
theorem lk_X11_235 : LnkOK RX11 235 yX11_favoursOwed := Or.inl (List.mem_of_getElem? (i := 1662) (by decide +kernel))
theorem lk_X11_238 : LnkOK RX11 238 yX11_openOf := Or.inl (List.mem_of_getElem? (i := 1666) (by decide +kernel))
theorem fo_X11_241 : FldOK RX11 241 11 28 := ⟨RX11, TX11, 59, rfl, by decide, Or.inl (List.mem_of_getElem? (i := 1423) (by decide +kernel))⟩
theorem lk_X11_244 : LnkOK RX11 244 yX11_isOne := Or.inl (List.mem_of_getElem? (i := 1674) (by decide +kernel))
theorem lk_X11_249 : LnkOK RX11 249 yX11_lost := Or.inl (List.mem_of_getElem? (i := 1679) (by decide +kernel))
theorem lk_X11_252 : LnkOK RX11 252 yX11_onList := Or.inl (List.mem_of_getElem? (i := 1683) (by decide +kernel))
theorem lk_X11_255 : LnkOK RX11 255 yX11_openTo := Or.inl (List.mem_of_getElem? (i := 1687) (by decide +kernel))
theorem lk_X11_258 : LnkOK RX11 258 yX11_favoursOwing := Or.inl (List.mem_of_getElem? (i := 1691) (by decide +kernel))
theorem lk_X11_267 : LnkOK RX11 267 yJ9_min_7cf53 := Or.inl (List.mem_of_getElem? (i := 1714) (by decide +kernel))
theorem lk_X11_272 : LnkOK RX11 272 yJ9_max_7cf53 := Or.inl (List.mem_of_getElem? (i := 1715) (by decide +kernel))
theorem lk_X11_275 : LnkOK RX11 275 yX11_takeNoon := Or.inl (List.mem_of_getElem? (i := 1720) (by decide +kernel))
theorem lk_X11_281 : LnkOK RX11 281 yX11_isBelow := Or.inl (List.mem_of_getElem? (i := 1738) (by decide +kernel))
theorem lk_X11_285 : LnkOK RX11 285 yX11_may := Or.inl (List.mem_of_getElem? (i := 1750) (by decide +kernel))
theorem lk_X11_288 : LnkOK RX11 288 yX11_mayPay := Or.inl (List.mem_of_getElem? (i := 1746) (by decide +kernel))
theorem lk_X11_291 : LnkOK RX11 291 yX11_has := Or.inl (List.mem_of_getElem? (i := 1754) (by decide +kernel))
theorem lk_X11_294 : LnkOK RX11 294 yX11_tell := Or.inl (List.mem_of_getElem? (i := 1757) (by decide +kernel))
theorem lk_X11_298 : LnkOK RX11 298 yX11_ruleFor := Or.inl (List.mem_of_getElem? (i := 1769) (by decide +kernel))
theorem lk_X11_301 : LnkOK RX11 301 yX11_willingTo := Or.inl (List.mem_of_getElem? (i := 1765) (by decide +kernel))
theorem lk_X11_304 : LnkOK RX11 304 yX11_make := Or.inl (List.mem_of_getElem? (i := 1777) (by decide +kernel))
theorem lk_X11_307 : LnkOK RX11 307 yX11_unmake := Or.inl (List.mem_of_getElem? (i := 1785) (by decide +kernel))
theorem lk_X11_312 : LnkOK RX11 312 yX11_isOpen := Or.inl (List.mem_of_getElem? (i := 1794) (by decide +kernel))
theorem lk_X11_315 : LnkOK RX11 315 yX11_canGive := Or.inl (List.mem_of_getElem? (i := 1810) (by decide +kernel))
theorem fo_X11_319 : FldOK RX11 319 11 34 := ⟨RX11, TX11, 59, rfl, by decide, Or.inl (List.mem_of_getElem? (i := 1429) (by decide +kernel))⟩
theorem lk_X11_322 : LnkOK RX11 322 yX11_isState := Or.inl (List.mem_of_getElem? (i := 1849) (by decide +kernel))
theorem fo_X11_325 : FldOK RX11 325 11 44 := ⟨RX11, TX11, 59, rfl, by decide, Or.inl (List.mem_of_getElem? (i := 1439) (by decide +kernel))⟩
theorem lk_X11_328 : LnkOK RX11 328 yX11_dueBy := Or.inl (List.mem_of_getElem? (i := 1841) (by decide +kernel))
theorem fo_X11_331 : FldOK RX11 331 11 46 := ⟨RX11, TX11, 59, rfl, by decide, Or.inl (List.mem_of_getElem? (i := 1441) (by decide +kernel))⟩
theorem lk_X11_334 : LnkOK RX11 334 yX11_stateOf := Or.inl (List.mem_of_getElem? (i := 1845) (by decide +kernel))
theorem lk_X11_337 : LnkOK RX11 337 yJ6_bitCount_0f7a4 := Or.inl (List.mem_of_getElem? (i := 1853) (by decide +kernel))
theorem lk_X11_342 : LnkOK RX11 342 yX11_orderLayer := Or.inl (List.mem_of_getElem? (i := 1854) (by decide +kernel))
theorem lk_X11_345 : LnkOK RX11 345 yX11_load := Or.inl (List.mem_of_getElem? (i := 1862) (by decide +kernel))
theorem lk_X11_348 : LnkOK RX11 348 yX11_lead := Or.inl (List.mem_of_getElem? (i := 1866) (by decide +kernel))
theorem lk_X11_352 : LnkOK RX11 352 yX11_isRowLess := Or.inl (List.mem_of_getElem? (i := 1858) (by decide +kernel))
theorem lk_X11_355 : LnkOK RX11 355 yX11_isDay := Or.inl (List.mem_of_getElem? (i := 1834) (by decide +kernel))
theorem lk_X11_358 : LnkOK RX11 358 yX11_findStates := Or.inl (List.mem_of_getElem? (i := 1837) (by decide +kernel))
theorem lk_X11_361 : LnkOK RX11 361 yX11_sumOf := Or.inl (List.mem_of_getElem? (i := 1870) (by decide +kernel))
theorem lk_X11_364 : LnkOK RX11 364 yX11_mostPaid := Or.inl (List.mem_of_getElem? (i := 1874) (by decide +kernel))
theorem lk_X11_371 : LnkOK RX11 371 yX11_canAll := Or.inl (List.mem_of_getElem? (i := 1900) (by decide +kernel))
theorem lk_X11_374 : LnkOK RX11 374 yX11_partsBy := Or.inl (List.mem_of_getElem? (i := 1912) (by decide +kernel))
theorem lk_X11_377 : LnkOK RX11 377 yX11_countedOf := Or.inl (List.mem_of_getElem? (i := 1916) (by decide +kernel))
theorem lk_X11_380 : LnkOK RX11 380 yX11_leftTo := Or.inl (List.mem_of_getElem? (i := 1929) (by decide +kernel))
theorem lk_X11_384 : LnkOK RX11 384 yX11_boundOf := Or.inl (List.mem_of_getElem? (i := 1925) (by decide +kernel))
theorem lk_X11_387 : LnkOK RX11 387 yX11_flowOf := Or.inl (List.mem_of_getElem? (i := 1920) (by decide +kernel))
theorem fo_X11_390 : FldOK RX11 390 11 50 := ⟨RX11, TX11, 59, rfl, by decide, Or.inl (List.mem_of_getElem? (i := 1445) (by decide +kernel))⟩
theorem fo_X11_393 : FldOK RX11 393 11 51 := ⟨RX11, TX11, 59, rfl, by decide, Or.inl (List.mem_of_getElem? (i := 1446) (by decide +kernel))⟩
theorem fo_X11_396 : FldOK RX11 396 11 52 := ⟨RX11, TX11, 59, rfl, by decide, Or.inl (List.mem_of_getElem? (i := 1447) (by decide +kernel))⟩
theorem fo_X11_399 : FldOK RX11 399 11 53 := ⟨RX11, TX11, 59, rfl, by decide, Or.inl (List.mem_of_getElem? (i := 1448) (by decide +kernel))⟩
theorem fo_X11_402 : FldOK RX11 402 11 15 := ⟨RX11, TX11, 59, rfl, by decide, Or.inl (List.mem_of_getElem? (i := 1410) (by decide +kernel))⟩
theorem lk_X11_405 : LnkOK RX11 405 yX11_goDebt := Or.inl (List.mem_of_getElem? (i := 1950) (by decide +kernel))
theorem lk_X11_410 : LnkOK RX11 410 yX11_goDays := Or.inl (List.mem_of_getElem? (i := 1946) (by decide +kernel))
theorem lk_X11_413 : LnkOK RX11 413 yX11_lay := Or.inl (List.mem_of_getElem? (i := 1958) (by decide +kernel))
theorem lk_X11_417 : LnkOK RX11 417 yX11_bring := Or.inl (List.mem_of_getElem? (i := 1962) (by decide +kernel))
theorem lk_X11_420 : LnkOK RX11 420 yX11_hasBehind := Or.inl (List.mem_of_getElem? (i := 1970) (by decide +kernel))
theorem lk_X11_423 : LnkOK RX11 423 yX11_common := Or.inl (List.mem_of_getElem? (i := 1987) (by decide +kernel))
theorem lk_X11_427 : LnkOK RX11 427 yJ9_abs_0f7a4 := Or.inl (List.mem_of_getElem? (i := 1986) (by decide +kernel))
theorem lk_J0_335 : LnkOK RJ0 335 yJ0_coder_7d493 := Or.inl (List.mem_of_getElem? (i := 644) (by decide +kernel))
theorem lk_J0_633 : LnkOK RJ0 633 yJ0_indexOf_7cf53 := Or.inl (List.mem_of_getElem? (i := 630) (by decide +kernel))
theorem lk_J0_492 : LnkOK RJ0 492 yJ0_isLatin1_aae02 := Or.inl (List.mem_of_getElem? (i := 634) (by decide +kernel))
theorem lk_J0_505 : LnkOK RJ0 505 yJ0_length_8abf5 := Or.inl (List.mem_of_getElem? (i := 640) (by decide +kernel))
theorem lk_J0_637 : LnkOK RJ0 637 yJ1_indexOf_4cfef := Or.inl (List.mem_of_getElem? (i := 648) (by decide +kernel))
theorem lk_J0_640 : LnkOK RJ0 640 yJ2_indexOf_4cfef := Or.inl (List.mem_of_getElem? (i := 659) (by decide +kernel))
theorem lk_J0_1062 : LnkOK RJ0 1062 yJ3_checkFromToIndex_8c36e := Or.inl (List.mem_of_getElem? (i := 679) (by decide +kernel))
theorem lk_J1_88 : LnkOK RJ1 88 yJ1_canEncode_9a6ad := Or.inl (List.mem_of_getElem? (i := 651) (by decide +kernel))
theorem lk_J1_92 : LnkOK RJ1 92 yJ9_max_7cf53 := Or.inl (List.mem_of_getElem? (i := 654) (by decide +kernel))
theorem lk_J1_38 : LnkOK RJ1 38 yJ9_min_7cf53 := Or.inl (List.mem_of_getElem? (i := 655) (by decide +kernel))
theorem lk_J1_95 : LnkOK RJ1 95 yJ1_indexOfChar_4cfef := Or.inl (List.mem_of_getElem? (i := 656) (by decide +kernel))
theorem lk_J2_48 : LnkOK RJ2 48 yJ2_length_9d52b := Or.inl (List.mem_of_getElem? (i := 671) (by decide +kernel))
theorem lk_J2_224 : LnkOK RJ2 224 yJ9_max_7cf53 := Or.inl (List.mem_of_getElem? (i := 662) (by decide +kernel))
theorem lk_J2_183 : LnkOK RJ2 183 yJ9_min_7cf53 := Or.inl (List.mem_of_getElem? (i := 663) (by decide +kernel))
theorem lk_J2_228 : LnkOK RJ2 228 yJ2_indexOfChar_4cfef := Or.inl (List.mem_of_getElem? (i := 665) (by decide +kernel))
theorem lk_J2_232 : LnkOK RJ2 232 yJ2_indexOfSupplementary_4cfef := Or.inl (List.mem_of_getElem? (i := 694) (by decide +kernel))
theorem lk_J2_96 : LnkOK RJ2 96 yJ2_checkBoundsBeginEnd_d044e := Or.inl (List.mem_of_getElem? (i := 668) (by decide +kernel))
theorem lk_J2_244 : LnkOK RJ2 244 yJ2_indexOfCharUnsafe_4cfef := Or.inl (List.mem_of_getElem? (i := 682) (by decide +kernel))
theorem lk_J2_71 : LnkOK RJ2 71 yJ2_getChar_3b067 := Or.inl (List.mem_of_getElem? (i := 685) (by decide +kernel))
theorem lk_J2_164 : LnkOK RJ2 164 yJ11_isValidCodePoint_9a6ad := Or.inl (List.mem_of_getElem? (i := 697) (by decide +kernel))
theorem lk_J2_157 : LnkOK RJ2 157 yJ11_highSurrogate_5068e := Or.inl (List.mem_of_getElem? (i := 700) (by decide +kernel))
theorem lk_J2_161 : LnkOK RJ2 161 yJ11_lowSurrogate_5068e := Or.inl (List.mem_of_getElem? (i := 704) (by decide +kernel))
theorem lk_J2_241 : LnkOK RJ2 241 yJ0_checkBoundsBeginEnd_23922 := Or.inl (List.mem_of_getElem? (i := 674) (by decide +kernel))
theorem lk_L_7 : LnkOK RL 7 yX10_of := Or.inl (List.mem_of_getElem? (i := 1288) (by decide +kernel))
theorem lk_L_15 : LnkOK RL 15 yX10_debt := Or.inl (List.mem_of_getElem? (i := 1366) (by decide +kernel))
theorem lk_L_18 : LnkOK RL 18 yX10_pays := Or.inl (List.mem_of_getElem? (i := 1373) (by decide +kernel))
theorem lk_L_22 : LnkOK RL 22 yX10_row := Or.inl (List.mem_of_getElem? (i := 1384) (by decide +kernel))
theorem lk_L_26 : LnkOK RL 26 yX10_init := Or.inl (List.mem_of_getElem? (i := 122) (by decide +kernel))
theorem lk_L_29 : LnkOK RL 29 yX11_init := Or.inl (List.mem_of_getElem? (i := 1390) (by decide +kernel))
theorem lk_L_30 : LnkOK RL 30 yX10_sign := Or.inl (List.mem_of_getElem? (i := 508) (by decide +kernel))
theorem lk_L_34 : LnkOK RL 34 yX11_sign := Or.inl (List.mem_of_getElem? (i := 1577) (by decide +kernel))
theorem lk_L_35 : LnkOK RL 35 yX10_end := Or.inl (List.mem_of_getElem? (i := 520) (by decide +kernel))
theorem lk_L_39 : LnkOK RL 39 yX11_end := Or.inl (List.mem_of_getElem? (i := 1581) (by decide +kernel))
theorem lk_L_40 : LnkOK RL 40 yX10_town := Or.inl (List.mem_of_getElem? (i := 528) (by decide +kernel))
theorem lk_L_44 : LnkOK RL 44 yX11_town := Or.inl (List.mem_of_getElem? (i := 1588) (by decide +kernel))
theorem lk_L_45 : LnkOK RL 45 yX10_rule := Or.inl (List.mem_of_getElem? (i := 598) (by decide +kernel))
theorem lk_L_48 : LnkOK RL 48 yX11_rule := Or.inl (List.mem_of_getElem? (i := 1630) (by decide +kernel))
theorem lk_L_49 : LnkOK RL 49 yL_of := Or.inl (List.mem_of_getElem? (i := 1284) (by decide +kernel))
theorem lk_L_54 : LnkOK RL 54 yX11_of := Or.inl (List.mem_of_getElem? (i := 1670) (by decide +kernel))
theorem lk_L_55 : LnkOK RL 55 yX11_thrown := Or.inl (List.mem_of_getElem? (i := 1573) (by decide +kernel))
theorem lk_L_58 : LnkOK RL 58 yL_debt := Or.inl (List.mem_of_getElem? (i := 1363) (by decide +kernel))
theorem lk_L_60 : LnkOK RL 60 yX11_debt := Or.inl (List.mem_of_getElem? (i := 1695) (by decide +kernel))
theorem lk_L_61 : LnkOK RL 61 yX10_law := Or.inl (List.mem_of_getElem? (i := 741) (by decide +kernel))
theorem lk_L_64 : LnkOK RL 64 yX11_law := Or.inl (List.mem_of_getElem? (i := 1704) (by decide +kernel))
theorem lk_L_65 : LnkOK RL 65 yX10_sheet := Or.inl (List.mem_of_getElem? (i := 748) (by decide +kernel))
theorem lk_L_69 : LnkOK RL 69 yX11_sheet := Or.inl (List.mem_of_getElem? (i := 1710) (by decide +kernel))
theorem lk_L_70 : LnkOK RL 70 yX10_noon := Or.inl (List.mem_of_getElem? (i := 757) (by decide +kernel))
theorem lk_L_73 : LnkOK RL 73 yX11_noon := Or.inl (List.mem_of_getElem? (i := 1716) (by decide +kernel))
theorem lk_L_74 : LnkOK RL 74 yX10_hide := Or.inl (List.mem_of_getElem? (i := 769) (by decide +kernel))
theorem lk_L_77 : LnkOK RL 77 yX11_hide := Or.inl (List.mem_of_getElem? (i := 1724) (by decide +kernel))
theorem lk_L_78 : LnkOK RL 78 yX10_search := Or.inl (List.mem_of_getElem? (i := 774) (by decide +kernel))
theorem lk_L_81 : LnkOK RL 81 yX11_search := Or.inl (List.mem_of_getElem? (i := 1728) (by decide +kernel))
theorem lk_L_82 : LnkOK RL 82 yX10_below := Or.inl (List.mem_of_getElem? (i := 783) (by decide +kernel))
theorem lk_L_85 : LnkOK RL 85 yX11_below := Or.inl (List.mem_of_getElem? (i := 1734) (by decide +kernel))
theorem lk_L_86 : LnkOK RL 86 yX10_may := Or.inl (List.mem_of_getElem? (i := 801) (by decide +kernel))
theorem lk_L_89 : LnkOK RL 89 yX11_may_ := Or.inl (List.mem_of_getElem? (i := 1742) (by decide +kernel))
theorem lk_L_90 : LnkOK RL 90 yX10_willing := Or.inl (List.mem_of_getElem? (i := 849) (by decide +kernel))
theorem lk_L_93 : LnkOK RL 93 yX11_willing := Or.inl (List.mem_of_getElem? (i := 1761) (by decide +kernel))
theorem lk_L_94 : LnkOK RL 94 yX10_pay := Or.inl (List.mem_of_getElem? (i := 896) (by decide +kernel))
theorem lk_L_97 : LnkOK RL 97 yX11_pay := Or.inl (List.mem_of_getElem? (i := 1773) (by decide +kernel))
theorem lk_L_98 : LnkOK RL 98 yX10_undo := Or.inl (List.mem_of_getElem? (i := 916) (by decide +kernel))
theorem lk_L_101 : LnkOK RL 101 yX11_undo := Or.inl (List.mem_of_getElem? (i := 1781) (by decide +kernel))
theorem lk_L_102 : LnkOK RL 102 yX10_judge := Or.inl (List.mem_of_getElem? (i := 924) (by decide +kernel))
theorem lk_L_105 : LnkOK RL 105 yX11_judge := Or.inl (List.mem_of_getElem? (i := 1789) (by decide +kernel))
theorem lk_L_106 : LnkOK RL 106 yX10_favour := Or.inl (List.mem_of_getElem? (i := 933) (by decide +kernel))
theorem lk_L_109 : LnkOK RL 109 yX11_favour := Or.inl (List.mem_of_getElem? (i := 1798) (by decide +kernel))
theorem lk_L_110 : LnkOK RL 110 yX10_nets := Or.inl (List.mem_of_getElem? (i := 937) (by decide +kernel))
theorem lk_L_113 : LnkOK RL 113 yX11_nets := Or.inl (List.mem_of_getElem? (i := 1802) (by decide +kernel))
theorem lk_L_114 : LnkOK RL 114 yX10_give := Or.inl (List.mem_of_getElem? (i := 946) (by decide +kernel))
theorem lk_L_118 : LnkOK RL 118 yX11_give := Or.inl (List.mem_of_getElem? (i := 1806) (by decide +kernel))
theorem lk_L_119 : LnkOK RL 119 yX10_lend := Or.inl (List.mem_of_getElem? (i := 955) (by decide +kernel))
theorem lk_L_122 : LnkOK RL 122 yX11_lend := Or.inl (List.mem_of_getElem? (i := 1814) (by decide +kernel))
theorem lk_L_123 : LnkOK RL 123 yX10_back := Or.inl (List.mem_of_getElem? (i := 963) (by decide +kernel))
theorem lk_L_126 : LnkOK RL 126 yX11_back := Or.inl (List.mem_of_getElem? (i := 1818) (by decide +kernel))
theorem lk_L_127 : LnkOK RL 127 yX10_gift := Or.inl (List.mem_of_getElem? (i := 972) (by decide +kernel))
theorem lk_L_130 : LnkOK RL 130 yX11_gift := Or.inl (List.mem_of_getElem? (i := 1822) (by decide +kernel))
theorem lk_L_131 : LnkOK RL 131 yX10_poorer := Or.inl (List.mem_of_getElem? (i := 994) (by decide +kernel))
theorem lk_L_134 : LnkOK RL 134 yX11_poorer := Or.inl (List.mem_of_getElem? (i := 1826) (by decide +kernel))
theorem lk_L_135 : LnkOK RL 135 yX10_most := Or.inl (List.mem_of_getElem? (i := 1003) (by decide +kernel))
theorem lk_L_138 : LnkOK RL 138 yX11_most := Or.inl (List.mem_of_getElem? (i := 1830) (by decide +kernel))
theorem lk_L_139 : LnkOK RL 139 yX10_all := Or.inl (List.mem_of_getElem? (i := 1093) (by decide +kernel))
theorem lk_L_142 : LnkOK RL 142 yX11_all := Or.inl (List.mem_of_getElem? (i := 1878) (by decide +kernel))
theorem lk_L_143 : LnkOK RL 143 yX10_never := Or.inl (List.mem_of_getElem? (i := 1113) (by decide +kernel))
theorem lk_L_146 : LnkOK RL 146 yX11_never := Or.inl (List.mem_of_getElem? (i := 1882) (by decide +kernel))
theorem lk_L_147 : LnkOK RL 147 yX10_ways := Or.inl (List.mem_of_getElem? (i := 1117) (by decide +kernel))
theorem lk_L_150 : LnkOK RL 150 yX11_ways := Or.inl (List.mem_of_getElem? (i := 1886) (by decide +kernel))
theorem lk_L_151 : LnkOK RL 151 yX10_ahead := Or.inl (List.mem_of_getElem? (i := 1140) (by decide +kernel))
theorem lk_L_154 : LnkOK RL 154 yX11_ahead := Or.inl (List.mem_of_getElem? (i := 1892) (by decide +kernel))
theorem lk_L_155 : LnkOK RL 155 yX10_fewest := Or.inl (List.mem_of_getElem? (i := 1144) (by decide +kernel))
theorem lk_L_158 : LnkOK RL 158 yX11_fewest := Or.inl (List.mem_of_getElem? (i := 1896) (by decide +kernel))
theorem lk_L_159 : LnkOK RL 159 yX10_sorts := Or.inl (List.mem_of_getElem? (i := 1155) (by decide +kernel))
theorem lk_L_162 : LnkOK RL 162 yX11_sorts := Or.inl (List.mem_of_getElem? (i := 1904) (by decide +kernel))
theorem lk_L_163 : LnkOK RL 163 yX10_flow := Or.inl (List.mem_of_getElem? (i := 1159) (by decide +kernel))
theorem lk_L_166 : LnkOK RL 166 yX11_flow := Or.inl (List.mem_of_getElem? (i := 1908) (by decide +kernel))
theorem lk_L_167 : LnkOK RL 167 yX10_proof := Or.inl (List.mem_of_getElem? (i := 1200) (by decide +kernel))
theorem lk_L_170 : LnkOK RL 170 yX11_proof := Or.inl (List.mem_of_getElem? (i := 1933) (by decide +kernel))
theorem lk_L_171 : LnkOK RL 171 yX10_gap := Or.inl (List.mem_of_getElem? (i := 1207) (by decide +kernel))
theorem lk_L_174 : LnkOK RL 174 yX11_gap := Or.inl (List.mem_of_getElem? (i := 1937) (by decide +kernel))
theorem lk_L_175 : LnkOK RL 175 yX10_lowest := Or.inl (List.mem_of_getElem? (i := 1211) (by decide +kernel))
theorem lk_L_178 : LnkOK RL 178 yX11_lowest := Or.inl (List.mem_of_getElem? (i := 1978) (by decide +kernel))
theorem lk_L_179 : LnkOK RL 179 yX10_lapse := Or.inl (List.mem_of_getElem? (i := 1216) (by decide +kernel))
theorem lk_L_182 : LnkOK RL 182 yX11_lapse := Or.inl (List.mem_of_getElem? (i := 1974) (by decide +kernel))
theorem lk_L_183 : LnkOK RL 183 yX10_days := Or.inl (List.mem_of_getElem? (i := 1236) (by decide +kernel))
theorem lk_L_186 : LnkOK RL 186 yX11_days := Or.inl (List.mem_of_getElem? (i := 1941) (by decide +kernel))
theorem lk_L_187 : LnkOK RL 187 yX10_best := Or.inl (List.mem_of_getElem? (i := 1240) (by decide +kernel))
theorem lk_L_190 : LnkOK RL 190 yX11_best := Or.inl (List.mem_of_getElem? (i := 1954) (by decide +kernel))
theorem lk_L_191 : LnkOK RL 191 yL_pays := Or.inl (List.mem_of_getElem? (i := 1370) (by decide +kernel))
theorem lk_L_194 : LnkOK RL 194 yX11_pays := Or.inl (List.mem_of_getElem? (i := 1966) (by decide +kernel))
theorem lk_L_195 : LnkOK RL 195 yX10_spread := Or.inl (List.mem_of_getElem? (i := 1244) (by decide +kernel))
theorem lk_L_198 : LnkOK RL 198 yX11_spread := Or.inl (List.mem_of_getElem? (i := 1982) (by decide +kernel))
theorem lk_L_199 : LnkOK RL 199 yX10_today := Or.inl (List.mem_of_getElem? (i := 1259) (by decide +kernel))
theorem lk_L_202 : LnkOK RL 202 yX11_today := Or.inl (List.mem_of_getElem? (i := 1990) (by decide +kernel))
theorem lk_L_203 : LnkOK RL 203 yX10_seed := Or.inl (List.mem_of_getElem? (i := 1263) (by decide +kernel))
theorem lk_L_206 : LnkOK RL 206 yX11_seed := Or.inl (List.mem_of_getElem? (i := 1994) (by decide +kernel))
theorem lk_L_207 : LnkOK RL 207 yX10_keep := Or.inl (List.mem_of_getElem? (i := 1267) (by decide +kernel))
theorem lk_L_210 : LnkOK RL 210 yX11_keep := Or.inl (List.mem_of_getElem? (i := 1998) (by decide +kernel))
theorem lk_L_211 : LnkOK RL 211 yX10_again := Or.inl (List.mem_of_getElem? (i := 1271) (by decide +kernel))
theorem lk_L_214 : LnkOK RL 214 yX11_again := Or.inl (List.mem_of_getElem? (i := 2002) (by decide +kernel))
theorem lk_L_215 : LnkOK RL 215 yX10_count := Or.inl (List.mem_of_getElem? (i := 1279) (by decide +kernel))
theorem lk_L_218 : LnkOK RL 218 yX11_count := Or.inl (List.mem_of_getElem? (i := 2006) (by decide +kernel))
theorem lk_L_219 : LnkOK RL 219 yL_row := Or.inl (List.mem_of_getElem? (i := 1381) (by decide +kernel))
theorem lk_L_222 : LnkOK RL 222 yX11_row := Or.inl (List.mem_of_getElem? (i := 2010) (by decide +kernel))
theorem mo_X0_pass : MthV yX0_pass cX0_pass 9 none 3 := ⟨⟨List.mem_of_getElem? (i := 1226) (by decide +kernel), List.mem_of_getElem? (i := 105) (by decide +kernel), ⟨by decide +kernel, by decide +kernel, by decide +kernel⟩, by decide⟩, List.mem_of_getElem? (i := 1224) (by decide +kernel), List.mem_of_getElem? (i := 1225) (by decide +kernel)⟩
theorem mo_X0_sortDue : MthV yX0_sortDue cX0_sortDue 6 (some .int) 1 := ⟨⟨List.mem_of_getElem? (i := 1231) (by decide +kernel), List.mem_of_getElem? (i := 105) (by decide +kernel), ⟨by decide +kernel, by decide +kernel, by decide +kernel⟩, by decide⟩, List.mem_of_getElem? (i := 1230) (by decide +kernel), List.mem_of_getElem? (i := 33) (by decide +kernel)⟩
theorem mo_X1_leastGift : MthV yX1_leastGift cX1_leastGift 7 (some .int) 2 := ⟨⟨List.mem_of_getElem? (i := 980) (by decide +kernel), List.mem_of_getElem? (i := 102) (by decide +kernel), ⟨by decide +kernel, by decide +kernel, by decide +kernel⟩, by decide⟩, List.mem_of_getElem? (i := 978) (by decide +kernel), List.mem_of_getElem? (i := 979) (by decide +kernel)⟩
theorem mo_X1_leastLoss : MthV yX1_leastLoss cX1_leastLoss 7 (some .int) 3 := ⟨⟨List.mem_of_getElem? (i := 1001) (by decide +kernel), List.mem_of_getElem? (i := 102) (by decide +kernel), ⟨by decide +kernel, by decide +kernel, by decide +kernel⟩, by decide⟩, List.mem_of_getElem? (i := 999) (by decide +kernel), List.mem_of_getElem? (i := 1000) (by decide +kernel)⟩
theorem mo_X1_payersAfter : MthV yX1_payersAfter cX1_payersAfter 6 (some .int) 4 := ⟨⟨List.mem_of_getElem? (i := 990) (by decide +kernel), List.mem_of_getElem? (i := 102) (by decide +kernel), ⟨by decide +kernel, by decide +kernel, by decide +kernel⟩, by decide⟩, List.mem_of_getElem? (i := 989) (by decide +kernel), List.mem_of_getElem? (i := 19) (by decide +kernel)⟩
theorem mo_X2_look : MthV yX2_look cX2_look 6 none 3 := ⟨⟨List.mem_of_getElem? (i := 1166) (by decide +kernel), List.mem_of_getElem? (i := 104) (by decide +kernel), ⟨by decide +kernel, by decide +kernel, by decide +kernel⟩, by decide⟩, List.mem_of_getElem? (i := 1164) (by decide +kernel), List.mem_of_getElem? (i := 1165) (by decide +kernel)⟩
theorem mo_X2_countedOf : MthV yX2_countedOf cX2_countedOf 4 (some .int) 1 := ⟨⟨List.mem_of_getElem? (i := 1179) (by decide +kernel), List.mem_of_getElem? (i := 104) (by decide +kernel), ⟨by decide +kernel, by decide +kernel, by decide +kernel⟩, by decide⟩, List.mem_of_getElem? (i := 1178) (by decide +kernel), List.mem_of_getElem? (i := 32) (by decide +kernel)⟩
theorem mo_X2_debtsBehind : MthV yX2_debtsBehind cX2_debtsBehind 4 (some .int) 1 := ⟨⟨List.mem_of_getElem? (i := 1198) (by decide +kernel), List.mem_of_getElem? (i := 104) (by decide +kernel), ⟨by decide +kernel, by decide +kernel, by decide +kernel⟩, by decide⟩, List.mem_of_getElem? (i := 1196) (by decide +kernel), List.mem_of_getElem? (i := 1197) (by decide +kernel)⟩
theorem mo_X2_sumsBehind : MthV yX2_sumsBehind cX2_sumsBehind 2 (some .int) 1 := ⟨⟨List.mem_of_getElem? (i := 1194) (by decide +kernel), List.mem_of_getElem? (i := 104) (by decide +kernel), ⟨by decide +kernel, by decide +kernel, by decide +kernel⟩, by decide⟩, List.mem_of_getElem? (i := 1192) (by decide +kernel), List.mem_of_getElem? (i := 1193) (by decide +kernel)⟩
theorem mo_X2_leastBar : MthV yX2_leastBar cX2_leastBar 5 (some .int) 0 := ⟨⟨List.mem_of_getElem? (i := 1188) (by decide +kernel), List.mem_of_getElem? (i := 104) (by decide +kernel), ⟨by decide +kernel, by decide +kernel, by decide +kernel⟩, by decide⟩, List.mem_of_getElem? (i := 1186) (by decide +kernel), List.mem_of_getElem? (i := 1187) (by decide +kernel)⟩
theorem mo_X2_greatestFlow : MthV yX2_greatestFlow cX2_greatestFlow 2 (some .int) 0 := ⟨⟨List.mem_of_getElem? (i := 1184) (by decide +kernel), List.mem_of_getElem? (i := 104) (by decide +kernel), ⟨by decide +kernel, by decide +kernel, by decide +kernel⟩, by decide⟩, List.mem_of_getElem? (i := 1182) (by decide +kernel), List.mem_of_getElem? (i := 1183) (by decide +kernel)⟩
theorem mo_X2_tooGreat : MthV yX2_tooGreat cX2_tooGreat 3 (some .int) 0 := ⟨⟨List.mem_of_getElem? (i := 1175) (by decide +kernel), List.mem_of_getElem? (i := 104) (by decide +kernel), ⟨by decide +kernel, by decide +kernel, by decide +kernel⟩, by decide⟩, List.mem_of_getElem? (i := 1173) (by decide +kernel), List.mem_of_getElem? (i := 1174) (by decide +kernel)⟩
theorem mo_X3_take : MthV yX3_take cX3_take 2 none 1 := ⟨⟨List.mem_of_getElem? (i := 736) (by decide +kernel), List.mem_of_getElem? (i := 100) (by decide +kernel), ⟨by decide +kernel, by decide +kernel, by decide +kernel⟩, by decide⟩, List.mem_of_getElem? (i := 734) (by decide +kernel), List.mem_of_getElem? (i := 735) (by decide +kernel)⟩
theorem mo_X3_chosen : MthV yX3_chosen cX3_chosen 8 (some .int) 2 := ⟨⟨List.mem_of_getElem? (i := 856) (by decide +kernel), List.mem_of_getElem? (i := 100) (by decide +kernel), ⟨by decide +kernel, by decide +kernel, by decide +kernel⟩, by decide⟩, List.mem_of_getElem? (i := 854) (by decide +kernel), List.mem_of_getElem? (i := 855) (by decide +kernel)⟩
theorem mo_X3_worth : MthV yX3_worth cX3_worth 7 (some .int) 3 := ⟨⟨List.mem_of_getElem? (i := 862) (by decide +kernel), List.mem_of_getElem? (i := 100) (by decide +kernel), ⟨by decide +kernel, by decide +kernel, by decide +kernel⟩, by decide⟩, List.mem_of_getElem? (i := 860) (by decide +kernel), List.mem_of_getElem? (i := 861) (by decide +kernel)⟩
theorem mo_X3_thing : MthS yX3_thing cX3_thing 4 (some .int) 4 := ⟨⟨List.mem_of_getElem? (i := 865) (by decide +kernel), List.mem_of_getElem? (i := 100) (by decide +kernel), ⟨by decide +kernel, by decide +kernel, by decide +kernel⟩, by decide⟩, List.mem_of_getElem? (i := 864) (by decide +kernel)⟩
theorem mo_X3_done : MthS yX3_done cX3_done 3 (some .int) 3 := ⟨⟨List.mem_of_getElem? (i := 890) (by decide +kernel), List.mem_of_getElem? (i := 100) (by decide +kernel), ⟨by decide +kernel, by decide +kernel, by decide +kernel⟩, by decide⟩, List.mem_of_getElem? (i := 889) (by decide +kernel)⟩
theorem mo_X4_read : MthV yX4_read cX4_read 6 (some .int) 1 := ⟨⟨List.mem_of_getElem? (i := 605) (by decide +kernel), List.mem_of_getElem? (i := 101) (by decide +kernel), ⟨by decide +kernel, by decide +kernel, by decide +kernel⟩, by decide⟩, List.mem_of_getElem? (i := 603) (by decide +kernel), List.mem_of_getElem? (i := 604) (by decide +kernel)⟩
theorem mo_X4_start : MthV yX4_start cX4_start 1 none 0 := ⟨⟨List.mem_of_getElem? (i := 609) (by decide +kernel), List.mem_of_getElem? (i := 101) (by decide +kernel), ⟨by decide +kernel, by decide +kernel, by decide +kernel⟩, by decide⟩, List.mem_of_getElem? (i := 608) (by decide +kernel), List.mem_of_getElem? (i := 8) (by decide +kernel)⟩
theorem mo_X4_takesThing : MthV yX4_takesThing cX4_takesThing 4 (some .boolean) 1 := ⟨⟨List.mem_of_getElem? (i := 616) (by decide +kernel), List.mem_of_getElem? (i := 101) (by decide +kernel), ⟨by decide +kernel, by decide +kernel, by decide +kernel⟩, by decide⟩, List.mem_of_getElem? (i := 615) (by decide +kernel), List.mem_of_getElem? (i := 9) (by decide +kernel)⟩
theorem mo_X4_takesBehind : MthV yX4_takesBehind cX4_takesBehind 4 (some .boolean) 1 := ⟨⟨List.mem_of_getElem? (i := 716) (by decide +kernel), List.mem_of_getElem? (i := 101) (by decide +kernel), ⟨by decide +kernel, by decide +kernel, by decide +kernel⟩, by decide⟩, List.mem_of_getElem? (i := 715) (by decide +kernel), List.mem_of_getElem? (i := 13) (by decide +kernel)⟩
theorem mo_X4_lengthens : MthV yX4_lengthens cX4_lengthens 2 (some .boolean) 1 := ⟨⟨List.mem_of_getElem? (i := 720) (by decide +kernel), List.mem_of_getElem? (i := 101) (by decide +kernel), ⟨by decide +kernel, by decide +kernel, by decide +kernel⟩, by decide⟩, List.mem_of_getElem? (i := 719) (by decide +kernel), List.mem_of_getElem? (i := 14) (by decide +kernel)⟩
theorem mo_X4_opens : MthV yX4_opens cX4_opens 1 (some .boolean) 0 := ⟨⟨List.mem_of_getElem? (i := 624) (by decide +kernel), List.mem_of_getElem? (i := 101) (by decide +kernel), ⟨by decide +kernel, by decide +kernel, by decide +kernel⟩, by decide⟩, List.mem_of_getElem? (i := 623) (by decide +kernel), List.mem_of_getElem? (i := 11) (by decide +kernel)⟩
theorem mo_X4_closes : MthV yX4_closes cX4_closes 1 (some .boolean) 0 := ⟨⟨List.mem_of_getElem? (i := 724) (by decide +kernel), List.mem_of_getElem? (i := 101) (by decide +kernel), ⟨by decide +kernel, by decide +kernel, by decide +kernel⟩, by decide⟩, List.mem_of_getElem? (i := 723) (by decide +kernel), List.mem_of_getElem? (i := 15) (by decide +kernel)⟩
theorem mo_X4_strength : MthS yX4_strength cX4_strength 2 (some .int) 1 := ⟨⟨List.mem_of_getElem? (i := 731) (by decide +kernel), List.mem_of_getElem? (i := 101) (by decide +kernel), ⟨by decide +kernel, by decide +kernel, by decide +kernel⟩, by decide⟩, List.mem_of_getElem? (i := 730) (by decide +kernel)⟩
theorem mo_X4_settle : MthV yX4_settle cX4_settle 2 none 1 := ⟨⟨List.mem_of_getElem? (i := 728) (by decide +kernel), List.mem_of_getElem? (i := 101) (by decide +kernel), ⟨by decide +kernel, by decide +kernel, by decide +kernel⟩, by decide⟩, List.mem_of_getElem? (i := 727) (by decide +kernel), List.mem_of_getElem? (i := 16) (by decide +kernel)⟩
theorem mo_X4_await : MthV yX4_await cX4_await 2 none 1 := ⟨⟨List.mem_of_getElem? (i := 620) (by decide +kernel), List.mem_of_getElem? (i := 101) (by decide +kernel), ⟨by decide +kernel, by decide +kernel, by decide +kernel⟩, by decide⟩, List.mem_of_getElem? (i := 619) (by decide +kernel), List.mem_of_getElem? (i := 10) (by decide +kernel)⟩
theorem mo_X4_put : MthV yX4_put cX4_put 2 none 1 := ⟨⟨List.mem_of_getElem? (i := 712) (by decide +kernel), List.mem_of_getElem? (i := 101) (by decide +kernel), ⟨by decide +kernel, by decide +kernel, by decide +kernel⟩, by decide⟩, List.mem_of_getElem? (i := 711) (by decide +kernel), List.mem_of_getElem? (i := 12) (by decide +kernel)⟩
theorem mo_X5_visit : MthV yX5_visit cX5_visit 5 (some .boolean) 3 := ⟨⟨List.mem_of_getElem? (i := 1017) (by decide +kernel), List.mem_of_getElem? (i := 103) (by decide +kernel), ⟨by decide +kernel, by decide +kernel, by decide +kernel⟩, by decide⟩, List.mem_of_getElem? (i := 1015) (by decide +kernel), List.mem_of_getElem? (i := 1016) (by decide +kernel)⟩
theorem mo_X5_start : MthV yX5_start cX5_start 6 none 0 := ⟨⟨List.mem_of_getElem? (i := 1034) (by decide +kernel), List.mem_of_getElem? (i := 103) (by decide +kernel), ⟨by decide +kernel, by decide +kernel, by decide +kernel⟩, by decide⟩, List.mem_of_getElem? (i := 1033) (by decide +kernel), List.mem_of_getElem? (i := 21) (by decide +kernel)⟩
theorem mo_X5_part : MthS yX5_part cX5_part 3 (some .long) 3 := ⟨⟨List.mem_of_getElem? (i := 1040) (by decide +kernel), List.mem_of_getElem? (i := 103) (by decide +kernel), ⟨by decide +kernel, by decide +kernel, by decide +kernel⟩, by decide⟩, List.mem_of_getElem? (i := 1039) (by decide +kernel)⟩
theorem mo_X5_coinIn : MthV yX5_coinIn cX5_coinIn 5 (some .int) 2 := ⟨⟨List.mem_of_getElem? (i := 1060) (by decide +kernel), List.mem_of_getElem? (i := 103) (by decide +kernel), ⟨by decide +kernel, by decide +kernel, by decide +kernel⟩, by decide⟩, List.mem_of_getElem? (i := 1059) (by decide +kernel), List.mem_of_getElem? (i := 25) (by decide +kernel)⟩
theorem mo_X5_load : MthV yX5_load cX5_load 3 none 1 := ⟨⟨List.mem_of_getElem? (i := 1056) (by decide +kernel), List.mem_of_getElem? (i := 103) (by decide +kernel), ⟨by decide +kernel, by decide +kernel, by decide +kernel⟩, by decide⟩, List.mem_of_getElem? (i := 1055) (by decide +kernel), List.mem_of_getElem? (i := 24) (by decide +kernel)⟩
theorem mo_X5_leave : MthV yX5_leave cX5_leave 6 none 1 := ⟨⟨List.mem_of_getElem? (i := 1065) (by decide +kernel), List.mem_of_getElem? (i := 103) (by decide +kernel), ⟨by decide +kernel, by decide +kernel, by decide +kernel⟩, by decide⟩, List.mem_of_getElem? (i := 1064) (by decide +kernel), List.mem_of_getElem? (i := 26) (by decide +kernel)⟩
theorem mo_X5_step : MthV yX5_step cX5_step 14 none 3 := ⟨⟨List.mem_of_getElem? (i := 1071) (by decide +kernel), List.mem_of_getElem? (i := 103) (by decide +kernel), ⟨by decide +kernel, by decide +kernel, by decide +kernel⟩, by decide⟩, List.mem_of_getElem? (i := 1070) (by decide +kernel), List.mem_of_getElem? (i := 27) (by decide +kernel)⟩
theorem mo_X5_rank : MthV yX5_rank cX5_rank 3 (some .int) 2 := ⟨⟨List.mem_of_getElem? (i := 1076) (by decide +kernel), List.mem_of_getElem? (i := 103) (by decide +kernel), ⟨by decide +kernel, by decide +kernel, by decide +kernel⟩, by decide⟩, List.mem_of_getElem? (i := 1075) (by decide +kernel), List.mem_of_getElem? (i := 28) (by decide +kernel)⟩
theorem mo_X5_find : MthV yX5_find cX5_find 11 (some .int) 3 := ⟨⟨List.mem_of_getElem? (i := 1044) (by decide +kernel), List.mem_of_getElem? (i := 103) (by decide +kernel), ⟨by decide +kernel, by decide +kernel, by decide +kernel⟩, by decide⟩, List.mem_of_getElem? (i := 1043) (by decide +kernel), List.mem_of_getElem? (i := 22) (by decide +kernel)⟩
theorem mo_X5_newState : MthV yX5_newState cX5_newState 8 (some .int) 4 := ⟨⟨List.mem_of_getElem? (i := 1051) (by decide +kernel), List.mem_of_getElem? (i := 103) (by decide +kernel), ⟨by decide +kernel, by decide +kernel, by decide +kernel⟩, by decide⟩, List.mem_of_getElem? (i := 1050) (by decide +kernel), List.mem_of_getElem? (i := 23) (by decide +kernel)⟩
theorem mo_X5_mostPaid : MthV yX5_mostPaid cX5_mostPaid 3 (some .int) 0 := ⟨⟨List.mem_of_getElem? (i := 1086) (by decide +kernel), List.mem_of_getElem? (i := 103) (by decide +kernel), ⟨by decide +kernel, by decide +kernel, by decide +kernel⟩, by decide⟩, List.mem_of_getElem? (i := 1084) (by decide +kernel), List.mem_of_getElem? (i := 1085) (by decide +kernel)⟩
theorem mo_X5_greatestSum : MthV yX5_greatestSum cX5_greatestSum 3 (some .int) 0 := ⟨⟨List.mem_of_getElem? (i := 1080) (by decide +kernel), List.mem_of_getElem? (i := 103) (by decide +kernel), ⟨by decide +kernel, by decide +kernel, by decide +kernel⟩, by decide⟩, List.mem_of_getElem? (i := 1078) (by decide +kernel), List.mem_of_getElem? (i := 1079) (by decide +kernel)⟩
theorem mo_X5_cheapestEnd : MthV yX5_cheapestEnd cX5_cheapestEnd 3 (some .int) 0 := ⟨⟨List.mem_of_getElem? (i := 1100) (by decide +kernel), List.mem_of_getElem? (i := 103) (by decide +kernel), ⟨by decide +kernel, by decide +kernel, by decide +kernel⟩, by decide⟩, List.mem_of_getElem? (i := 1098) (by decide +kernel), List.mem_of_getElem? (i := 1099) (by decide +kernel)⟩
theorem mo_X5_payment : MthV yX5_payment cX5_payment 8 (some .int) 2 := ⟨⟨List.mem_of_getElem? (i := 1109) (by decide +kernel), List.mem_of_getElem? (i := 103) (by decide +kernel), ⟨by decide +kernel, by decide +kernel, by decide +kernel⟩, by decide⟩, List.mem_of_getElem? (i := 1107) (by decide +kernel), List.mem_of_getElem? (i := 1108) (by decide +kernel)⟩
theorem mo_X5_fullWays : MthV yX5_fullWays cX5_fullWays 4 (some .long) 0 := ⟨⟨List.mem_of_getElem? (i := 1126) (by decide +kernel), List.mem_of_getElem? (i := 103) (by decide +kernel), ⟨by decide +kernel, by decide +kernel, by decide +kernel⟩, by decide⟩, List.mem_of_getElem? (i := 1124) (by decide +kernel), List.mem_of_getElem? (i := 1125) (by decide +kernel)⟩
theorem mo_X5_allPayers : MthV yX5_allPayers cX5_allPayers 3 (some .int) 0 := ⟨⟨List.mem_of_getElem? (i := 1131) (by decide +kernel), List.mem_of_getElem? (i := 103) (by decide +kernel), ⟨by decide +kernel, by decide +kernel, by decide +kernel⟩, by decide⟩, List.mem_of_getElem? (i := 1129) (by decide +kernel), List.mem_of_getElem? (i := 1130) (by decide +kernel)⟩
theorem mo_X5_fewestPayers : MthV yX5_fewestPayers cX5_fewestPayers 3 (some .int) 0 := ⟨⟨List.mem_of_getElem? (i := 1151) (by decide +kernel), List.mem_of_getElem? (i := 103) (by decide +kernel), ⟨by decide +kernel, by decide +kernel, by decide +kernel⟩, by decide⟩, List.mem_of_getElem? (i := 1149) (by decide +kernel), List.mem_of_getElem? (i := 1150) (by decide +kernel)⟩
theorem mo_X5_isFewer : MthS yX5_isFewer cX5_isFewer 3 (some .boolean) 2 := ⟨⟨List.mem_of_getElem? (i := 1154) (by decide +kernel), List.mem_of_getElem? (i := 103) (by decide +kernel), ⟨by decide +kernel, by decide +kernel, by decide +kernel⟩, by decide⟩, List.mem_of_getElem? (i := 1153) (by decide +kernel)⟩
theorem mo_X5_payersTo : MthV yX5_payersTo cX5_payersTo 4 (some .int) 1 := ⟨⟨List.mem_of_getElem? (i := 1135) (by decide +kernel), List.mem_of_getElem? (i := 103) (by decide +kernel), ⟨by decide +kernel, by decide +kernel, by decide +kernel⟩, by decide⟩, List.mem_of_getElem? (i := 1134) (by decide +kernel), List.mem_of_getElem? (i := 30) (by decide +kernel)⟩
theorem mo_X5_got : MthV yX5_got cX5_got 5 (some .int) 2 := ⟨⟨List.mem_of_getElem? (i := 1139) (by decide +kernel), List.mem_of_getElem? (i := 103) (by decide +kernel), ⟨by decide +kernel, by decide +kernel, by decide +kernel⟩, by decide⟩, List.mem_of_getElem? (i := 1138) (by decide +kernel), List.mem_of_getElem? (i := 31) (by decide +kernel)⟩
theorem mo_X6_addFour : MthV yX6_addFour cX6_addFour 3 (some .boolean) 1 := ⟨⟨List.mem_of_getElem? (i := 515) (by decide +kernel), List.mem_of_getElem? (i := 96) (by decide +kernel), ⟨by decide +kernel, by decide +kernel, by decide +kernel⟩, by decide⟩, List.mem_of_getElem? (i := 513) (by decide +kernel), List.mem_of_getElem? (i := 514) (by decide +kernel)⟩
theorem mo_X6_cut : MthV yX6_cut cX6_cut 2 (some .boolean) 1 := ⟨⟨List.mem_of_getElem? (i := 527) (by decide +kernel), List.mem_of_getElem? (i := 96) (by decide +kernel), ⟨by decide +kernel, by decide +kernel, by decide +kernel⟩, by decide⟩, List.mem_of_getElem? (i := 525) (by decide +kernel), List.mem_of_getElem? (i := 526) (by decide +kernel)⟩
theorem mo_X6_clear : MthV yX6_clear cX6_clear 1 none 0 := ⟨⟨List.mem_of_getElem? (i := 593) (by decide +kernel), List.mem_of_getElem? (i := 96) (by decide +kernel), ⟨by decide +kernel, by decide +kernel, by decide +kernel⟩, by decide⟩, List.mem_of_getElem? (i := 591) (by decide +kernel), List.mem_of_getElem? (i := 592) (by decide +kernel)⟩
theorem mo_X6_length : MthV yX6_length cX6_length 1 (some .int) 0 := ⟨⟨List.mem_of_getElem? (i := 519) (by decide +kernel), List.mem_of_getElem? (i := 96) (by decide +kernel), ⟨by decide +kernel, by decide +kernel, by decide +kernel⟩, by decide⟩, List.mem_of_getElem? (i := 517) (by decide +kernel), List.mem_of_getElem? (i := 518) (by decide +kernel)⟩
theorem mo_X6_at : MthV yX6_at cX6_at 2 (some .int) 1 := ⟨⟨List.mem_of_getElem? (i := 551) (by decide +kernel), List.mem_of_getElem? (i := 96) (by decide +kernel), ⟨by decide +kernel, by decide +kernel, by decide +kernel⟩, by decide⟩, List.mem_of_getElem? (i := 549) (by decide +kernel), List.mem_of_getElem? (i := 550) (by decide +kernel)⟩
theorem mo_X7_clear : MthV yX7_clear cX7_clear 1 none 0 := ⟨⟨List.mem_of_getElem? (i := 830) (by decide +kernel), List.mem_of_getElem? (i := 97) (by decide +kernel), ⟨by decide +kernel, by decide +kernel, by decide +kernel⟩, by decide⟩, List.mem_of_getElem? (i := 828) (by decide +kernel), List.mem_of_getElem? (i := 829) (by decide +kernel)⟩
theorem mo_X7_add : MthV yX7_add cX7_add 3 none 1 := ⟨⟨List.mem_of_getElem? (i := 848) (by decide +kernel), List.mem_of_getElem? (i := 97) (by decide +kernel), ⟨by decide +kernel, by decide +kernel, by decide +kernel⟩, by decide⟩, List.mem_of_getElem? (i := 846) (by decide +kernel), List.mem_of_getElem? (i := 847) (by decide +kernel)⟩
theorem mo_X7_tell : MthV yX7_tell cX7_tell 3 none 1 := ⟨⟨List.mem_of_getElem? (i := 895) (by decide +kernel), List.mem_of_getElem? (i := 97) (by decide +kernel), ⟨by decide +kernel, by decide +kernel, by decide +kernel⟩, by decide⟩, List.mem_of_getElem? (i := 893) (by decide +kernel), List.mem_of_getElem? (i := 894) (by decide +kernel)⟩
theorem mo_X7_tell_ : MthV yX7_tell_ cX7_tell_ 5 none 2 := ⟨⟨List.mem_of_getElem? (i := 843) (by decide +kernel), List.mem_of_getElem? (i := 97) (by decide +kernel), ⟨by decide +kernel, by decide +kernel, by decide +kernel⟩, by decide⟩, List.mem_of_getElem? (i := 841) (by decide +kernel), List.mem_of_getElem? (i := 842) (by decide +kernel)⟩
theorem mo_X8_copyFrom : MthV yX8_copyFrom cX8_copyFrom 2 none 1 := ⟨⟨List.mem_of_getElem? (i := 931) (by decide +kernel), List.mem_of_getElem? (i := 98) (by decide +kernel), ⟨by decide +kernel, by decide +kernel, by decide +kernel⟩, by decide⟩, List.mem_of_getElem? (i := 929) (by decide +kernel), List.mem_of_getElem? (i := 930) (by decide +kernel)⟩
theorem mo_X8_isPerson : MthV yX8_isPerson cX8_isPerson 2 (some .boolean) 1 := ⟨⟨List.mem_of_getElem? (i := 585) (by decide +kernel), List.mem_of_getElem? (i := 98) (by decide +kernel), ⟨by decide +kernel, by decide +kernel, by decide +kernel⟩, by decide⟩, List.mem_of_getElem? (i := 583) (by decide +kernel), List.mem_of_getElem? (i := 584) (by decide +kernel)⟩
theorem mo_X8_isDebt : MthV yX8_isDebt cX8_isDebt 2 (some .boolean) 1 := ⟨⟨List.mem_of_getElem? (i := 808) (by decide +kernel), List.mem_of_getElem? (i := 98) (by decide +kernel), ⟨by decide +kernel, by decide +kernel, by decide +kernel⟩, by decide⟩, List.mem_of_getElem? (i := 806) (by decide +kernel), List.mem_of_getElem? (i := 807) (by decide +kernel)⟩
theorem mo_X8_isOpen : MthV yX8_isOpen cX8_isOpen 2 (some .boolean) 1 := ⟨⟨List.mem_of_getElem? (i := 816) (by decide +kernel), List.mem_of_getElem? (i := 98) (by decide +kernel), ⟨by decide +kernel, by decide +kernel, by decide +kernel⟩, by decide⟩, List.mem_of_getElem? (i := 814) (by decide +kernel), List.mem_of_getElem? (i := 815) (by decide +kernel)⟩
theorem mo_X8_addPerson : MthV yX8_addPerson cX8_addPerson 4 (some .boolean) 3 := ⟨⟨List.mem_of_getElem? (i := 573) (by decide +kernel), List.mem_of_getElem? (i := 98) (by decide +kernel), ⟨by decide +kernel, by decide +kernel, by decide +kernel⟩, by decide⟩, List.mem_of_getElem? (i := 571) (by decide +kernel), List.mem_of_getElem? (i := 572) (by decide +kernel)⟩
theorem mo_X8_addDebt : MthV yX8_addDebt cX8_addDebt 5 (some .boolean) 4 := ⟨⟨List.mem_of_getElem? (i := 589) (by decide +kernel), List.mem_of_getElem? (i := 98) (by decide +kernel), ⟨by decide +kernel, by decide +kernel, by decide +kernel⟩, by decide⟩, List.mem_of_getElem? (i := 587) (by decide +kernel), List.mem_of_getElem? (i := 588) (by decide +kernel)⟩
theorem mo_X8_everybody : MthV yX8_everybody cX8_everybody 1 (some .int) 0 := ⟨⟨List.mem_of_getElem? (i := 826) (by decide +kernel), List.mem_of_getElem? (i := 98) (by decide +kernel), ⟨by decide +kernel, by decide +kernel, by decide +kernel⟩, by decide⟩, List.mem_of_getElem? (i := 824) (by decide +kernel), List.mem_of_getElem? (i := 825) (by decide +kernel)⟩
theorem mo_X8_counted : MthV yX8_counted cX8_counted 2 (some .int) 1 := ⟨⟨List.mem_of_getElem? (i := 768) (by decide +kernel), List.mem_of_getElem? (i := 98) (by decide +kernel), ⟨by decide +kernel, by decide +kernel, by decide +kernel⟩, by decide⟩, List.mem_of_getElem? (i := 766) (by decide +kernel), List.mem_of_getElem? (i := 767) (by decide +kernel)⟩
theorem mo_X8_countList : MthV yX8_countList cX8_countList 3 (some .int) 0 := ⟨⟨List.mem_of_getElem? (i := 764) (by decide +kernel), List.mem_of_getElem? (i := 98) (by decide +kernel), ⟨by decide +kernel, by decide +kernel, by decide +kernel⟩, by decide⟩, List.mem_of_getElem? (i := 762) (by decide +kernel), List.mem_of_getElem? (i := 763) (by decide +kernel)⟩
theorem mo_X8_makeList : MthV yX8_makeList cX8_makeList 2 none 0 := ⟨⟨List.mem_of_getElem? (i := 790) (by decide +kernel), List.mem_of_getElem? (i := 98) (by decide +kernel), ⟨by decide +kernel, by decide +kernel, by decide +kernel⟩, by decide⟩, List.mem_of_getElem? (i := 788) (by decide +kernel), List.mem_of_getElem? (i := 789) (by decide +kernel)⟩
theorem mo_X8_belowBits : MthV yX8_belowBits cX8_belowBits 7 (some .int) 1 := ⟨⟨List.mem_of_getElem? (i := 794) (by decide +kernel), List.mem_of_getElem? (i := 98) (by decide +kernel), ⟨by decide +kernel, by decide +kernel, by decide +kernel⟩, by decide⟩, List.mem_of_getElem? (i := 792) (by decide +kernel), List.mem_of_getElem? (i := 793) (by decide +kernel)⟩
theorem mo_X8_greatestUnder : MthV yX8_greatestUnder cX8_greatestUnder 4 (some .int) 1 := ⟨⟨List.mem_of_getElem? (i := 799) (by decide +kernel), List.mem_of_getElem? (i := 98) (by decide +kernel), ⟨by decide +kernel, by decide +kernel, by decide +kernel⟩, by decide⟩, List.mem_of_getElem? (i := 798) (by decide +kernel), List.mem_of_getElem? (i := 17) (by decide +kernel)⟩
theorem mo_X8_outsiders : MthV yX8_outsiders cX8_outsiders 2 (some .int) 1 := ⟨⟨List.mem_of_getElem? (i := 822) (by decide +kernel), List.mem_of_getElem? (i := 98) (by decide +kernel), ⟨by decide +kernel, by decide +kernel, by decide +kernel⟩, by decide⟩, List.mem_of_getElem? (i := 820) (by decide +kernel), List.mem_of_getElem? (i := 821) (by decide +kernel)⟩
theorem mo_X8_payers : MthV yX8_payers cX8_payers 4 (some .int) 1 := ⟨⟨List.mem_of_getElem? (i := 812) (by decide +kernel), List.mem_of_getElem? (i := 98) (by decide +kernel), ⟨by decide +kernel, by decide +kernel, by decide +kernel⟩, by decide⟩, List.mem_of_getElem? (i := 810) (by decide +kernel), List.mem_of_getElem? (i := 811) (by decide +kernel)⟩
theorem mo_X8_canPay : MthV yX8_canPay cX8_canPay 3 (some .boolean) 2 := ⟨⟨List.mem_of_getElem? (i := 903) (by decide +kernel), List.mem_of_getElem? (i := 98) (by decide +kernel), ⟨by decide +kernel, by decide +kernel, by decide +kernel⟩, by decide⟩, List.mem_of_getElem? (i := 901) (by decide +kernel), List.mem_of_getElem? (i := 902) (by decide +kernel)⟩
theorem mo_X8_price : MthV yX8_price cX8_price 3 (some .int) 2 := ⟨⟨List.mem_of_getElem? (i := 839) (by decide +kernel), List.mem_of_getElem? (i := 98) (by decide +kernel), ⟨by decide +kernel, by decide +kernel, by decide +kernel⟩, by decide⟩, List.mem_of_getElem? (i := 837) (by decide +kernel), List.mem_of_getElem? (i := 838) (by decide +kernel)⟩
theorem mo_X8_shift : MthV yX8_shift cX8_shift 4 none 3 := ⟨⟨List.mem_of_getElem? (i := 915) (by decide +kernel), List.mem_of_getElem? (i := 98) (by decide +kernel), ⟨by decide +kernel, by decide +kernel, by decide +kernel⟩, by decide⟩, List.mem_of_getElem? (i := 913) (by decide +kernel), List.mem_of_getElem? (i := 914) (by decide +kernel)⟩
theorem mo_X8_makePayment : MthV yX8_makePayment cX8_makePayment 4 (some .int) 2 := ⟨⟨List.mem_of_getElem? (i := 910) (by decide +kernel), List.mem_of_getElem? (i := 98) (by decide +kernel), ⟨by decide +kernel, by decide +kernel, by decide +kernel⟩, by decide⟩, List.mem_of_getElem? (i := 908) (by decide +kernel), List.mem_of_getElem? (i := 909) (by decide +kernel)⟩
theorem mo_X8_unmakePayment : MthV yX8_unmakePayment cX8_unmakePayment 3 none 1 := ⟨⟨List.mem_of_getElem? (i := 923) (by decide +kernel), List.mem_of_getElem? (i := 98) (by decide +kernel), ⟨by decide +kernel, by decide +kernel, by decide +kernel⟩, by decide⟩, List.mem_of_getElem? (i := 921) (by decide +kernel), List.mem_of_getElem? (i := 922) (by decide +kernel)⟩
theorem mo_X8_setOff : MthV yX8_setOff cX8_setOff 4 (some .int) 2 := ⟨⟨List.mem_of_getElem? (i := 944) (by decide +kernel), List.mem_of_getElem? (i := 98) (by decide +kernel), ⟨by decide +kernel, by decide +kernel, by decide +kernel⟩, by decide⟩, List.mem_of_getElem? (i := 942) (by decide +kernel), List.mem_of_getElem? (i := 943) (by decide +kernel)⟩
theorem mo_X8_canGive : MthV yX8_canGive cX8_canGive 4 (some .boolean) 3 := ⟨⟨List.mem_of_getElem? (i := 953) (by decide +kernel), List.mem_of_getElem? (i := 98) (by decide +kernel), ⟨by decide +kernel, by decide +kernel, by decide +kernel⟩, by decide⟩, List.mem_of_getElem? (i := 951) (by decide +kernel), List.mem_of_getElem? (i := 952) (by decide +kernel)⟩
theorem mo_X8_noteLent : MthV yX8_noteLent cX8_noteLent 4 none 3 := ⟨⟨List.mem_of_getElem? (i := 962) (by decide +kernel), List.mem_of_getElem? (i := 98) (by decide +kernel), ⟨by decide +kernel, by decide +kernel, by decide +kernel⟩, by decide⟩, List.mem_of_getElem? (i := 960) (by decide +kernel), List.mem_of_getElem? (i := 961) (by decide +kernel)⟩
theorem mo_X8_giveLastBack : MthV yX8_giveLastBack cX8_giveLastBack 4 (some .boolean) 0 := ⟨⟨List.mem_of_getElem? (i := 970) (by decide +kernel), List.mem_of_getElem? (i := 98) (by decide +kernel), ⟨by decide +kernel, by decide +kernel, by decide +kernel⟩, by decide⟩, List.mem_of_getElem? (i := 968) (by decide +kernel), List.mem_of_getElem? (i := 969) (by decide +kernel)⟩
theorem mo_X8_draw : MthV yX8_draw cX8_draw 2 (some .int) 1 := ⟨⟨List.mem_of_getElem? (i := 781) (by decide +kernel), List.mem_of_getElem? (i := 98) (by decide +kernel), ⟨by decide +kernel, by decide +kernel, by decide +kernel⟩, by decide⟩, List.mem_of_getElem? (i := 779) (by decide +kernel), List.mem_of_getElem? (i := 780) (by decide +kernel)⟩
theorem mo_X8_openOwedBy : MthV yX8_openOwedBy cX8_openOwedBy 2 (some .int) 1 := ⟨⟨List.mem_of_getElem? (i := 875) (by decide +kernel), List.mem_of_getElem? (i := 98) (by decide +kernel), ⟨by decide +kernel, by decide +kernel, by decide +kernel⟩, by decide⟩, List.mem_of_getElem? (i := 873) (by decide +kernel), List.mem_of_getElem? (i := 874) (by decide +kernel)⟩
theorem mo_X8_openOwedTo : MthV yX8_openOwedTo cX8_openOwedTo 4 (some .int) 1 := ⟨⟨List.mem_of_getElem? (i := 1357) (by decide +kernel), List.mem_of_getElem? (i := 98) (by decide +kernel), ⟨by decide +kernel, by decide +kernel, by decide +kernel⟩, by decide⟩, List.mem_of_getElem? (i := 1355) (by decide +kernel), List.mem_of_getElem? (i := 1356) (by decide +kernel)⟩
theorem mo_X8_openDebtsOf : MthV yX8_openDebtsOf cX8_openDebtsOf 4 (some .int) 1 := ⟨⟨List.mem_of_getElem? (i := 879) (by decide +kernel), List.mem_of_getElem? (i := 98) (by decide +kernel), ⟨by decide +kernel, by decide +kernel, by decide +kernel⟩, by decide⟩, List.mem_of_getElem? (i := 877) (by decide +kernel), List.mem_of_getElem? (i := 878) (by decide +kernel)⟩
theorem mo_X8_openDebts : MthV yX8_openDebts cX8_openDebts 1 (some .int) 0 := ⟨⟨List.mem_of_getElem? (i := 1030) (by decide +kernel), List.mem_of_getElem? (i := 98) (by decide +kernel), ⟨by decide +kernel, by decide +kernel, by decide +kernel⟩, by decide⟩, List.mem_of_getElem? (i := 1028) (by decide +kernel), List.mem_of_getElem? (i := 1029) (by decide +kernel)⟩
theorem mo_X8_openDueBy : MthV yX8_openDueBy cX8_openDueBy 4 (some .int) 1 := ⟨⟨List.mem_of_getElem? (i := 1026) (by decide +kernel), List.mem_of_getElem? (i := 98) (by decide +kernel), ⟨by decide +kernel, by decide +kernel, by decide +kernel⟩, by decide⟩, List.mem_of_getElem? (i := 1024) (by decide +kernel), List.mem_of_getElem? (i := 1025) (by decide +kernel)⟩
theorem mo_X8_hasOpenDebt : MthV yX8_hasOpenDebt cX8_hasOpenDebt 4 (some .boolean) 2 := ⟨⟨List.mem_of_getElem? (i := 887) (by decide +kernel), List.mem_of_getElem? (i := 98) (by decide +kernel), ⟨by decide +kernel, by decide +kernel, by decide +kernel⟩, by decide⟩, List.mem_of_getElem? (i := 885) (by decide +kernel), List.mem_of_getElem? (i := 886) (by decide +kernel)⟩
theorem mo_X8_sumOf : MthV yX8_sumOf cX8_sumOf 4 (some .int) 1 := ⟨⟨List.mem_of_getElem? (i := 883) (by decide +kernel), List.mem_of_getElem? (i := 98) (by decide +kernel), ⟨by decide +kernel, by decide +kernel, by decide +kernel⟩, by decide⟩, List.mem_of_getElem? (i := 881) (by decide +kernel), List.mem_of_getElem? (i := 882) (by decide +kernel)⟩
theorem mo_X8_favoursOwedBy : MthV yX8_favoursOwedBy cX8_favoursOwedBy 4 (some .int) 1 := ⟨⟨List.mem_of_getElem? (i := 1361) (by decide +kernel), List.mem_of_getElem? (i := 98) (by decide +kernel), ⟨by decide +kernel, by decide +kernel, by decide +kernel⟩, by decide⟩, List.mem_of_getElem? (i := 1359) (by decide +kernel), List.mem_of_getElem? (i := 1360) (by decide +kernel)⟩
theorem mo_X8_favoursOwedTo : MthV yX8_favoursOwedTo cX8_favoursOwedTo 4 (some .int) 1 := ⟨⟨List.mem_of_getElem? (i := 871) (by decide +kernel), List.mem_of_getElem? (i := 98) (by decide +kernel), ⟨by decide +kernel, by decide +kernel, by decide +kernel⟩, by decide⟩, List.mem_of_getElem? (i := 869) (by decide +kernel), List.mem_of_getElem? (i := 870) (by decide +kernel)⟩
theorem mo_X8_allCoin : MthV yX8_allCoin cX8_allCoin 3 (some .int) 0 := ⟨⟨List.mem_of_getElem? (i := 985) (by decide +kernel), List.mem_of_getElem? (i := 98) (by decide +kernel), ⟨by decide +kernel, by decide +kernel, by decide +kernel⟩, by decide⟩, List.mem_of_getElem? (i := 983) (by decide +kernel), List.mem_of_getElem? (i := 984) (by decide +kernel)⟩
theorem mo_X8_isLike : MthV yX8_isLike cX8_isLike 4 (some .boolean) 1 := ⟨⟨List.mem_of_getElem? (i := 1021) (by decide +kernel), List.mem_of_getElem? (i := 98) (by decide +kernel), ⟨by decide +kernel, by decide +kernel, by decide +kernel⟩, by decide⟩, List.mem_of_getElem? (i := 1019) (by decide +kernel), List.mem_of_getElem? (i := 1020) (by decide +kernel)⟩
theorem mo_X9_read : MthV yX9_read cX9_read 7 (some .int) 2 := ⟨⟨List.mem_of_getElem? (i := 535) (by decide +kernel), List.mem_of_getElem? (i := 99) (by decide +kernel), ⟨by decide +kernel, by decide +kernel, by decide +kernel⟩, by decide⟩, List.mem_of_getElem? (i := 533) (by decide +kernel), List.mem_of_getElem? (i := 534) (by decide +kernel)⟩
theorem mo_X9_peek : MthV yX9_peek cX9_peek 2 (some .int) 1 := ⟨⟨List.mem_of_getElem? (i := 547) (by decide +kernel), List.mem_of_getElem? (i := 99) (by decide +kernel), ⟨by decide +kernel, by decide +kernel, by decide +kernel⟩, by decide⟩, List.mem_of_getElem? (i := 546) (by decide +kernel), List.mem_of_getElem? (i := 1) (by decide +kernel)⟩
theorem mo_X9_takes : MthV yX9_takes cX9_takes 3 (some .boolean) 2 := ⟨⟨List.mem_of_getElem? (i := 569) (by decide +kernel), List.mem_of_getElem? (i := 99) (by decide +kernel), ⟨by decide +kernel, by decide +kernel, by decide +kernel⟩, by decide⟩, List.mem_of_getElem? (i := 568) (by decide +kernel), List.mem_of_getElem? (i := 4) (by decide +kernel)⟩
theorem mo_X9_isDigit : MthS yX9_isDigit cX9_isDigit 1 (some .boolean) 1 := ⟨⟨List.mem_of_getElem? (i := 554) (by decide +kernel), List.mem_of_getElem? (i := 99) (by decide +kernel), ⟨by decide +kernel, by decide +kernel, by decide +kernel⟩, by decide⟩, List.mem_of_getElem? (i := 553) (by decide +kernel)⟩
theorem mo_X9_readLine : MthV yX9_readLine cX9_readLine 3 (some .boolean) 2 := ⟨⟨List.mem_of_getElem? (i := 543) (by decide +kernel), List.mem_of_getElem? (i := 99) (by decide +kernel), ⟨by decide +kernel, by decide +kernel, by decide +kernel⟩, by decide⟩, List.mem_of_getElem? (i := 542) (by decide +kernel), List.mem_of_getElem? (i := 0) (by decide +kernel)⟩
theorem mo_X9_readPerson : MthV yX9_readPerson cX9_readPerson 5 (some .boolean) 2 := ⟨⟨List.mem_of_getElem? (i := 558) (by decide +kernel), List.mem_of_getElem? (i := 99) (by decide +kernel), ⟨by decide +kernel, by decide +kernel, by decide +kernel⟩, by decide⟩, List.mem_of_getElem? (i := 557) (by decide +kernel), List.mem_of_getElem? (i := 2) (by decide +kernel)⟩
theorem mo_X9_readDebt : MthV yX9_readDebt cX9_readDebt 7 (some .boolean) 2 := ⟨⟨List.mem_of_getElem? (i := 577) (by decide +kernel), List.mem_of_getElem? (i := 99) (by decide +kernel), ⟨by decide +kernel, by decide +kernel, by decide +kernel⟩, by decide⟩, List.mem_of_getElem? (i := 576) (by decide +kernel), List.mem_of_getElem? (i := 5) (by decide +kernel)⟩
theorem mo_X9_person : MthV yX9_person cX9_person 5 (some .int) 3 := ⟨⟨List.mem_of_getElem? (i := 581) (by decide +kernel), List.mem_of_getElem? (i := 99) (by decide +kernel), ⟨by decide +kernel, by decide +kernel, by decide +kernel⟩, by decide⟩, List.mem_of_getElem? (i := 580) (by decide +kernel), List.mem_of_getElem? (i := 6) (by decide +kernel)⟩
theorem mo_X9_number : MthV yX9_number cX9_number 5 (some .int) 2 := ⟨⟨List.mem_of_getElem? (i := 562) (by decide +kernel), List.mem_of_getElem? (i := 99) (by decide +kernel), ⟨by decide +kernel, by decide +kernel, by decide +kernel⟩, by decide⟩, List.mem_of_getElem? (i := 561) (by decide +kernel), List.mem_of_getElem? (i := 3) (by decide +kernel)⟩
theorem mo_X10_sign : MthV yX10_sign cX10_sign 2 (some .int) 1 := ⟨⟨List.mem_of_getElem? (i := 511) (by decide +kernel), List.mem_of_getElem? (i := 95) (by decide +kernel), ⟨by decide +kernel, by decide +kernel, by decide +kernel⟩, by decide⟩, List.mem_of_getElem? (i := 509) (by decide +kernel), List.mem_of_getElem? (i := 510) (by decide +kernel)⟩
theorem mo_X10_end : MthV yX10_end cX10_end 2 (some .boolean) 1 := ⟨⟨List.mem_of_getElem? (i := 523) (by decide +kernel), List.mem_of_getElem? (i := 95) (by decide +kernel), ⟨by decide +kernel, by decide +kernel, by decide +kernel⟩, by decide⟩, List.mem_of_getElem? (i := 521) (by decide +kernel), List.mem_of_getElem? (i := 522) (by decide +kernel)⟩
theorem mo_X10_town : MthV yX10_town cX10_town 2 (some .int) 0 := ⟨⟨List.mem_of_getElem? (i := 531) (by decide +kernel), List.mem_of_getElem? (i := 95) (by decide +kernel), ⟨by decide +kernel, by decide +kernel, by decide +kernel⟩, by decide⟩, List.mem_of_getElem? (i := 529) (by decide +kernel), List.mem_of_getElem? (i := 530) (by decide +kernel)⟩
theorem mo_X10_rule : MthV yX10_rule cX10_rule 2 (some .int) 0 := ⟨⟨List.mem_of_getElem? (i := 601) (by decide +kernel), List.mem_of_getElem? (i := 95) (by decide +kernel), ⟨by decide +kernel, by decide +kernel, by decide +kernel⟩, by decide⟩, List.mem_of_getElem? (i := 599) (by decide +kernel), List.mem_of_getElem? (i := 600) (by decide +kernel)⟩
theorem mo_X10_of : MthV yX10_of cX10_of 3 (some .int) 2 := ⟨⟨List.mem_of_getElem? (i := 1291) (by decide +kernel), List.mem_of_getElem? (i := 95) (by decide +kernel), ⟨by decide +kernel, by decide +kernel, by decide +kernel⟩, by decide⟩, List.mem_of_getElem? (i := 1289) (by decide +kernel), List.mem_of_getElem? (i := 1290) (by decide +kernel)⟩
theorem mo_X10_debt : MthV yX10_debt cX10_debt 3 (some .int) 2 := ⟨⟨List.mem_of_getElem? (i := 1369) (by decide +kernel), List.mem_of_getElem? (i := 95) (by decide +kernel), ⟨by decide +kernel, by decide +kernel, by decide +kernel⟩, by decide⟩, List.mem_of_getElem? (i := 1367) (by decide +kernel), List.mem_of_getElem? (i := 1368) (by decide +kernel)⟩
theorem mo_X10_law : MthV yX10_law cX10_law 4 (some .int) 2 := ⟨⟨List.mem_of_getElem? (i := 744) (by decide +kernel), List.mem_of_getElem? (i := 95) (by decide +kernel), ⟨by decide +kernel, by decide +kernel, by decide +kernel⟩, by decide⟩, List.mem_of_getElem? (i := 742) (by decide +kernel), List.mem_of_getElem? (i := 743) (by decide +kernel)⟩
theorem mo_X10_greatestLaw : MthS yX10_greatestLaw cX10_greatestLaw 1 (some .int) 1 := ⟨⟨List.mem_of_getElem? (i := 747) (by decide +kernel), List.mem_of_getElem? (i := 95) (by decide +kernel), ⟨by decide +kernel, by decide +kernel, by decide +kernel⟩, by decide⟩, List.mem_of_getElem? (i := 746) (by decide +kernel)⟩
theorem mo_X10_sheet : MthV yX10_sheet cX10_sheet 9 (some .int) 4 := ⟨⟨List.mem_of_getElem? (i := 751) (by decide +kernel), List.mem_of_getElem? (i := 95) (by decide +kernel), ⟨by decide +kernel, by decide +kernel, by decide +kernel⟩, by decide⟩, List.mem_of_getElem? (i := 749) (by decide +kernel), List.mem_of_getElem? (i := 750) (by decide +kernel)⟩
theorem mo_X10_entry : MthS yX10_entry cX10_entry 3 (some .int) 2 := ⟨⟨List.mem_of_getElem? (i := 754) (by decide +kernel), List.mem_of_getElem? (i := 95) (by decide +kernel), ⟨by decide +kernel, by decide +kernel, by decide +kernel⟩, by decide⟩, List.mem_of_getElem? (i := 753) (by decide +kernel)⟩
theorem mo_X10_noon : MthV yX10_noon cX10_noon 1 (some .int) 0 := ⟨⟨List.mem_of_getElem? (i := 760) (by decide +kernel), List.mem_of_getElem? (i := 95) (by decide +kernel), ⟨by decide +kernel, by decide +kernel, by decide +kernel⟩, by decide⟩, List.mem_of_getElem? (i := 758) (by decide +kernel), List.mem_of_getElem? (i := 759) (by decide +kernel)⟩
theorem mo_X10_hide : MthV yX10_hide cX10_hide 4 (some .int) 2 := ⟨⟨List.mem_of_getElem? (i := 772) (by decide +kernel), List.mem_of_getElem? (i := 95) (by decide +kernel), ⟨by decide +kernel, by decide +kernel, by decide +kernel⟩, by decide⟩, List.mem_of_getElem? (i := 770) (by decide +kernel), List.mem_of_getElem? (i := 771) (by decide +kernel)⟩
theorem mo_X10_search : MthV yX10_search cX10_search 4 (some .int) 2 := ⟨⟨List.mem_of_getElem? (i := 777) (by decide +kernel), List.mem_of_getElem? (i := 95) (by decide +kernel), ⟨by decide +kernel, by decide +kernel, by decide +kernel⟩, by decide⟩, List.mem_of_getElem? (i := 775) (by decide +kernel), List.mem_of_getElem? (i := 776) (by decide +kernel)⟩
theorem mo_X10_below : MthV yX10_below cX10_below 2 (some .int) 1 := ⟨⟨List.mem_of_getElem? (i := 786) (by decide +kernel), List.mem_of_getElem? (i := 95) (by decide +kernel), ⟨by decide +kernel, by decide +kernel, by decide +kernel⟩, by decide⟩, List.mem_of_getElem? (i := 784) (by decide +kernel), List.mem_of_getElem? (i := 785) (by decide +kernel)⟩
theorem mo_X10_may : MthV yX10_may cX10_may 3 (some .int) 1 := ⟨⟨List.mem_of_getElem? (i := 804) (by decide +kernel), List.mem_of_getElem? (i := 95) (by decide +kernel), ⟨by decide +kernel, by decide +kernel, by decide +kernel⟩, by decide⟩, List.mem_of_getElem? (i := 802) (by decide +kernel), List.mem_of_getElem? (i := 803) (by decide +kernel)⟩
theorem mo_X10_tellCheapest : MthV yX10_tellCheapest cX10_tellCheapest 6 none 2 := ⟨⟨List.mem_of_getElem? (i := 834) (by decide +kernel), List.mem_of_getElem? (i := 95) (by decide +kernel), ⟨by decide +kernel, by decide +kernel, by decide +kernel⟩, by decide⟩, List.mem_of_getElem? (i := 833) (by decide +kernel), List.mem_of_getElem? (i := 18) (by decide +kernel)⟩
theorem mo_X10_willing : MthV yX10_willing cX10_willing 3 (some .int) 1 := ⟨⟨List.mem_of_getElem? (i := 852) (by decide +kernel), List.mem_of_getElem? (i := 95) (by decide +kernel), ⟨by decide +kernel, by decide +kernel, by decide +kernel⟩, by decide⟩, List.mem_of_getElem? (i := 850) (by decide +kernel), List.mem_of_getElem? (i := 851) (by decide +kernel)⟩
theorem mo_X10_pay : MthV yX10_pay cX10_pay 3 (some .int) 2 := ⟨⟨List.mem_of_getElem? (i := 899) (by decide +kernel), List.mem_of_getElem? (i := 95) (by decide +kernel), ⟨by decide +kernel, by decide +kernel, by decide +kernel⟩, by decide⟩, List.mem_of_getElem? (i := 897) (by decide +kernel), List.mem_of_getElem? (i := 898) (by decide +kernel)⟩
theorem mo_X10_undo : MthV yX10_undo cX10_undo 1 (some .int) 0 := ⟨⟨List.mem_of_getElem? (i := 919) (by decide +kernel), List.mem_of_getElem? (i := 95) (by decide +kernel), ⟨by decide +kernel, by decide +kernel, by decide +kernel⟩, by decide⟩, List.mem_of_getElem? (i := 917) (by decide +kernel), List.mem_of_getElem? (i := 918) (by decide +kernel)⟩
theorem mo_X10_forgetPayments : MthV yX10_forgetPayments cX10_forgetPayments 1 none 0 := ⟨⟨List.mem_of_getElem? (i := 597) (by decide +kernel), List.mem_of_getElem? (i := 95) (by decide +kernel), ⟨by decide +kernel, by decide +kernel, by decide +kernel⟩, by decide⟩, List.mem_of_getElem? (i := 596) (by decide +kernel), List.mem_of_getElem? (i := 7) (by decide +kernel)⟩
theorem mo_X10_judge : MthV yX10_judge cX10_judge 9 (some .int) 2 := ⟨⟨List.mem_of_getElem? (i := 927) (by decide +kernel), List.mem_of_getElem? (i := 95) (by decide +kernel), ⟨by decide +kernel, by decide +kernel, by decide +kernel⟩, by decide⟩, List.mem_of_getElem? (i := 925) (by decide +kernel), List.mem_of_getElem? (i := 926) (by decide +kernel)⟩
theorem mo_X10_favour : MthV yX10_favour cX10_favour 3 (some .int) 2 := ⟨⟨List.mem_of_getElem? (i := 936) (by decide +kernel), List.mem_of_getElem? (i := 95) (by decide +kernel), ⟨by decide +kernel, by decide +kernel, by decide +kernel⟩, by decide⟩, List.mem_of_getElem? (i := 934) (by decide +kernel), List.mem_of_getElem? (i := 935) (by decide +kernel)⟩
theorem mo_X10_nets : MthV yX10_nets cX10_nets 4 (some .int) 0 := ⟨⟨List.mem_of_getElem? (i := 940) (by decide +kernel), List.mem_of_getElem? (i := 95) (by decide +kernel), ⟨by decide +kernel, by decide +kernel, by decide +kernel⟩, by decide⟩, List.mem_of_getElem? (i := 938) (by decide +kernel), List.mem_of_getElem? (i := 939) (by decide +kernel)⟩
theorem mo_X10_give : MthV yX10_give cX10_give 4 (some .boolean) 3 := ⟨⟨List.mem_of_getElem? (i := 949) (by decide +kernel), List.mem_of_getElem? (i := 95) (by decide +kernel), ⟨by decide +kernel, by decide +kernel, by decide +kernel⟩, by decide⟩, List.mem_of_getElem? (i := 947) (by decide +kernel), List.mem_of_getElem? (i := 948) (by decide +kernel)⟩
theorem mo_X10_lend : MthV yX10_lend cX10_lend 4 (some .int) 3 := ⟨⟨List.mem_of_getElem? (i := 958) (by decide +kernel), List.mem_of_getElem? (i := 95) (by decide +kernel), ⟨by decide +kernel, by decide +kernel, by decide +kernel⟩, by decide⟩, List.mem_of_getElem? (i := 956) (by decide +kernel), List.mem_of_getElem? (i := 957) (by decide +kernel)⟩
theorem mo_X10_back : MthV yX10_back cX10_back 1 (some .int) 0 := ⟨⟨List.mem_of_getElem? (i := 966) (by decide +kernel), List.mem_of_getElem? (i := 95) (by decide +kernel), ⟨by decide +kernel, by decide +kernel, by decide +kernel⟩, by decide⟩, List.mem_of_getElem? (i := 964) (by decide +kernel), List.mem_of_getElem? (i := 965) (by decide +kernel)⟩
theorem mo_X10_gift : MthV yX10_gift cX10_gift 3 (some .int) 1 := ⟨⟨List.mem_of_getElem? (i := 975) (by decide +kernel), List.mem_of_getElem? (i := 95) (by decide +kernel), ⟨by decide +kernel, by decide +kernel, by decide +kernel⟩, by decide⟩, List.mem_of_getElem? (i := 973) (by decide +kernel), List.mem_of_getElem? (i := 974) (by decide +kernel)⟩
theorem mo_X10_poorer : MthV yX10_poorer cX10_poorer 4 (some .int) 2 := ⟨⟨List.mem_of_getElem? (i := 997) (by decide +kernel), List.mem_of_getElem? (i := 95) (by decide +kernel), ⟨by decide +kernel, by decide +kernel, by decide +kernel⟩, by decide⟩, List.mem_of_getElem? (i := 995) (by decide +kernel), List.mem_of_getElem? (i := 996) (by decide +kernel)⟩
theorem mo_X10_isDay : MthS yX10_isDay cX10_isDay 1 (some .boolean) 1 := ⟨⟨List.mem_of_getElem? (i := 1009) (by decide +kernel), List.mem_of_getElem? (i := 95) (by decide +kernel), ⟨by decide +kernel, by decide +kernel, by decide +kernel⟩, by decide⟩, List.mem_of_getElem? (i := 1008) (by decide +kernel)⟩
theorem mo_X10_visit : MthV yX10_visit cX10_visit 2 (some .boolean) 1 := ⟨⟨List.mem_of_getElem? (i := 1013) (by decide +kernel), List.mem_of_getElem? (i := 95) (by decide +kernel), ⟨by decide +kernel, by decide +kernel, by decide +kernel⟩, by decide⟩, List.mem_of_getElem? (i := 1012) (by decide +kernel), List.mem_of_getElem? (i := 20) (by decide +kernel)⟩
theorem mo_X10_most : MthV yX10_most cX10_most 2 (some .int) 1 := ⟨⟨List.mem_of_getElem? (i := 1006) (by decide +kernel), List.mem_of_getElem? (i := 95) (by decide +kernel), ⟨by decide +kernel, by decide +kernel, by decide +kernel⟩, by decide⟩, List.mem_of_getElem? (i := 1004) (by decide +kernel), List.mem_of_getElem? (i := 1005) (by decide +kernel)⟩
theorem mo_X10_all : MthV yX10_all cX10_all 3 (some .int) 1 := ⟨⟨List.mem_of_getElem? (i := 1096) (by decide +kernel), List.mem_of_getElem? (i := 95) (by decide +kernel), ⟨by decide +kernel, by decide +kernel, by decide +kernel⟩, by decide⟩, List.mem_of_getElem? (i := 1094) (by decide +kernel), List.mem_of_getElem? (i := 1095) (by decide +kernel)⟩
theorem mo_X10_tellPayments : MthV yX10_tellPayments cX10_tellPayments 4 none 1 := ⟨⟨List.mem_of_getElem? (i := 1104) (by decide +kernel), List.mem_of_getElem? (i := 95) (by decide +kernel), ⟨by decide +kernel, by decide +kernel, by decide +kernel⟩, by decide⟩, List.mem_of_getElem? (i := 1103) (by decide +kernel), List.mem_of_getElem? (i := 29) (by decide +kernel)⟩
theorem mo_X10_never : MthV yX10_never cX10_never 2 (some .int) 1 := ⟨⟨List.mem_of_getElem? (i := 1116) (by decide +kernel), List.mem_of_getElem? (i := 95) (by decide +kernel), ⟨by decide +kernel, by decide +kernel, by decide +kernel⟩, by decide⟩, List.mem_of_getElem? (i := 1114) (by decide +kernel), List.mem_of_getElem? (i := 1115) (by decide +kernel)⟩
theorem mo_X10_ways : MthV yX10_ways cX10_ways 4 (some .long) 1 := ⟨⟨List.mem_of_getElem? (i := 1120) (by decide +kernel), List.mem_of_getElem? (i := 95) (by decide +kernel), ⟨by decide +kernel, by decide +kernel, by decide +kernel⟩, by decide⟩, List.mem_of_getElem? (i := 1118) (by decide +kernel), List.mem_of_getElem? (i := 1119) (by decide +kernel)⟩
theorem mo_X10_ahead : MthV yX10_ahead cX10_ahead 3 (some .int) 2 := ⟨⟨List.mem_of_getElem? (i := 1143) (by decide +kernel), List.mem_of_getElem? (i := 95) (by decide +kernel), ⟨by decide +kernel, by decide +kernel, by decide +kernel⟩, by decide⟩, List.mem_of_getElem? (i := 1141) (by decide +kernel), List.mem_of_getElem? (i := 1142) (by decide +kernel)⟩
theorem mo_X10_fewest : MthV yX10_fewest cX10_fewest 3 (some .int) 1 := ⟨⟨List.mem_of_getElem? (i := 1147) (by decide +kernel), List.mem_of_getElem? (i := 95) (by decide +kernel), ⟨by decide +kernel, by decide +kernel, by decide +kernel⟩, by decide⟩, List.mem_of_getElem? (i := 1145) (by decide +kernel), List.mem_of_getElem? (i := 1146) (by decide +kernel)⟩
theorem mo_X10_sorts : MthV yX10_sorts cX10_sorts 7 (some .int) 1 := ⟨⟨List.mem_of_getElem? (i := 1158) (by decide +kernel), List.mem_of_getElem? (i := 95) (by decide +kernel), ⟨by decide +kernel, by decide +kernel, by decide +kernel⟩, by decide⟩, List.mem_of_getElem? (i := 1156) (by decide +kernel), List.mem_of_getElem? (i := 1157) (by decide +kernel)⟩
theorem mo_X10_flow : MthV yX10_flow cX10_flow 2 (some .int) 1 := ⟨⟨List.mem_of_getElem? (i := 1162) (by decide +kernel), List.mem_of_getElem? (i := 95) (by decide +kernel), ⟨by decide +kernel, by decide +kernel, by decide +kernel⟩, by decide⟩, List.mem_of_getElem? (i := 1160) (by decide +kernel), List.mem_of_getElem? (i := 1161) (by decide +kernel)⟩
theorem mo_X10_proof : MthV yX10_proof cX10_proof 3 (some .int) 1 := ⟨⟨List.mem_of_getElem? (i := 1203) (by decide +kernel), List.mem_of_getElem? (i := 95) (by decide +kernel), ⟨by decide +kernel, by decide +kernel, by decide +kernel⟩, by decide⟩, List.mem_of_getElem? (i := 1201) (by decide +kernel), List.mem_of_getElem? (i := 1202) (by decide +kernel)⟩
theorem mo_X10_gap : MthV yX10_gap cX10_gap 4 (some .int) 2 := ⟨⟨List.mem_of_getElem? (i := 1210) (by decide +kernel), List.mem_of_getElem? (i := 95) (by decide +kernel), ⟨by decide +kernel, by decide +kernel, by decide +kernel⟩, by decide⟩, List.mem_of_getElem? (i := 1208) (by decide +kernel), List.mem_of_getElem? (i := 1209) (by decide +kernel)⟩
theorem mo_X10_lowest : MthV yX10_lowest cX10_lowest 4 (some .int) 0 := ⟨⟨List.mem_of_getElem? (i := 1214) (by decide +kernel), List.mem_of_getElem? (i := 95) (by decide +kernel), ⟨by decide +kernel, by decide +kernel, by decide +kernel⟩, by decide⟩, List.mem_of_getElem? (i := 1212) (by decide +kernel), List.mem_of_getElem? (i := 1213) (by decide +kernel)⟩
theorem mo_X10_lapse : MthV yX10_lapse cX10_lapse 2 (some .int) 1 := ⟨⟨List.mem_of_getElem? (i := 1219) (by decide +kernel), List.mem_of_getElem? (i := 95) (by decide +kernel), ⟨by decide +kernel, by decide +kernel, by decide +kernel⟩, by decide⟩, List.mem_of_getElem? (i := 1217) (by decide +kernel), List.mem_of_getElem? (i := 1218) (by decide +kernel)⟩
theorem mo_X10_isSpan : MthS yX10_isSpan cX10_isSpan 1 (some .boolean) 1 := ⟨⟨List.mem_of_getElem? (i := 1222) (by decide +kernel), List.mem_of_getElem? (i := 95) (by decide +kernel), ⟨by decide +kernel, by decide +kernel, by decide +kernel⟩, by decide⟩, List.mem_of_getElem? (i := 1221) (by decide +kernel)⟩
theorem mo_X10_days : MthV yX10_days cX10_days 2 (some .int) 1 := ⟨⟨List.mem_of_getElem? (i := 1239) (by decide +kernel), List.mem_of_getElem? (i := 95) (by decide +kernel), ⟨by decide +kernel, by decide +kernel, by decide +kernel⟩, by decide⟩, List.mem_of_getElem? (i := 1237) (by decide +kernel), List.mem_of_getElem? (i := 1238) (by decide +kernel)⟩
theorem mo_X10_best : MthV yX10_best cX10_best 5 (some .int) 1 := ⟨⟨List.mem_of_getElem? (i := 1243) (by decide +kernel), List.mem_of_getElem? (i := 95) (by decide +kernel), ⟨by decide +kernel, by decide +kernel, by decide +kernel⟩, by decide⟩, List.mem_of_getElem? (i := 1241) (by decide +kernel), List.mem_of_getElem? (i := 1242) (by decide +kernel)⟩
theorem mo_X10_pays : MthV yX10_pays cX10_pays 4 (some .int) 3 := ⟨⟨List.mem_of_getElem? (i := 1376) (by decide +kernel), List.mem_of_getElem? (i := 95) (by decide +kernel), ⟨by decide +kernel, by decide +kernel, by decide +kernel⟩, by decide⟩, List.mem_of_getElem? (i := 1374) (by decide +kernel), List.mem_of_getElem? (i := 1375) (by decide +kernel)⟩
theorem mo_X10_wealthBehind : MthV yX10_wealthBehind cX10_wealthBehind 4 (some .int) 3 := ⟨⟨List.mem_of_getElem? (i := 1380) (by decide +kernel), List.mem_of_getElem? (i := 95) (by decide +kernel), ⟨by decide +kernel, by decide +kernel, by decide +kernel⟩, by decide⟩, List.mem_of_getElem? (i := 1379) (by decide +kernel), List.mem_of_getElem? (i := 37) (by decide +kernel)⟩
theorem mo_X10_spread : MthV yX10_spread cX10_spread 8 (some .int) 0 := ⟨⟨List.mem_of_getElem? (i := 1247) (by decide +kernel), List.mem_of_getElem? (i := 95) (by decide +kernel), ⟨by decide +kernel, by decide +kernel, by decide +kernel⟩, by decide⟩, List.mem_of_getElem? (i := 1245) (by decide +kernel), List.mem_of_getElem? (i := 1246) (by decide +kernel)⟩
theorem mo_X10_tellFraction : MthV yX10_tellFraction cX10_tellFraction 7 none 2 := ⟨⟨List.mem_of_getElem? (i := 1255) (by decide +kernel), List.mem_of_getElem? (i := 95) (by decide +kernel), ⟨by decide +kernel, by decide +kernel, by decide +kernel⟩, by decide⟩, List.mem_of_getElem? (i := 1254) (by decide +kernel), List.mem_of_getElem? (i := 34) (by decide +kernel)⟩
theorem mo_X10_commonMeasure : MthS yX10_commonMeasure cX10_commonMeasure 11 (some .long) 2 := ⟨⟨List.mem_of_getElem? (i := 1258) (by decide +kernel), List.mem_of_getElem? (i := 95) (by decide +kernel), ⟨by decide +kernel, by decide +kernel, by decide +kernel⟩, by decide⟩, List.mem_of_getElem? (i := 1257) (by decide +kernel)⟩
theorem mo_X10_today : MthV yX10_today cX10_today 1 (some .int) 0 := ⟨⟨List.mem_of_getElem? (i := 1262) (by decide +kernel), List.mem_of_getElem? (i := 95) (by decide +kernel), ⟨by decide +kernel, by decide +kernel, by decide +kernel⟩, by decide⟩, List.mem_of_getElem? (i := 1260) (by decide +kernel), List.mem_of_getElem? (i := 1261) (by decide +kernel)⟩
theorem mo_X10_seed : MthV yX10_seed cX10_seed 3 (some .int) 1 := ⟨⟨List.mem_of_getElem? (i := 1266) (by decide +kernel), List.mem_of_getElem? (i := 95) (by decide +kernel), ⟨by decide +kernel, by decide +kernel, by decide +kernel⟩, by decide⟩, List.mem_of_getElem? (i := 1264) (by decide +kernel), List.mem_of_getElem? (i := 1265) (by decide +kernel)⟩
theorem mo_X10_keep : MthV yX10_keep cX10_keep 2 (some .boolean) 1 := ⟨⟨List.mem_of_getElem? (i := 1270) (by decide +kernel), List.mem_of_getElem? (i := 95) (by decide +kernel), ⟨by decide +kernel, by decide +kernel, by decide +kernel⟩, by decide⟩, List.mem_of_getElem? (i := 1268) (by decide +kernel), List.mem_of_getElem? (i := 1269) (by decide +kernel)⟩
theorem mo_X10_again : MthV yX10_again cX10_again 2 (some .boolean) 1 := ⟨⟨List.mem_of_getElem? (i := 1274) (by decide +kernel), List.mem_of_getElem? (i := 95) (by decide +kernel), ⟨by decide +kernel, by decide +kernel, by decide +kernel⟩, by decide⟩, List.mem_of_getElem? (i := 1272) (by decide +kernel), List.mem_of_getElem? (i := 1273) (by decide +kernel)⟩
theorem mo_X10_takeAgain : MthV yX10_takeAgain cX10_takeAgain 2 (some .boolean) 1 := ⟨⟨List.mem_of_getElem? (i := 1278) (by decide +kernel), List.mem_of_getElem? (i := 95) (by decide +kernel), ⟨by decide +kernel, by decide +kernel, by decide +kernel⟩, by decide⟩, List.mem_of_getElem? (i := 1277) (by decide +kernel), List.mem_of_getElem? (i := 35) (by decide +kernel)⟩
theorem mo_X10_count : MthV yX10_count cX10_count 2 (some .int) 1 := ⟨⟨List.mem_of_getElem? (i := 1282) (by decide +kernel), List.mem_of_getElem? (i := 95) (by decide +kernel), ⟨by decide +kernel, by decide +kernel, by decide +kernel⟩, by decide⟩, List.mem_of_getElem? (i := 1280) (by decide +kernel), List.mem_of_getElem? (i := 1281) (by decide +kernel)⟩
theorem mo_X10_row : MthV yX10_row cX10_row 2 (some .long) 1 := ⟨⟨List.mem_of_getElem? (i := 1387) (by decide +kernel), List.mem_of_getElem? (i := 95) (by decide +kernel), ⟨by decide +kernel, by decide +kernel, by decide +kernel⟩, by decide⟩, List.mem_of_getElem? (i := 1385) (by decide +kernel), List.mem_of_getElem? (i := 1386) (by decide +kernel)⟩
theorem mo_X11_thrown : MthV yX11_thrown cX11_thrown 1 (some .int) 0 := ⟨⟨List.mem_of_getElem? (i := 1576) (by decide +kernel), List.mem_of_getElem? (i := 106) (by decide +kernel), ⟨by decide +kernel, by decide +kernel, by decide +kernel⟩, by decide⟩, List.mem_of_getElem? (i := 1574) (by decide +kernel), List.mem_of_getElem? (i := 1575) (by decide +kernel)⟩
theorem mo_X11_in : MthS yX11_in cX11_in 6 (some .boolean) 3 := ⟨⟨List.mem_of_getElem? (i := 1587) (by decide +kernel), List.mem_of_getElem? (i := 106) (by decide +kernel), ⟨by decide +kernel, by decide +kernel, by decide +kernel⟩, by decide⟩, List.mem_of_getElem? (i := 1586) (by decide +kernel)⟩
theorem mo_X11_has : MthS yX11_has cX11_has 2 (some .boolean) 2 := ⟨⟨List.mem_of_getElem? (i := 1756) (by decide +kernel), List.mem_of_getElem? (i := 106) (by decide +kernel), ⟨by decide +kernel, by decide +kernel, by decide +kernel⟩, by decide⟩, List.mem_of_getElem? (i := 1755) (by decide +kernel)⟩
theorem mo_X11_lost : MthV yX11_lost cX11_lost 1 (some .int) 0 := ⟨⟨List.mem_of_getElem? (i := 1682) (by decide +kernel), List.mem_of_getElem? (i := 106) (by decide +kernel), ⟨by decide +kernel, by decide +kernel, by decide +kernel⟩, by decide⟩, List.mem_of_getElem? (i := 1681) (by decide +kernel), List.mem_of_getElem? (i := 57) (by decide +kernel)⟩
theorem mo_X11_tell : MthV yX11_tell cX11_tell 3 none 1 := ⟨⟨List.mem_of_getElem? (i := 1760) (by decide +kernel), List.mem_of_getElem? (i := 106) (by decide +kernel), ⟨by decide +kernel, by decide +kernel, by decide +kernel⟩, by decide⟩, List.mem_of_getElem? (i := 1759) (by decide +kernel), List.mem_of_getElem? (i := 66) (by decide +kernel)⟩
theorem mo_X11_isOne : MthV yX11_isOne cX11_isOne 2 (some .boolean) 1 := ⟨⟨List.mem_of_getElem? (i := 1677) (by decide +kernel), List.mem_of_getElem? (i := 106) (by decide +kernel), ⟨by decide +kernel, by decide +kernel, by decide +kernel⟩, by decide⟩, List.mem_of_getElem? (i := 1676) (by decide +kernel), List.mem_of_getElem? (i := 56) (by decide +kernel)⟩
theorem mo_X11_isDebt : MthV yX11_isDebt cX11_isDebt 2 (some .boolean) 1 := ⟨⟨List.mem_of_getElem? (i := 1702) (by decide +kernel), List.mem_of_getElem? (i := 106) (by decide +kernel), ⟨by decide +kernel, by decide +kernel, by decide +kernel⟩, by decide⟩, List.mem_of_getElem? (i := 1701) (by decide +kernel), List.mem_of_getElem? (i := 61) (by decide +kernel)⟩
theorem mo_X11_isOpen : MthV yX11_isOpen cX11_isOpen 2 (some .boolean) 1 := ⟨⟨List.mem_of_getElem? (i := 1797) (by decide +kernel), List.mem_of_getElem? (i := 106) (by decide +kernel), ⟨by decide +kernel, by decide +kernel, by decide +kernel⟩, by decide⟩, List.mem_of_getElem? (i := 1796) (by decide +kernel), List.mem_of_getElem? (i := 71) (by decide +kernel)⟩
theorem mo_X11_counted : MthV yX11_counted cX11_counted 2 (some .int) 1 := ⟨⟨List.mem_of_getElem? (i := 1657) (by decide +kernel), List.mem_of_getElem? (i := 106) (by decide +kernel), ⟨by decide +kernel, by decide +kernel, by decide +kernel⟩, by decide⟩, List.mem_of_getElem? (i := 1656) (by decide +kernel), List.mem_of_getElem? (i := 52) (by decide +kernel)⟩
theorem mo_X11_sign : MthV yX11_sign cX11_sign 3 (some .int) 1 := ⟨⟨List.mem_of_getElem? (i := 1580) (by decide +kernel), List.mem_of_getElem? (i := 106) (by decide +kernel), ⟨by decide +kernel, by decide +kernel, by decide +kernel⟩, by decide⟩, List.mem_of_getElem? (i := 1578) (by decide +kernel), List.mem_of_getElem? (i := 1579) (by decide +kernel)⟩
theorem mo_X11_end : MthV yX11_end cX11_end 2 (some .boolean) 1 := ⟨⟨List.mem_of_getElem? (i := 1584) (by decide +kernel), List.mem_of_getElem? (i := 106) (by decide +kernel), ⟨by decide +kernel, by decide +kernel, by decide +kernel⟩, by decide⟩, List.mem_of_getElem? (i := 1582) (by decide +kernel), List.mem_of_getElem? (i := 1583) (by decide +kernel)⟩
theorem mo_X11_begin : MthV yX11_begin cX11_begin 4 none 3 := ⟨⟨List.mem_of_getElem? (i := 1595) (by decide +kernel), List.mem_of_getElem? (i := 106) (by decide +kernel), ⟨by decide +kernel, by decide +kernel, by decide +kernel⟩, by decide⟩, List.mem_of_getElem? (i := 1594) (by decide +kernel), List.mem_of_getElem? (i := 38) (by decide +kernel)⟩
theorem mo_X11_here : MthV yX11_here cX11_here 1 (some .int) 0 := ⟨⟨List.mem_of_getElem? (i := 1603) (by decide +kernel), List.mem_of_getElem? (i := 106) (by decide +kernel), ⟨by decide +kernel, by decide +kernel, by decide +kernel⟩, by decide⟩, List.mem_of_getElem? (i := 1602) (by decide +kernel), List.mem_of_getElem? (i := 40) (by decide +kernel)⟩
theorem mo_X11_fine : MthV yX11_fine cX11_fine 1 (some .boolean) 0 := ⟨⟨List.mem_of_getElem? (i := 1599) (by decide +kernel), List.mem_of_getElem? (i := 106) (by decide +kernel), ⟨by decide +kernel, by decide +kernel, by decide +kernel⟩, by decide⟩, List.mem_of_getElem? (i := 1598) (by decide +kernel), List.mem_of_getElem? (i := 39) (by decide +kernel)⟩
theorem mo_X11_fault : MthV yX11_fault cX11_fault 2 none 1 := ⟨⟨List.mem_of_getElem? (i := 1607) (by decide +kernel), List.mem_of_getElem? (i := 106) (by decide +kernel), ⟨by decide +kernel, by decide +kernel, by decide +kernel⟩, by decide⟩, List.mem_of_getElem? (i := 1606) (by decide +kernel), List.mem_of_getElem? (i := 41) (by decide +kernel)⟩
theorem mo_X11_passes : MthV yX11_passes cX11_passes 2 (some .boolean) 1 := ⟨⟨List.mem_of_getElem? (i := 1625) (by decide +kernel), List.mem_of_getElem? (i := 106) (by decide +kernel), ⟨by decide +kernel, by decide +kernel, by decide +kernel⟩, by decide⟩, List.mem_of_getElem? (i := 1624) (by decide +kernel), List.mem_of_getElem? (i := 45) (by decide +kernel)⟩
theorem mo_X11_need : MthV yX11_need cX11_need 2 none 1 := ⟨⟨List.mem_of_getElem? (i := 1621) (by decide +kernel), List.mem_of_getElem? (i := 106) (by decide +kernel), ⟨by decide +kernel, by decide +kernel, by decide +kernel⟩, by decide⟩, List.mem_of_getElem? (i := 1620) (by decide +kernel), List.mem_of_getElem? (i := 44) (by decide +kernel)⟩
theorem mo_X11_number : MthV yX11_number cX11_number 6 (some .int) 3 := ⟨⟨List.mem_of_getElem? (i := 1615) (by decide +kernel), List.mem_of_getElem? (i := 106) (by decide +kernel), ⟨by decide +kernel, by decide +kernel, by decide +kernel⟩, by decide⟩, List.mem_of_getElem? (i := 1614) (by decide +kernel), List.mem_of_getElem? (i := 43) (by decide +kernel)⟩
theorem mo_X11_town : MthV yX11_town cX11_town 6 (some .int) 0 := ⟨⟨List.mem_of_getElem? (i := 1591) (by decide +kernel), List.mem_of_getElem? (i := 106) (by decide +kernel), ⟨by decide +kernel, by decide +kernel, by decide +kernel⟩, by decide⟩, List.mem_of_getElem? (i := 1589) (by decide +kernel), List.mem_of_getElem? (i := 1590) (by decide +kernel)⟩
theorem mo_X11_readOne : MthV yX11_readOne cX11_readOne 2 none 1 := ⟨⟨List.mem_of_getElem? (i := 1629) (by decide +kernel), List.mem_of_getElem? (i := 106) (by decide +kernel), ⟨by decide +kernel, by decide +kernel, by decide +kernel⟩, by decide⟩, List.mem_of_getElem? (i := 1628) (by decide +kernel), List.mem_of_getElem? (i := 46) (by decide +kernel)⟩
theorem mo_X11_readDebt : MthV yX11_readDebt cX11_readDebt 3 none 2 := ⟨⟨List.mem_of_getElem? (i := 1611) (by decide +kernel), List.mem_of_getElem? (i := 106) (by decide +kernel), ⟨by decide +kernel, by decide +kernel, by decide +kernel⟩, by decide⟩, List.mem_of_getElem? (i := 1610) (by decide +kernel), List.mem_of_getElem? (i := 42) (by decide +kernel)⟩
theorem mo_X11_held : MthV yX11_held cX11_held 3 (some .int) 1 := ⟨⟨List.mem_of_getElem? (i := 1637) (by decide +kernel), List.mem_of_getElem? (i := 106) (by decide +kernel), ⟨by decide +kernel, by decide +kernel, by decide +kernel⟩, by decide⟩, List.mem_of_getElem? (i := 1636) (by decide +kernel), List.mem_of_getElem? (i := 47) (by decide +kernel)⟩
theorem mo_X11_sum : MthV yX11_sum cX11_sum 5 (some .int) 1 := ⟨⟨List.mem_of_getElem? (i := 1641) (by decide +kernel), List.mem_of_getElem? (i := 106) (by decide +kernel), ⟨by decide +kernel, by decide +kernel, by decide +kernel⟩, by decide⟩, List.mem_of_getElem? (i := 1640) (by decide +kernel), List.mem_of_getElem? (i := 48) (by decide +kernel)⟩
theorem mo_X11_product : MthV yX11_product cX11_product 5 (some .int) 1 := ⟨⟨List.mem_of_getElem? (i := 1645) (by decide +kernel), List.mem_of_getElem? (i := 106) (by decide +kernel), ⟨by decide +kernel, by decide +kernel, by decide +kernel⟩, by decide⟩, List.mem_of_getElem? (i := 1644) (by decide +kernel), List.mem_of_getElem? (i := 49) (by decide +kernel)⟩
theorem mo_X11_thing : MthV yX11_thing cX11_thing 4 (some .int) 1 := ⟨⟨List.mem_of_getElem? (i := 1649) (by decide +kernel), List.mem_of_getElem? (i := 106) (by decide +kernel), ⟨by decide +kernel, by decide +kernel, by decide +kernel⟩, by decide⟩, List.mem_of_getElem? (i := 1648) (by decide +kernel), List.mem_of_getElem? (i := 50) (by decide +kernel)⟩
theorem mo_X11_letter : MthV yX11_letter cX11_letter 3 (some .int) 1 := ⟨⟨List.mem_of_getElem? (i := 1653) (by decide +kernel), List.mem_of_getElem? (i := 106) (by decide +kernel), ⟨by decide +kernel, by decide +kernel, by decide +kernel⟩, by decide⟩, List.mem_of_getElem? (i := 1652) (by decide +kernel), List.mem_of_getElem? (i := 51) (by decide +kernel)⟩
theorem mo_X11_rule : MthV yX11_rule cX11_rule 3 (some .int) 0 := ⟨⟨List.mem_of_getElem? (i := 1633) (by decide +kernel), List.mem_of_getElem? (i := 106) (by decide +kernel), ⟨by decide +kernel, by decide +kernel, by decide +kernel⟩, by decide⟩, List.mem_of_getElem? (i := 1631) (by decide +kernel), List.mem_of_getElem? (i := 1632) (by decide +kernel)⟩
theorem mo_X11_ruleFor : MthV yX11_ruleFor cX11_ruleFor 3 (some .int) 2 := ⟨⟨List.mem_of_getElem? (i := 1772) (by decide +kernel), List.mem_of_getElem? (i := 106) (by decide +kernel), ⟨by decide +kernel, by decide +kernel, by decide +kernel⟩, by decide⟩, List.mem_of_getElem? (i := 1771) (by decide +kernel), List.mem_of_getElem? (i := 68) (by decide +kernel)⟩
theorem mo_X11_openOf : MthV yX11_openOf cX11_openOf 4 (some .int) 1 := ⟨⟨List.mem_of_getElem? (i := 1669) (by decide +kernel), List.mem_of_getElem? (i := 106) (by decide +kernel), ⟨by decide +kernel, by decide +kernel, by decide +kernel⟩, by decide⟩, List.mem_of_getElem? (i := 1668) (by decide +kernel), List.mem_of_getElem? (i := 55) (by decide +kernel)⟩
theorem mo_X11_openTo : MthV yX11_openTo cX11_openTo 4 (some .int) 1 := ⟨⟨List.mem_of_getElem? (i := 1690) (by decide +kernel), List.mem_of_getElem? (i := 106) (by decide +kernel), ⟨by decide +kernel, by decide +kernel, by decide +kernel⟩, by decide⟩, List.mem_of_getElem? (i := 1689) (by decide +kernel), List.mem_of_getElem? (i := 59) (by decide +kernel)⟩
theorem mo_X11_favoursOwed : MthV yX11_favoursOwed cX11_favoursOwed 4 (some .int) 1 := ⟨⟨List.mem_of_getElem? (i := 1665) (by decide +kernel), List.mem_of_getElem? (i := 106) (by decide +kernel), ⟨by decide +kernel, by decide +kernel, by decide +kernel⟩, by decide⟩, List.mem_of_getElem? (i := 1664) (by decide +kernel), List.mem_of_getElem? (i := 54) (by decide +kernel)⟩
theorem mo_X11_favoursOwing : MthV yX11_favoursOwing cX11_favoursOwing 4 (some .int) 1 := ⟨⟨List.mem_of_getElem? (i := 1694) (by decide +kernel), List.mem_of_getElem? (i := 106) (by decide +kernel), ⟨by decide +kernel, by decide +kernel, by decide +kernel⟩, by decide⟩, List.mem_of_getElem? (i := 1693) (by decide +kernel), List.mem_of_getElem? (i := 60) (by decide +kernel)⟩
theorem mo_X11_onList : MthV yX11_onList cX11_onList 2 (some .int) 1 := ⟨⟨List.mem_of_getElem? (i := 1686) (by decide +kernel), List.mem_of_getElem? (i := 106) (by decide +kernel), ⟨by decide +kernel, by decide +kernel, by decide +kernel⟩, by decide⟩, List.mem_of_getElem? (i := 1685) (by decide +kernel), List.mem_of_getElem? (i := 58) (by decide +kernel)⟩
theorem mo_X11_of : MthV yX11_of cX11_of 3 (some .int) 2 := ⟨⟨List.mem_of_getElem? (i := 1673) (by decide +kernel), List.mem_of_getElem? (i := 106) (by decide +kernel), ⟨by decide +kernel, by decide +kernel, by decide +kernel⟩, by decide⟩, List.mem_of_getElem? (i := 1671) (by decide +kernel), List.mem_of_getElem? (i := 1672) (by decide +kernel)⟩
theorem mo_X11_debt : MthV yX11_debt cX11_debt 3 (some .int) 2 := ⟨⟨List.mem_of_getElem? (i := 1698) (by decide +kernel), List.mem_of_getElem? (i := 106) (by decide +kernel), ⟨by decide +kernel, by decide +kernel, by decide +kernel⟩, by decide⟩, List.mem_of_getElem? (i := 1696) (by decide +kernel), List.mem_of_getElem? (i := 1697) (by decide +kernel)⟩
theorem mo_X11_law : MthV yX11_law cX11_law 4 (some .int) 2 := ⟨⟨List.mem_of_getElem? (i := 1707) (by decide +kernel), List.mem_of_getElem? (i := 106) (by decide +kernel), ⟨by decide +kernel, by decide +kernel, by decide +kernel⟩, by decide⟩, List.mem_of_getElem? (i := 1705) (by decide +kernel), List.mem_of_getElem? (i := 1706) (by decide +kernel)⟩
theorem mo_X11_sheet : MthV yX11_sheet cX11_sheet 9 (some .int) 4 := ⟨⟨List.mem_of_getElem? (i := 1713) (by decide +kernel), List.mem_of_getElem? (i := 106) (by decide +kernel), ⟨by decide +kernel, by decide +kernel, by decide +kernel⟩, by decide⟩, List.mem_of_getElem? (i := 1711) (by decide +kernel), List.mem_of_getElem? (i := 1712) (by decide +kernel)⟩
theorem mo_X11_takeNoon : MthV yX11_takeNoon cX11_takeNoon 2 none 0 := ⟨⟨List.mem_of_getElem? (i := 1723) (by decide +kernel), List.mem_of_getElem? (i := 106) (by decide +kernel), ⟨by decide +kernel, by decide +kernel, by decide +kernel⟩, by decide⟩, List.mem_of_getElem? (i := 1722) (by decide +kernel), List.mem_of_getElem? (i := 62) (by decide +kernel)⟩
theorem mo_X11_noon : MthV yX11_noon cX11_noon 3 (some .int) 0 := ⟨⟨List.mem_of_getElem? (i := 1719) (by decide +kernel), List.mem_of_getElem? (i := 106) (by decide +kernel), ⟨by decide +kernel, by decide +kernel, by decide +kernel⟩, by decide⟩, List.mem_of_getElem? (i := 1717) (by decide +kernel), List.mem_of_getElem? (i := 1718) (by decide +kernel)⟩
theorem mo_X11_hide : MthV yX11_hide cX11_hide 4 (some .int) 2 := ⟨⟨List.mem_of_getElem? (i := 1727) (by decide +kernel), List.mem_of_getElem? (i := 106) (by decide +kernel), ⟨by decide +kernel, by decide +kernel, by decide +kernel⟩, by decide⟩, List.mem_of_getElem? (i := 1725) (by decide +kernel), List.mem_of_getElem? (i := 1726) (by decide +kernel)⟩
theorem mo_X11_search : MthV yX11_search cX11_search 4 (some .int) 2 := ⟨⟨List.mem_of_getElem? (i := 1731) (by decide +kernel), List.mem_of_getElem? (i := 106) (by decide +kernel), ⟨by decide +kernel, by decide +kernel, by decide +kernel⟩, by decide⟩, List.mem_of_getElem? (i := 1729) (by decide +kernel), List.mem_of_getElem? (i := 1730) (by decide +kernel)⟩
theorem mo_X11_isBelow : MthV yX11_isBelow cX11_isBelow 6 (some .boolean) 2 := ⟨⟨List.mem_of_getElem? (i := 1741) (by decide +kernel), List.mem_of_getElem? (i := 106) (by decide +kernel), ⟨by decide +kernel, by decide +kernel, by decide +kernel⟩, by decide⟩, List.mem_of_getElem? (i := 1740) (by decide +kernel), List.mem_of_getElem? (i := 63) (by decide +kernel)⟩
theorem mo_X11_below : MthV yX11_below cX11_below 4 (some .int) 1 := ⟨⟨List.mem_of_getElem? (i := 1737) (by decide +kernel), List.mem_of_getElem? (i := 106) (by decide +kernel), ⟨by decide +kernel, by decide +kernel, by decide +kernel⟩, by decide⟩, List.mem_of_getElem? (i := 1735) (by decide +kernel), List.mem_of_getElem? (i := 1736) (by decide +kernel)⟩
theorem mo_X11_priceOf : MthV yX11_priceOf cX11_priceOf 3 (some .int) 2 := ⟨⟨List.mem_of_getElem? (i := 1661) (by decide +kernel), List.mem_of_getElem? (i := 106) (by decide +kernel), ⟨by decide +kernel, by decide +kernel, by decide +kernel⟩, by decide⟩, List.mem_of_getElem? (i := 1660) (by decide +kernel), List.mem_of_getElem? (i := 53) (by decide +kernel)⟩
theorem mo_X11_may : MthV yX11_may cX11_may 3 (some .boolean) 2 := ⟨⟨List.mem_of_getElem? (i := 1753) (by decide +kernel), List.mem_of_getElem? (i := 106) (by decide +kernel), ⟨by decide +kernel, by decide +kernel, by decide +kernel⟩, by decide⟩, List.mem_of_getElem? (i := 1752) (by decide +kernel), List.mem_of_getElem? (i := 65) (by decide +kernel)⟩
theorem mo_X11_mayPay : MthV yX11_mayPay cX11_mayPay 4 (some .int) 1 := ⟨⟨List.mem_of_getElem? (i := 1749) (by decide +kernel), List.mem_of_getElem? (i := 106) (by decide +kernel), ⟨by decide +kernel, by decide +kernel, by decide +kernel⟩, by decide⟩, List.mem_of_getElem? (i := 1748) (by decide +kernel), List.mem_of_getElem? (i := 64) (by decide +kernel)⟩
theorem mo_X11_may_ : MthV yX11_may_ cX11_may_ 5 (some .int) 1 := ⟨⟨List.mem_of_getElem? (i := 1745) (by decide +kernel), List.mem_of_getElem? (i := 106) (by decide +kernel), ⟨by decide +kernel, by decide +kernel, by decide +kernel⟩, by decide⟩, List.mem_of_getElem? (i := 1743) (by decide +kernel), List.mem_of_getElem? (i := 1744) (by decide +kernel)⟩
theorem mo_X11_willingTo : MthV yX11_willingTo cX11_willingTo 6 (some .int) 1 := ⟨⟨List.mem_of_getElem? (i := 1768) (by decide +kernel), List.mem_of_getElem? (i := 106) (by decide +kernel), ⟨by decide +kernel, by decide +kernel, by decide +kernel⟩, by decide⟩, List.mem_of_getElem? (i := 1767) (by decide +kernel), List.mem_of_getElem? (i := 67) (by decide +kernel)⟩
theorem mo_X11_willing : MthV yX11_willing cX11_willing 3 (some .int) 1 := ⟨⟨List.mem_of_getElem? (i := 1764) (by decide +kernel), List.mem_of_getElem? (i := 106) (by decide +kernel), ⟨by decide +kernel, by decide +kernel, by decide +kernel⟩, by decide⟩, List.mem_of_getElem? (i := 1762) (by decide +kernel), List.mem_of_getElem? (i := 1763) (by decide +kernel)⟩
theorem mo_X11_make : MthV yX11_make cX11_make 4 (some .int) 2 := ⟨⟨List.mem_of_getElem? (i := 1780) (by decide +kernel), List.mem_of_getElem? (i := 106) (by decide +kernel), ⟨by decide +kernel, by decide +kernel, by decide +kernel⟩, by decide⟩, List.mem_of_getElem? (i := 1779) (by decide +kernel), List.mem_of_getElem? (i := 69) (by decide +kernel)⟩
theorem mo_X11_pay : MthV yX11_pay cX11_pay 3 (some .int) 2 := ⟨⟨List.mem_of_getElem? (i := 1776) (by decide +kernel), List.mem_of_getElem? (i := 106) (by decide +kernel), ⟨by decide +kernel, by decide +kernel, by decide +kernel⟩, by decide⟩, List.mem_of_getElem? (i := 1774) (by decide +kernel), List.mem_of_getElem? (i := 1775) (by decide +kernel)⟩
theorem mo_X11_unmake : MthV yX11_unmake cX11_unmake 3 none 1 := ⟨⟨List.mem_of_getElem? (i := 1788) (by decide +kernel), List.mem_of_getElem? (i := 106) (by decide +kernel), ⟨by decide +kernel, by decide +kernel, by decide +kernel⟩, by decide⟩, List.mem_of_getElem? (i := 1787) (by decide +kernel), List.mem_of_getElem? (i := 70) (by decide +kernel)⟩
theorem mo_X11_undo : MthV yX11_undo cX11_undo 1 (some .int) 0 := ⟨⟨List.mem_of_getElem? (i := 1784) (by decide +kernel), List.mem_of_getElem? (i := 106) (by decide +kernel), ⟨by decide +kernel, by decide +kernel, by decide +kernel⟩, by decide⟩, List.mem_of_getElem? (i := 1782) (by decide +kernel), List.mem_of_getElem? (i := 1783) (by decide +kernel)⟩
theorem mo_X11_judge : MthV yX11_judge cX11_judge 11 (some .int) 2 := ⟨⟨List.mem_of_getElem? (i := 1792) (by decide +kernel), List.mem_of_getElem? (i := 106) (by decide +kernel), ⟨by decide +kernel, by decide +kernel, by decide +kernel⟩, by decide⟩, List.mem_of_getElem? (i := 1790) (by decide +kernel), List.mem_of_getElem? (i := 1791) (by decide +kernel)⟩
theorem mo_X11_favour : MthV yX11_favour cX11_favour 3 (some .int) 2 := ⟨⟨List.mem_of_getElem? (i := 1801) (by decide +kernel), List.mem_of_getElem? (i := 106) (by decide +kernel), ⟨by decide +kernel, by decide +kernel, by decide +kernel⟩, by decide⟩, List.mem_of_getElem? (i := 1799) (by decide +kernel), List.mem_of_getElem? (i := 1800) (by decide +kernel)⟩
theorem mo_X11_nets : MthV yX11_nets cX11_nets 5 (some .int) 0 := ⟨⟨List.mem_of_getElem? (i := 1805) (by decide +kernel), List.mem_of_getElem? (i := 106) (by decide +kernel), ⟨by decide +kernel, by decide +kernel, by decide +kernel⟩, by decide⟩, List.mem_of_getElem? (i := 1803) (by decide +kernel), List.mem_of_getElem? (i := 1804) (by decide +kernel)⟩
theorem mo_X11_canGive : MthV yX11_canGive cX11_canGive 4 (some .boolean) 3 := ⟨⟨List.mem_of_getElem? (i := 1813) (by decide +kernel), List.mem_of_getElem? (i := 106) (by decide +kernel), ⟨by decide +kernel, by decide +kernel, by decide +kernel⟩, by decide⟩, List.mem_of_getElem? (i := 1812) (by decide +kernel), List.mem_of_getElem? (i := 72) (by decide +kernel)⟩
theorem mo_X11_give : MthV yX11_give cX11_give 4 (some .boolean) 3 := ⟨⟨List.mem_of_getElem? (i := 1809) (by decide +kernel), List.mem_of_getElem? (i := 106) (by decide +kernel), ⟨by decide +kernel, by decide +kernel, by decide +kernel⟩, by decide⟩, List.mem_of_getElem? (i := 1807) (by decide +kernel), List.mem_of_getElem? (i := 1808) (by decide +kernel)⟩
theorem mo_X11_lend : MthV yX11_lend cX11_lend 4 (some .int) 3 := ⟨⟨List.mem_of_getElem? (i := 1817) (by decide +kernel), List.mem_of_getElem? (i := 106) (by decide +kernel), ⟨by decide +kernel, by decide +kernel, by decide +kernel⟩, by decide⟩, List.mem_of_getElem? (i := 1815) (by decide +kernel), List.mem_of_getElem? (i := 1816) (by decide +kernel)⟩
theorem mo_X11_back : MthV yX11_back cX11_back 2 (some .int) 0 := ⟨⟨List.mem_of_getElem? (i := 1821) (by decide +kernel), List.mem_of_getElem? (i := 106) (by decide +kernel), ⟨by decide +kernel, by decide +kernel, by decide +kernel⟩, by decide⟩, List.mem_of_getElem? (i := 1819) (by decide +kernel), List.mem_of_getElem? (i := 1820) (by decide +kernel)⟩
theorem mo_X11_gift : MthV yX11_gift cX11_gift 10 (some .int) 1 := ⟨⟨List.mem_of_getElem? (i := 1825) (by decide +kernel), List.mem_of_getElem? (i := 106) (by decide +kernel), ⟨by decide +kernel, by decide +kernel, by decide +kernel⟩, by decide⟩, List.mem_of_getElem? (i := 1823) (by decide +kernel), List.mem_of_getElem? (i := 1824) (by decide +kernel)⟩
theorem mo_X11_poorer : MthV yX11_poorer cX11_poorer 9 (some .int) 2 := ⟨⟨List.mem_of_getElem? (i := 1829) (by decide +kernel), List.mem_of_getElem? (i := 106) (by decide +kernel), ⟨by decide +kernel, by decide +kernel, by decide +kernel⟩, by decide⟩, List.mem_of_getElem? (i := 1827) (by decide +kernel), List.mem_of_getElem? (i := 1828) (by decide +kernel)⟩
theorem mo_X11_load : MthV yX11_load cX11_load 3 none 1 := ⟨⟨List.mem_of_getElem? (i := 1865) (by decide +kernel), List.mem_of_getElem? (i := 106) (by decide +kernel), ⟨by decide +kernel, by decide +kernel, by decide +kernel⟩, by decide⟩, List.mem_of_getElem? (i := 1864) (by decide +kernel), List.mem_of_getElem? (i := 79) (by decide +kernel)⟩
theorem mo_X11_isState : MthV yX11_isState cX11_isState 4 (some .boolean) 2 := ⟨⟨List.mem_of_getElem? (i := 1852) (by decide +kernel), List.mem_of_getElem? (i := 106) (by decide +kernel), ⟨by decide +kernel, by decide +kernel, by decide +kernel⟩, by decide⟩, List.mem_of_getElem? (i := 1851) (by decide +kernel), List.mem_of_getElem? (i := 76) (by decide +kernel)⟩
theorem mo_X11_stateOf : MthV yX11_stateOf cX11_stateOf 5 (some .int) 1 := ⟨⟨List.mem_of_getElem? (i := 1848) (by decide +kernel), List.mem_of_getElem? (i := 106) (by decide +kernel), ⟨by decide +kernel, by decide +kernel, by decide +kernel⟩, by decide⟩, List.mem_of_getElem? (i := 1847) (by decide +kernel), List.mem_of_getElem? (i := 75) (by decide +kernel)⟩
theorem mo_X11_isDay : MthS yX11_isDay cX11_isDay 1 (some .boolean) 1 := ⟨⟨List.mem_of_getElem? (i := 1836) (by decide +kernel), List.mem_of_getElem? (i := 106) (by decide +kernel), ⟨by decide +kernel, by decide +kernel, by decide +kernel⟩, by decide⟩, List.mem_of_getElem? (i := 1835) (by decide +kernel)⟩
theorem mo_X11_dueBy : MthV yX11_dueBy cX11_dueBy 4 (some .int) 1 := ⟨⟨List.mem_of_getElem? (i := 1844) (by decide +kernel), List.mem_of_getElem? (i := 106) (by decide +kernel), ⟨by decide +kernel, by decide +kernel, by decide +kernel⟩, by decide⟩, List.mem_of_getElem? (i := 1843) (by decide +kernel), List.mem_of_getElem? (i := 74) (by decide +kernel)⟩
theorem mo_X11_findStates : MthV yX11_findStates cX11_findStates 9 (some .boolean) 1 := ⟨⟨List.mem_of_getElem? (i := 1840) (by decide +kernel), List.mem_of_getElem? (i := 106) (by decide +kernel), ⟨by decide +kernel, by decide +kernel, by decide +kernel⟩, by decide⟩, List.mem_of_getElem? (i := 1839) (by decide +kernel), List.mem_of_getElem? (i := 73) (by decide +kernel)⟩
theorem mo_X11_lead : MthV yX11_lead cX11_lead 6 none 4 := ⟨⟨List.mem_of_getElem? (i := 1869) (by decide +kernel), List.mem_of_getElem? (i := 106) (by decide +kernel), ⟨by decide +kernel, by decide +kernel, by decide +kernel⟩, by decide⟩, List.mem_of_getElem? (i := 1868) (by decide +kernel), List.mem_of_getElem? (i := 80) (by decide +kernel)⟩
theorem mo_X11_isRowLess : MthV yX11_isRowLess cX11_isRowLess 3 (some .boolean) 2 := ⟨⟨List.mem_of_getElem? (i := 1861) (by decide +kernel), List.mem_of_getElem? (i := 106) (by decide +kernel), ⟨by decide +kernel, by decide +kernel, by decide +kernel⟩, by decide⟩, List.mem_of_getElem? (i := 1860) (by decide +kernel), List.mem_of_getElem? (i := 78) (by decide +kernel)⟩
theorem mo_X11_orderLayer : MthV yX11_orderLayer cX11_orderLayer 5 none 1 := ⟨⟨List.mem_of_getElem? (i := 1857) (by decide +kernel), List.mem_of_getElem? (i := 106) (by decide +kernel), ⟨by decide +kernel, by decide +kernel, by decide +kernel⟩, by decide⟩, List.mem_of_getElem? (i := 1856) (by decide +kernel), List.mem_of_getElem? (i := 77) (by decide +kernel)⟩
theorem mo_X11_sumOf : MthV yX11_sumOf cX11_sumOf 4 (some .int) 1 := ⟨⟨List.mem_of_getElem? (i := 1873) (by decide +kernel), List.mem_of_getElem? (i := 106) (by decide +kernel), ⟨by decide +kernel, by decide +kernel, by decide +kernel⟩, by decide⟩, List.mem_of_getElem? (i := 1872) (by decide +kernel), List.mem_of_getElem? (i := 81) (by decide +kernel)⟩
theorem mo_X11_mostPaid : MthV yX11_mostPaid cX11_mostPaid 3 (some .int) 0 := ⟨⟨List.mem_of_getElem? (i := 1877) (by decide +kernel), List.mem_of_getElem? (i := 106) (by decide +kernel), ⟨by decide +kernel, by decide +kernel, by decide +kernel⟩, by decide⟩, List.mem_of_getElem? (i := 1876) (by decide +kernel), List.mem_of_getElem? (i := 82) (by decide +kernel)⟩
theorem mo_X11_most : MthV yX11_most cX11_most 4 (some .int) 1 := ⟨⟨List.mem_of_getElem? (i := 1833) (by decide +kernel), List.mem_of_getElem? (i := 106) (by decide +kernel), ⟨by decide +kernel, by decide +kernel, by decide +kernel⟩, by decide⟩, List.mem_of_getElem? (i := 1831) (by decide +kernel), List.mem_of_getElem? (i := 1832) (by decide +kernel)⟩
theorem mo_X11_all : MthV yX11_all cX11_all 6 (some .int) 1 := ⟨⟨List.mem_of_getElem? (i := 1881) (by decide +kernel), List.mem_of_getElem? (i := 106) (by decide +kernel), ⟨by decide +kernel, by decide +kernel, by decide +kernel⟩, by decide⟩, List.mem_of_getElem? (i := 1879) (by decide +kernel), List.mem_of_getElem? (i := 1880) (by decide +kernel)⟩
theorem mo_X11_never : MthV yX11_never cX11_never 4 (some .int) 1 := ⟨⟨List.mem_of_getElem? (i := 1885) (by decide +kernel), List.mem_of_getElem? (i := 106) (by decide +kernel), ⟨by decide +kernel, by decide +kernel, by decide +kernel⟩, by decide⟩, List.mem_of_getElem? (i := 1883) (by decide +kernel), List.mem_of_getElem? (i := 1884) (by decide +kernel)⟩
theorem mo_X11_ways : MthV yX11_ways cX11_ways 9 (some .long) 1 := ⟨⟨List.mem_of_getElem? (i := 1889) (by decide +kernel), List.mem_of_getElem? (i := 106) (by decide +kernel), ⟨by decide +kernel, by decide +kernel, by decide +kernel⟩, by decide⟩, List.mem_of_getElem? (i := 1887) (by decide +kernel), List.mem_of_getElem? (i := 1888) (by decide +kernel)⟩
theorem mo_X11_ahead : MthV yX11_ahead cX11_ahead 7 (some .int) 2 := ⟨⟨List.mem_of_getElem? (i := 1895) (by decide +kernel), List.mem_of_getElem? (i := 106) (by decide +kernel), ⟨by decide +kernel, by decide +kernel, by decide +kernel⟩, by decide⟩, List.mem_of_getElem? (i := 1893) (by decide +kernel), List.mem_of_getElem? (i := 1894) (by decide +kernel)⟩
theorem mo_X11_canAll : MthV yX11_canAll cX11_canAll 5 (some .boolean) 1 := ⟨⟨List.mem_of_getElem? (i := 1903) (by decide +kernel), List.mem_of_getElem? (i := 106) (by decide +kernel), ⟨by decide +kernel, by decide +kernel, by decide +kernel⟩, by decide⟩, List.mem_of_getElem? (i := 1902) (by decide +kernel), List.mem_of_getElem? (i := 83) (by decide +kernel)⟩
theorem mo_X11_fewest : MthV yX11_fewest cX11_fewest 4 (some .int) 1 := ⟨⟨List.mem_of_getElem? (i := 1899) (by decide +kernel), List.mem_of_getElem? (i := 106) (by decide +kernel), ⟨by decide +kernel, by decide +kernel, by decide +kernel⟩, by decide⟩, List.mem_of_getElem? (i := 1897) (by decide +kernel), List.mem_of_getElem? (i := 1898) (by decide +kernel)⟩
theorem mo_X11_sorts : MthV yX11_sorts cX11_sorts 9 (some .int) 1 := ⟨⟨List.mem_of_getElem? (i := 1907) (by decide +kernel), List.mem_of_getElem? (i := 106) (by decide +kernel), ⟨by decide +kernel, by decide +kernel, by decide +kernel⟩, by decide⟩, List.mem_of_getElem? (i := 1905) (by decide +kernel), List.mem_of_getElem? (i := 1906) (by decide +kernel)⟩
theorem mo_X11_partsBy : MthV yX11_partsBy cX11_partsBy 4 (some .int) 1 := ⟨⟨List.mem_of_getElem? (i := 1915) (by decide +kernel), List.mem_of_getElem? (i := 106) (by decide +kernel), ⟨by decide +kernel, by decide +kernel, by decide +kernel⟩, by decide⟩, List.mem_of_getElem? (i := 1914) (by decide +kernel), List.mem_of_getElem? (i := 84) (by decide +kernel)⟩
theorem mo_X11_countedOf : MthV yX11_countedOf cX11_countedOf 4 (some .int) 1 := ⟨⟨List.mem_of_getElem? (i := 1919) (by decide +kernel), List.mem_of_getElem? (i := 106) (by decide +kernel), ⟨by decide +kernel, by decide +kernel, by decide +kernel⟩, by decide⟩, List.mem_of_getElem? (i := 1918) (by decide +kernel), List.mem_of_getElem? (i := 85) (by decide +kernel)⟩
theorem mo_X11_leftTo : MthV yX11_leftTo cX11_leftTo 5 (some .int) 2 := ⟨⟨List.mem_of_getElem? (i := 1932) (by decide +kernel), List.mem_of_getElem? (i := 106) (by decide +kernel), ⟨by decide +kernel, by decide +kernel, by decide +kernel⟩, by decide⟩, List.mem_of_getElem? (i := 1931) (by decide +kernel), List.mem_of_getElem? (i := 88) (by decide +kernel)⟩
theorem mo_X11_boundOf : MthV yX11_boundOf cX11_boundOf 3 (some .int) 2 := ⟨⟨List.mem_of_getElem? (i := 1928) (by decide +kernel), List.mem_of_getElem? (i := 106) (by decide +kernel), ⟨by decide +kernel, by decide +kernel, by decide +kernel⟩, by decide⟩, List.mem_of_getElem? (i := 1927) (by decide +kernel), List.mem_of_getElem? (i := 87) (by decide +kernel)⟩
theorem mo_X11_flowOf : MthV yX11_flowOf cX11_flowOf 4 (some .int) 1 := ⟨⟨List.mem_of_getElem? (i := 1923) (by decide +kernel), List.mem_of_getElem? (i := 106) (by decide +kernel), ⟨by decide +kernel, by decide +kernel, by decide +kernel⟩, by decide⟩, List.mem_of_getElem? (i := 1922) (by decide +kernel), List.mem_of_getElem? (i := 86) (by decide +kernel)⟩
theorem mo_X11_flow : MthV yX11_flow cX11_flow 5 (some .int) 1 := ⟨⟨List.mem_of_getElem? (i := 1911) (by decide +kernel), List.mem_of_getElem? (i := 106) (by decide +kernel), ⟨by decide +kernel, by decide +kernel, by decide +kernel⟩, by decide⟩, List.mem_of_getElem? (i := 1909) (by decide +kernel), List.mem_of_getElem? (i := 1910) (by decide +kernel)⟩
theorem mo_X11_proof : MthV yX11_proof cX11_proof 5 (some .int) 1 := ⟨⟨List.mem_of_getElem? (i := 1936) (by decide +kernel), List.mem_of_getElem? (i := 106) (by decide +kernel), ⟨by decide +kernel, by decide +kernel, by decide +kernel⟩, by decide⟩, List.mem_of_getElem? (i := 1934) (by decide +kernel), List.mem_of_getElem? (i := 1935) (by decide +kernel)⟩
theorem mo_X11_gap : MthV yX11_gap cX11_gap 7 (some .int) 2 := ⟨⟨List.mem_of_getElem? (i := 1940) (by decide +kernel), List.mem_of_getElem? (i := 106) (by decide +kernel), ⟨by decide +kernel, by decide +kernel, by decide +kernel⟩, by decide⟩, List.mem_of_getElem? (i := 1938) (by decide +kernel), List.mem_of_getElem? (i := 1939) (by decide +kernel)⟩
theorem mo_X11_goDays : MthV yX11_goDays cX11_goDays 5 none 1 := ⟨⟨List.mem_of_getElem? (i := 1949) (by decide +kernel), List.mem_of_getElem? (i := 106) (by decide +kernel), ⟨by decide +kernel, by decide +kernel, by decide +kernel⟩, by decide⟩, List.mem_of_getElem? (i := 1948) (by decide +kernel), List.mem_of_getElem? (i := 89) (by decide +kernel)⟩
theorem mo_X11_goDebt : MthV yX11_goDebt cX11_goDebt 3 none 1 := ⟨⟨List.mem_of_getElem? (i := 1953) (by decide +kernel), List.mem_of_getElem? (i := 106) (by decide +kernel), ⟨by decide +kernel, by decide +kernel, by decide +kernel⟩, by decide⟩, List.mem_of_getElem? (i := 1952) (by decide +kernel), List.mem_of_getElem? (i := 90) (by decide +kernel)⟩
theorem mo_X11_days : MthV yX11_days cX11_days 2 (some .int) 1 := ⟨⟨List.mem_of_getElem? (i := 1944) (by decide +kernel), List.mem_of_getElem? (i := 106) (by decide +kernel), ⟨by decide +kernel, by decide +kernel, by decide +kernel⟩, by decide⟩, List.mem_of_getElem? (i := 1942) (by decide +kernel), List.mem_of_getElem? (i := 1943) (by decide +kernel)⟩
theorem mo_X11_lay : MthV yX11_lay cX11_lay 8 none 2 := ⟨⟨List.mem_of_getElem? (i := 1961) (by decide +kernel), List.mem_of_getElem? (i := 106) (by decide +kernel), ⟨by decide +kernel, by decide +kernel, by decide +kernel⟩, by decide⟩, List.mem_of_getElem? (i := 1960) (by decide +kernel), List.mem_of_getElem? (i := 91) (by decide +kernel)⟩
theorem mo_X11_bring : MthV yX11_bring cX11_bring 5 none 2 := ⟨⟨List.mem_of_getElem? (i := 1965) (by decide +kernel), List.mem_of_getElem? (i := 106) (by decide +kernel), ⟨by decide +kernel, by decide +kernel, by decide +kernel⟩, by decide⟩, List.mem_of_getElem? (i := 1964) (by decide +kernel), List.mem_of_getElem? (i := 92) (by decide +kernel)⟩
theorem mo_X11_best : MthV yX11_best cX11_best 8 (some .int) 1 := ⟨⟨List.mem_of_getElem? (i := 1957) (by decide +kernel), List.mem_of_getElem? (i := 106) (by decide +kernel), ⟨by decide +kernel, by decide +kernel, by decide +kernel⟩, by decide⟩, List.mem_of_getElem? (i := 1955) (by decide +kernel), List.mem_of_getElem? (i := 1956) (by decide +kernel)⟩
theorem mo_X11_hasBehind : MthV yX11_hasBehind cX11_hasBehind 4 (some .int) 2 := ⟨⟨List.mem_of_getElem? (i := 1973) (by decide +kernel), List.mem_of_getElem? (i := 106) (by decide +kernel), ⟨by decide +kernel, by decide +kernel, by decide +kernel⟩, by decide⟩, List.mem_of_getElem? (i := 1972) (by decide +kernel), List.mem_of_getElem? (i := 93) (by decide +kernel)⟩
theorem mo_X11_pays : MthV yX11_pays cX11_pays 7 (some .int) 3 := ⟨⟨List.mem_of_getElem? (i := 1969) (by decide +kernel), List.mem_of_getElem? (i := 106) (by decide +kernel), ⟨by decide +kernel, by decide +kernel, by decide +kernel⟩, by decide⟩, List.mem_of_getElem? (i := 1967) (by decide +kernel), List.mem_of_getElem? (i := 1968) (by decide +kernel)⟩
theorem mo_X11_lapse : MthV yX11_lapse cX11_lapse 3 (some .int) 1 := ⟨⟨List.mem_of_getElem? (i := 1977) (by decide +kernel), List.mem_of_getElem? (i := 106) (by decide +kernel), ⟨by decide +kernel, by decide +kernel, by decide +kernel⟩, by decide⟩, List.mem_of_getElem? (i := 1975) (by decide +kernel), List.mem_of_getElem? (i := 1976) (by decide +kernel)⟩
theorem mo_X11_lowest : MthV yX11_lowest cX11_lowest 5 (some .int) 0 := ⟨⟨List.mem_of_getElem? (i := 1981) (by decide +kernel), List.mem_of_getElem? (i := 106) (by decide +kernel), ⟨by decide +kernel, by decide +kernel, by decide +kernel⟩, by decide⟩, List.mem_of_getElem? (i := 1979) (by decide +kernel), List.mem_of_getElem? (i := 1980) (by decide +kernel)⟩
theorem mo_X11_common : MthS yX11_common cX11_common 4 (some .long) 2 := ⟨⟨List.mem_of_getElem? (i := 1989) (by decide +kernel), List.mem_of_getElem? (i := 106) (by decide +kernel), ⟨by decide +kernel, by decide +kernel, by decide +kernel⟩, by decide⟩, List.mem_of_getElem? (i := 1988) (by decide +kernel)⟩
theorem mo_X11_spread : MthV yX11_spread cX11_spread 9 (some .int) 0 := ⟨⟨List.mem_of_getElem? (i := 1985) (by decide +kernel), List.mem_of_getElem? (i := 106) (by decide +kernel), ⟨by decide +kernel, by decide +kernel, by decide +kernel⟩, by decide⟩, List.mem_of_getElem? (i := 1983) (by decide +kernel), List.mem_of_getElem? (i := 1984) (by decide +kernel)⟩
theorem mo_X11_today : MthV yX11_today cX11_today 1 (some .int) 0 := ⟨⟨List.mem_of_getElem? (i := 1993) (by decide +kernel), List.mem_of_getElem? (i := 106) (by decide +kernel), ⟨by decide +kernel, by decide +kernel, by decide +kernel⟩, by decide⟩, List.mem_of_getElem? (i := 1991) (by decide +kernel), List.mem_of_getElem? (i := 1992) (by decide +kernel)⟩
theorem mo_X11_seed : MthV yX11_seed cX11_seed 3 (some .int) 1 := ⟨⟨List.mem_of_getElem? (i := 1997) (by decide +kernel), List.mem_of_getElem? (i := 106) (by decide +kernel), ⟨by decide +kernel, by decide +kernel, by decide +kernel⟩, by decide⟩, List.mem_of_getElem? (i := 1995) (by decide +kernel), List.mem_of_getElem? (i := 1996) (by decide +kernel)⟩
theorem mo_X11_keep : MthV yX11_keep cX11_keep 4 (some .boolean) 1 := ⟨⟨List.mem_of_getElem? (i := 2001) (by decide +kernel), List.mem_of_getElem? (i := 106) (by decide +kernel), ⟨by decide +kernel, by decide +kernel, by decide +kernel⟩, by decide⟩, List.mem_of_getElem? (i := 1999) (by decide +kernel), List.mem_of_getElem? (i := 2000) (by decide +kernel)⟩
theorem mo_X11_again : MthV yX11_again cX11_again 4 (some .boolean) 1 := ⟨⟨List.mem_of_getElem? (i := 2005) (by decide +kernel), List.mem_of_getElem? (i := 106) (by decide +kernel), ⟨by decide +kernel, by decide +kernel, by decide +kernel⟩, by decide⟩, List.mem_of_getElem? (i := 2003) (by decide +kernel), List.mem_of_getElem? (i := 2004) (by decide +kernel)⟩
theorem mo_X11_count : MthV yX11_count cX11_count 4 (some .int) 1 := ⟨⟨List.mem_of_getElem? (i := 2009) (by decide +kernel), List.mem_of_getElem? (i := 106) (by decide +kernel), ⟨by decide +kernel, by decide +kernel, by decide +kernel⟩, by decide⟩, List.mem_of_getElem? (i := 2007) (by decide +kernel), List.mem_of_getElem? (i := 2008) (by decide +kernel)⟩
theorem mo_X11_row : MthV yX11_row cX11_row 2 (some .long) 1 := ⟨⟨List.mem_of_getElem? (i := 2013) (by decide +kernel), List.mem_of_getElem? (i := 106) (by decide +kernel), ⟨by decide +kernel, by decide +kernel, by decide +kernel⟩, by decide⟩, List.mem_of_getElem? (i := 2011) (by decide +kernel), List.mem_of_getElem? (i := 2012) (by decide +kernel)⟩
theorem mo_J11_isValidCodePoint_9a6ad : MthS yJ11_isValidCodePoint_9a6ad cJ11_isValidCodePoint_9a6ad 2 (some .boolean) 1 := ⟨⟨List.mem_of_getElem? (i := 699) (by decide +kernel), List.mem_of_getElem? (i := 112) (by decide +kernel), ⟨by decide +kernel, by decide +kernel, by decide +kernel⟩, by decide⟩, List.mem_of_getElem? (i := 698) (by decide +kernel)⟩
theorem mo_J11_highSurrogate_5068e : MthS yJ11_highSurrogate_5068e cJ11_highSurrogate_5068e 1 (some .char) 1 := ⟨⟨List.mem_of_getElem? (i := 702) (by decide +kernel), List.mem_of_getElem? (i := 112) (by decide +kernel), ⟨by decide +kernel, by decide +kernel, by decide +kernel⟩, by decide⟩, List.mem_of_getElem? (i := 701) (by decide +kernel)⟩
theorem mo_J11_lowSurrogate_5068e : MthS yJ11_lowSurrogate_5068e cJ11_lowSurrogate_5068e 1 (some .char) 1 := ⟨⟨List.mem_of_getElem? (i := 706) (by decide +kernel), List.mem_of_getElem? (i := 112) (by decide +kernel), ⟨by decide +kernel, by decide +kernel, by decide +kernel⟩, by decide⟩, List.mem_of_getElem? (i := 705) (by decide +kernel)⟩
theorem mo_J6_bitCount_0f7a4 : MthS yJ6_bitCount_0f7a4 cJ6_bitCount_0f7a4 1 (some .int) 1 := ⟨⟨List.mem_of_getElem? (i := 1089) (by decide +kernel), List.mem_of_getElem? (i := 119) (by decide +kernel), ⟨by decide +kernel, by decide +kernel, by decide +kernel⟩, by decide⟩, List.mem_of_getElem? (i := 1088) (by decide +kernel)⟩
theorem mo_J9_abs_0f7a4 : MthS yJ9_abs_0f7a4 cJ9_abs_0f7a4 1 (some .int) 1 := ⟨⟨List.mem_of_getElem? (i := 1251) (by decide +kernel), List.mem_of_getElem? (i := 107) (by decide +kernel), ⟨by decide +kernel, by decide +kernel, by decide +kernel⟩, by decide⟩, List.mem_of_getElem? (i := 1250) (by decide +kernel)⟩
theorem mo_J9_max_7cf53 : MthS yJ9_max_7cf53 cJ9_max_7cf53 2 (some .int) 2 := ⟨⟨List.mem_of_getElem? (i := 565) (by decide +kernel), List.mem_of_getElem? (i := 107) (by decide +kernel), ⟨by decide +kernel, by decide +kernel, by decide +kernel⟩, by decide⟩, List.mem_of_getElem? (i := 564) (by decide +kernel)⟩
theorem mo_J9_min_7cf53 : MthS yJ9_min_7cf53 cJ9_min_7cf53 2 (some .int) 2 := ⟨⟨List.mem_of_getElem? (i := 539) (by decide +kernel), List.mem_of_getElem? (i := 107) (by decide +kernel), ⟨by decide +kernel, by decide +kernel, by decide +kernel⟩, by decide⟩, List.mem_of_getElem? (i := 538) (by decide +kernel)⟩
theorem mo_J0_length_8abf5 : MthV yJ0_length_8abf5 cJ0_length_8abf5 1 (some .int) 0 := ⟨⟨List.mem_of_getElem? (i := 643) (by decide +kernel), List.mem_of_getElem? (i := 108) (by decide +kernel), ⟨by decide +kernel, by decide +kernel, by decide +kernel⟩, by decide⟩, List.mem_of_getElem? (i := 641) (by decide +kernel), List.mem_of_getElem? (i := 642) (by decide +kernel)⟩
theorem mo_J0_indexOf_0f7a4 : MthV yJ0_indexOf_0f7a4 cJ0_indexOf_0f7a4 2 (some .int) 1 := ⟨⟨List.mem_of_getElem? (i := 629) (by decide +kernel), List.mem_of_getElem? (i := 108) (by decide +kernel), ⟨by decide +kernel, by decide +kernel, by decide +kernel⟩, by decide⟩, List.mem_of_getElem? (i := 627) (by decide +kernel), List.mem_of_getElem? (i := 628) (by decide +kernel)⟩
theorem mo_J0_indexOf_7cf53 : MthV yJ0_indexOf_7cf53 cJ0_indexOf_7cf53 3 (some .int) 2 := ⟨⟨List.mem_of_getElem? (i := 633) (by decide +kernel), List.mem_of_getElem? (i := 108) (by decide +kernel), ⟨by decide +kernel, by decide +kernel, by decide +kernel⟩, by decide⟩, List.mem_of_getElem? (i := 631) (by decide +kernel), List.mem_of_getElem? (i := 632) (by decide +kernel)⟩
theorem mo_J0_coder_7d493 : MthV yJ0_coder_7d493 cJ0_coder_7d493 1 (some .byte) 0 := ⟨⟨List.mem_of_getElem? (i := 647) (by decide +kernel), List.mem_of_getElem? (i := 108) (by decide +kernel), ⟨by decide +kernel, by decide +kernel, by decide +kernel⟩, by decide⟩, List.mem_of_getElem? (i := 645) (by decide +kernel), List.mem_of_getElem? (i := 646) (by decide +kernel)⟩
theorem mo_J0_isLatin1_aae02 : MthV yJ0_isLatin1_aae02 cJ0_isLatin1_aae02 1 (some .boolean) 0 := ⟨⟨List.mem_of_getElem? (i := 637) (by decide +kernel), List.mem_of_getElem? (i := 108) (by decide +kernel), ⟨by decide +kernel, by decide +kernel, by decide +kernel⟩, by decide⟩, List.mem_of_getElem? (i := 635) (by decide +kernel), List.mem_of_getElem? (i := 636) (by decide +kernel)⟩
theorem mo_J0_checkBoundsBeginEnd_23922 : MthS yJ0_checkBoundsBeginEnd_23922 cJ0_checkBoundsBeginEnd_23922 3 none 3 := ⟨⟨List.mem_of_getElem? (i := 676) (by decide +kernel), List.mem_of_getElem? (i := 108) (by decide +kernel), ⟨by decide +kernel, by decide +kernel, by decide +kernel⟩, by decide⟩, List.mem_of_getElem? (i := 675) (by decide +kernel)⟩
theorem mo_J1_canEncode_9a6ad : MthS yJ1_canEncode_9a6ad cJ1_canEncode_9a6ad 1 (some .boolean) 1 := ⟨⟨List.mem_of_getElem? (i := 653) (by decide +kernel), List.mem_of_getElem? (i := 109) (by decide +kernel), ⟨by decide +kernel, by decide +kernel, by decide +kernel⟩, by decide⟩, List.mem_of_getElem? (i := 652) (by decide +kernel)⟩
theorem mo_J1_indexOf_4cfef : MthS yJ1_indexOf_4cfef cJ1_indexOf_4cfef 4 (some .int) 4 := ⟨⟨List.mem_of_getElem? (i := 650) (by decide +kernel), List.mem_of_getElem? (i := 109) (by decide +kernel), ⟨by decide +kernel, by decide +kernel, by decide +kernel⟩, by decide⟩, List.mem_of_getElem? (i := 649) (by decide +kernel)⟩
theorem mo_J1_indexOfChar_4cfef : MthS yJ1_indexOfChar_4cfef cJ1_indexOfChar_4cfef 6 (some .int) 4 := ⟨⟨List.mem_of_getElem? (i := 658) (by decide +kernel), List.mem_of_getElem? (i := 109) (by decide +kernel), ⟨by decide +kernel, by decide +kernel, by decide +kernel⟩, by decide⟩, List.mem_of_getElem? (i := 657) (by decide +kernel)⟩
theorem mo_J2_getChar_3b067 : MthS yJ2_getChar_3b067 cJ2_getChar_3b067 2 (some .char) 2 := ⟨⟨List.mem_of_getElem? (i := 687) (by decide +kernel), List.mem_of_getElem? (i := 110) (by decide +kernel), ⟨by decide +kernel, by decide +kernel, by decide +kernel⟩, by decide⟩, List.mem_of_getElem? (i := 686) (by decide +kernel)⟩
theorem mo_J2_length_9d52b : MthS yJ2_length_9d52b cJ2_length_9d52b 1 (some .int) 1 := ⟨⟨List.mem_of_getElem? (i := 673) (by decide +kernel), List.mem_of_getElem? (i := 110) (by decide +kernel), ⟨by decide +kernel, by decide +kernel, by decide +kernel⟩, by decide⟩, List.mem_of_getElem? (i := 672) (by decide +kernel)⟩
theorem mo_J2_indexOf_4cfef : MthS yJ2_indexOf_4cfef cJ2_indexOf_4cfef 4 (some .int) 4 := ⟨⟨List.mem_of_getElem? (i := 661) (by decide +kernel), List.mem_of_getElem? (i := 110) (by decide +kernel), ⟨by decide +kernel, by decide +kernel, by decide +kernel⟩, by decide⟩, List.mem_of_getElem? (i := 660) (by decide +kernel)⟩
theorem mo_J2_indexOfChar_4cfef : MthS yJ2_indexOfChar_4cfef cJ2_indexOfChar_4cfef 4 (some .int) 4 := ⟨⟨List.mem_of_getElem? (i := 667) (by decide +kernel), List.mem_of_getElem? (i := 110) (by decide +kernel), ⟨by decide +kernel, by decide +kernel, by decide +kernel⟩, by decide⟩, List.mem_of_getElem? (i := 666) (by decide +kernel)⟩
theorem mo_J2_indexOfCharUnsafe_4cfef : MthS yJ2_indexOfCharUnsafe_4cfef cJ2_indexOfCharUnsafe_4cfef 5 (some .int) 4 := ⟨⟨List.mem_of_getElem? (i := 684) (by decide +kernel), List.mem_of_getElem? (i := 110) (by decide +kernel), ⟨by decide +kernel, by decide +kernel, by decide +kernel⟩, by decide⟩, List.mem_of_getElem? (i := 683) (by decide +kernel)⟩
theorem mo_J2_indexOfSupplementary_4cfef : MthS yJ2_indexOfSupplementary_4cfef cJ2_indexOfSupplementary_4cfef 7 (some .int) 4 := ⟨⟨List.mem_of_getElem? (i := 696) (by decide +kernel), List.mem_of_getElem? (i := 110) (by decide +kernel), ⟨by decide +kernel, by decide +kernel, by decide +kernel⟩, by decide⟩, List.mem_of_getElem? (i := 695) (by decide +kernel)⟩
theorem mo_J2_checkBoundsBeginEnd_d044e : MthS yJ2_checkBoundsBeginEnd_d044e cJ2_checkBoundsBeginEnd_d044e 3 none 3 := ⟨⟨List.mem_of_getElem? (i := 670) (by decide +kernel), List.mem_of_getElem? (i := 110) (by decide +kernel), ⟨by decide +kernel, by decide +kernel, by decide +kernel⟩, by decide⟩, List.mem_of_getElem? (i := 669) (by decide +kernel)⟩
theorem mo_J7_fill_53178 : MthS yJ7_fill_53178 cJ7_fill_53178 4 none 2 := ⟨⟨List.mem_of_getElem? (i := 1037) (by decide +kernel), List.mem_of_getElem? (i := 118) (by decide +kernel), ⟨by decide +kernel, by decide +kernel, by decide +kernel⟩, by decide⟩, List.mem_of_getElem? (i := 1036) (by decide +kernel)⟩
theorem mo_J3_checkFromToIndex_8c36e : MthS yJ3_checkFromToIndex_8c36e cJ3_checkFromToIndex_8c36e 4 (some .int) 4 := ⟨⟨List.mem_of_getElem? (i := 681) (by decide +kernel), List.mem_of_getElem? (i := 111) (by decide +kernel), ⟨by decide +kernel, by decide +kernel, by decide +kernel⟩, by decide⟩, List.mem_of_getElem? (i := 680) (by decide +kernel)⟩

/-! a contract that says just what comes out -/
def Fun (y : MethodName) (b : ByteArray) (nL : Nat) (ret : Option FieldType) (d : Nat) (As : List Value) (M : Mem) (v : Option Value) (M' : Mem) : Prop := Con y b nL ret d As M (fun w N => w = v ∧ N = M')
def FQ (b : ByteArray) (ret : Option FieldType) (v : Option Value) (M' : Mem) : Nat → List (Option Value) → List Value → Mem → Prop := RetQ b ret (fun w N => w = v ∧ N = M')
theorem Fun.of {y : MethodName} {b : ByteArray} {nL : Nat} {ret : Option FieldType} {d : Nat} {As : List Value} {M M' : Mem} {v : Option Value} {own : String} (ls : List (Option Value)) (ho : y.cls = own) (hy : plainName y.cls = true) (hs : (entL As).length ≤ nL) (hls : entL As ++ List.replicate (nL - (entL As).length) none = ls)
    (h : Reach b own nL d (FQ b ret v M') 0 ls [] M) : Fun y b nL ret d As M v M' := Con.of ho hy hs hls h
theorem Fun.conv {y : MethodName} {b : ByteArray} {nL : Nat} {ret : Option FieldType} {d : Nat} {As : List Value} {M M' M'' : Mem} {v v' : Option Value} (h : Fun y b nL ret d As M v M') (hv : v = v') (hM : M' = M'') : Fun y b nL ret d As M v' M'' := by subst hv; subst hM; exact h
section RF
variable {cc : ByteArray} {own : String} {nL d : Nat} {Q : Nat → List (Option Value) → List Value → Mem → Prop} {pc : Nat} {ls : List (Option Value)} {st : List Value} {M M' : Mem}
variable {y : MethodName} {b' : ByteArray} {nL' n d' r idx ci N : Nat} {ret : Option FieldType} {As rest st0 : List Value}

theorem rx_cvI {x : Int32} (hm : MthV y b' nL' ret n) (hl : LnkOK own idx y) (h : Fun y b' nL' ret d' (.ref r :: As) M (some (.int x)) M') (hd : d' + 1 ≤ d) (hst : As.reverse ++ .ref r :: rest = st0) (hn : As.length = n) (hW : (rest.map Value.category).sum ≤ 8) (hk : kd r = (10 + ci, N)) (hC : (vwCl[ci]?).map (·.1) = some y.cls) (hdg : decode cc pc = .ok (.invokevirtual idx, 3)) (k0 : Reach cc own nL d Q (pc + 3) ls (.int x :: rest) M') : Reach cc own nL d Q pc ls st0 M :=
  rx_callV hm hl h hd hst hn hW hk hC hdg (fun w N e => by obtain ⟨rfl, rfl⟩ := e; exact k0)
theorem rx_csI {x : Int32} (hm : MthS y b' nL' ret n) (hl : LnkOK own idx y) (h : Fun y b' nL' ret d' As M (some (.int x)) M') (hd : d' + 1 ≤ d) (hst : As.reverse ++ rest = st0) (hn : As.length = n) (hW : (rest.map Value.category).sum ≤ 8) (hdg : decode cc pc = .ok (.invokestatic idx, 3)) (k0 : Reach cc own nL d Q (pc + 3) ls (.int x :: rest) M') : Reach cc own nL d Q pc ls st0 M :=
  rx_callS hm hl h hd hst hn hW hdg (fun w N e => by obtain ⟨rfl, rfl⟩ := e; exact k0)
theorem rx_cvL {x : Int64} (hm : MthV y b' nL' ret n) (hl : LnkOK own idx y) (h : Fun y b' nL' ret d' (.ref r :: As) M (some (.long x)) M') (hd : d' + 1 ≤ d) (hst : As.reverse ++ .ref r :: rest = st0) (hn : As.length = n) (hW : (rest.map Value.category).sum ≤ 8) (hk : kd r = (10 + ci, N)) (hC : (vwCl[ci]?).map (·.1) = some y.cls) (hdg : decode cc pc = .ok (.invokevirtual idx, 3)) (k0 : Reach cc own nL d Q (pc + 3) ls (.long x :: rest) M') : Reach cc own nL d Q pc ls st0 M :=
  rx_callV hm hl h hd hst hn hW hk hC hdg (fun w N e => by obtain ⟨rfl, rfl⟩ := e; exact k0)
theorem rx_csL {x : Int64} (hm : MthS y b' nL' ret n) (hl : LnkOK own idx y) (h : Fun y b' nL' ret d' As M (some (.long x)) M') (hd : d' + 1 ≤ d) (hst : As.reverse ++ rest = st0) (hn : As.length = n) (hW : (rest.map Value.category).sum ≤ 8) (hdg : decode cc pc = .ok (.invokestatic idx, 3)) (k0 : Reach cc own nL d Q (pc + 3) ls (.long x :: rest) M') : Reach cc own nL d Q pc ls st0 M :=
  rx_callS hm hl h hd hst hn hW hdg (fun w N e => by obtain ⟨rfl, rfl⟩ := e; exact k0)
theorem rx_cvN (hm : MthV y b' nL' ret n) (hl : LnkOK own idx y) (h : Fun y b' nL' ret d' (.ref r :: As) M (none) M') (hd : d' + 1 ≤ d) (hst : As.reverse ++ .ref r :: rest = st0) (hn : As.length = n) (hW : (rest.map Value.category).sum ≤ 8) (hk : kd r = (10 + ci, N)) (hC : (vwCl[ci]?).map (·.1) = some y.cls) (hdg : decode cc pc = .ok (.invokevirtual idx, 3)) (k0 : Reach cc own nL d Q (pc + 3) ls (rest) M') : Reach cc own nL d Q pc ls st0 M :=
  rx_callV hm hl h hd hst hn hW hk hC hdg (fun w N e => by obtain ⟨rfl, rfl⟩ := e; exact k0)
theorem rx_csN (hm : MthS y b' nL' ret n) (hl : LnkOK own idx y) (h : Fun y b' nL' ret d' As M (none) M') (hd : d' + 1 ≤ d) (hst : As.reverse ++ rest = st0) (hn : As.length = n) (hW : (rest.map Value.category).sum ≤ 8) (hdg : decode cc pc = .ok (.invokestatic idx, 3)) (k0 : Reach cc own nL d Q (pc + 3) ls (rest) M') : Reach cc own nL d Q pc ls st0 M :=
  rx_callS hm hl h hd hst hn hW hdg (fun w N e => by obtain ⟨rfl, rfl⟩ := e; exact k0)

theorem rx_iret {P : Option Value → Mem → Prop} {x : Int32} (hdg : decode cc pc = .ok (.ireturn, 1)) (h : P (some (.int x)) M) : Reach cc own nL d (RetQ cc (some .int) P) pc ls [.int x] M := Reach.here ⟨some (.int x), rfl, h, x, rfl, hdg⟩
theorem rx_zret {P : Option Value → Mem → Prop} {x : Int32} (hdg : decode cc pc = .ok (.ireturn, 1)) (hz : x = 0 ∨ x = 1) (h : P (some (.int x)) M) : Reach cc own nL d (RetQ cc (some .boolean) P) pc ls [.int x] M := Reach.here ⟨some (.int x), rfl, h, x, rfl, hz, hdg⟩
theorem rx_lret {P : Option Value → Mem → Prop} {x : Int64} (hdg : decode cc pc = .ok (.lreturn, 1)) (h : P (some (.long x)) M) : Reach cc own nL d (RetQ cc (some .long) P) pc ls [.long x] M := Reach.here ⟨some (.long x), rfl, h, x, rfl, hdg⟩
theorem rx_vret {P : Option Value → Mem → Prop} (hdg : decode cc pc = .ok (.return_, 1)) (h : P none M) : Reach cc own nL d (RetQ cc none P) pc ls [] M := Reach.here ⟨none, rfl, h, rfl, hdg⟩
theorem rx_fiI {x x' : Int32} (hdg : decode cc pc = .ok (.ireturn, 1)) (h : x = x') (hM : M = M') : Reach cc own nL d (FQ cc (some .int) (some (.int x')) M') pc ls [.int x] M := rx_iret hdg ⟨by rw [h], hM⟩
theorem rx_fiZ {x x' : Int32} (hdg : decode cc pc = .ok (.ireturn, 1)) (hz : x = 0 ∨ x = 1) (h : x = x') (hM : M = M') : Reach cc own nL d (FQ cc (some .boolean) (some (.int x')) M') pc ls [.int x] M := rx_zret hdg hz ⟨by rw [h], hM⟩
theorem rx_fiL {x x' : Int64} (hdg : decode cc pc = .ok (.lreturn, 1)) (h : x = x') (hM : M = M') : Reach cc own nL d (FQ cc (some .long) (some (.long x')) M') pc ls [.long x] M := rx_lret hdg ⟨by rw [h], hM⟩
theorem rx_fiV (hdg : decode cc pc = .ok (.return_, 1)) (hM : M = M') : Reach cc own nL d (FQ cc none none M') pc ls [] M := rx_vret hdg ⟨rfl, hM⟩
/-- the number on top of the stack, said otherwise -/
theorem rx_top {x : Int32} (y : Int32) (e : x = y) (k : Reach cc own nL d Q pc ls (.int y :: st) M) : Reach cc own nL d Q pc ls (.int x :: st) M := e ▸ k
theorem rx_topL {x : Int64} (y : Int64) (e : x = y) (k : Reach cc own nL d Q pc ls (.long y :: st) M) : Reach cc own nL d Q pc ls (.long x :: st) M := e ▸ k
theorem rx_mem (M2 : Mem) (e : M = M2) (k : Reach cc own nL d Q pc ls st M2) : Reach cc own nL d Q pc ls st M := e ▸ k
theorem rx_loc (ls2 : List (Option Value)) (e : ls = ls2) (k : Reach cc own nL d Q pc ls2 st M) : Reach cc own nL d Q pc ls st M := e ▸ k
/-! arrays at a place that is a number -/
theorem rx_ialdN {id n k : Nat} (hk : kd id = (0, n)) (h : k < n) (hn : n < 2 ^ 31) (hdg : decode cc pc = .ok (.iaload, 1)) (k0 : Reach cc own nL d Q (pc + 1) ls (.int (M.1 id k) :: st) M) : Reach cc own nL d Q pc ls (.int (nI k) :: .ref id :: st) M :=
  rx_iald hk (vp_in_nI h hn) hdg (by rw [nI_clamp (by omega)]; exact k0)
theorem rx_baldN {id n k : Nat} (hk : kd id = (2, n)) (h : k < n) (hn : n < 2 ^ 31) (hdg : decode cc pc = .ok (.baload, 1)) (k0 : Reach cc own nL d Q (pc + 1) ls (.int (M.1 id k) :: st) M) : Reach cc own nL d Q pc ls (.int (nI k) :: .ref id :: st) M :=
  rx_bald hk (vp_in_nI h hn) hdg (by rw [nI_clamp (by omega)]; exact k0)
theorem rx_zaldN {id n k : Nat} (hk : kd id = (3, n)) (h : k < n) (hn : n < 2 ^ 31) (hdg : decode cc pc = .ok (.baload, 1)) (k0 : Reach cc own nL d Q (pc + 1) ls (.int (M.1 id k) :: st) M) : Reach cc own nL d Q pc ls (.int (nI k) :: .ref id :: st) M :=
  rx_zald hk (vp_in_nI h hn) hdg (by rw [nI_clamp (by omega)]; exact k0)
theorem rx_laldN {id n k : Nat} (hk : kd id = (1, n)) (h : k < n) (hn : n < 2 ^ 31) (hdg : decode cc pc = .ok (.laload, 1)) (k0 : Reach cc own nL d Q (pc + 1) ls (.long (M.2.1 id k) :: st) M) : Reach cc own nL d Q pc ls (.int (nI k) :: .ref id :: st) M :=
  rx_lald hk (vp_in_nI h hn) hdg (by rw [nI_clamp (by omega)]; exact k0)
theorem rx_iastN {id n k : Nat} {x : Int32} (hk : kd id = (0, n)) (h : k < n) (hn : n < 2 ^ 31) (hdg : decode cc pc = .ok (.iastore, 1)) (k0 : Reach cc own nL d Q (pc + 1) ls st (setI M id k x)) : Reach cc own nL d Q pc ls (.int x :: .int (nI k) :: .ref id :: st) M :=
  rx_iast hk (vp_in_nI h hn) hdg (by rw [nI_clamp (by omega)]; exact k0)
theorem rx_bastN {id n k : Nat} {x : Int32} (hk : kd id = (2, n)) (h : k < n) (hn : n < 2 ^ 31) (hdg : decode cc pc = .ok (.bastore, 1)) (k0 : Reach cc own nL d Q (pc + 1) ls st (setI M id k (vp_nar .byte x))) : Reach cc own nL d Q pc ls (.int x :: .int (nI k) :: .ref id :: st) M :=
  rx_bast hk (vp_in_nI h hn) hdg (by rw [nI_clamp (by omega)]; exact k0)
theorem rx_zastN {id n k : Nat} {x : Int32} (hk : kd id = (3, n)) (h : k < n) (hn : n < 2 ^ 31) (hz : x = 0 ∨ x = 1) (hdg : decode cc pc = .ok (.bastore, 1)) (k0 : Reach cc own nL d Q (pc + 1) ls st (setI M id k x)) : Reach cc own nL d Q pc ls (.int x :: .int (nI k) :: .ref id :: st) M :=
  rx_zast hk (vp_in_nI h hn) hz hdg (by rw [nI_clamp (by omega)]; exact k0)
theorem rx_lastN {id n k : Nat} {x : Int64} (hk : kd id = (1, n)) (h : k < n) (hn : n < 2 ^ 31) (hdg : decode cc pc = .ok (.lastore, 1)) (k0 : Reach cc own nL d Q (pc + 1) ls st (setJ M id k x)) : Reach cc own nL d Q pc ls (.long x :: .int (nI k) :: .ref id :: st) M :=
  rx_last hk (vp_in_nI h hn) hdg (by rw [nI_clamp (by omega)]; exact k0)
end RF

