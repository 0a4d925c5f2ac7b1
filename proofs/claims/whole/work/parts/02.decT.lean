theorem dX0_init_0 : decode cX0_init 0 = .ok (.aload_n 0, 1) := by decide +kernel
theorem dX0_init_1 : decode cX0_init 1 = .ok (.invokespecial 3, 3) := by decide +kernel
theorem dX0_init_4 : decode cX0_init 4 = .ok (.aload_n 0, 1) := by decide +kernel
theorem dX0_init_5 : decode cX0_init 5 = .ok (.bipush 10, 2) := by decide +kernel
theorem dX0_init_7 : decode cX0_init 7 = .ok (.newarray .int, 2) := by decide +kernel
theorem dX0_init_9 : decode cX0_init 9 = .ok (.putfield 9, 3) := by decide +kernel
theorem dX0_init_12 : decode cX0_init 12 = .ok (.return_, 1) := by decide +kernel
theorem dX0_pass_0 : decode cX0_pass 0 = .ok (.aload_n 0, 1) := by decide +kernel
theorem dX0_pass_1 : decode cX0_pass 1 = .ok (.iconst 0, 1) := by decide +kernel
theorem dX0_pass_2 : decode cX0_pass 2 = .ok (.putfield 15, 3) := by decide +kernel
theorem dX0_pass_5 : decode cX0_pass 5 = .ok (.aload_n 0, 1) := by decide +kernel
theorem dX0_pass_6 : decode cX0_pass 6 = .ok (.iconst 0, 1) := by decide +kernel
theorem dX0_pass_7 : decode cX0_pass 7 = .ok (.putfield 19, 3) := by decide +kernel
theorem dX0_pass_10 : decode cX0_pass 10 = .ok (.aload_n 0, 1) := by decide +kernel
theorem dX0_pass_11 : decode cX0_pass 11 = .ok (.iconst 0, 1) := by decide +kernel
theorem dX0_pass_12 : decode cX0_pass 12 = .ok (.putfield 22, 3) := by decide +kernel
theorem dX0_pass_15 : decode cX0_pass 15 = .ok (.aload_n 0, 1) := by decide +kernel
theorem dX0_pass_16 : decode cX0_pass 16 = .ok (.iconst 0, 1) := by decide +kernel
theorem dX0_pass_17 : decode cX0_pass 17 = .ok (.putfield 25, 3) := by decide +kernel
theorem dX0_pass_20 : decode cX0_pass 20 = .ok (.iconst 0, 1) := by decide +kernel
theorem dX0_pass_21 : decode cX0_pass 21 = .ok (.istore 4, 2) := by decide +kernel
theorem dX0_pass_23 : decode cX0_pass 23 = .ok (.iload 4, 2) := by decide +kernel
theorem dX0_pass_25 : decode cX0_pass 25 = .ok (.iload_n 3, 1) := by decide +kernel
theorem dX0_pass_26 : decode cX0_pass 26 = .ok (.if_icmp .ge 158, 3) := by decide +kernel
theorem dX0_pass_29 : decode cX0_pass 29 = .ok (.aload_n 1, 1) := by decide +kernel
theorem dX0_pass_30 : decode cX0_pass 30 = .ok (.invokevirtual 28, 3) := by decide +kernel
theorem dX0_pass_33 : decode cX0_pass 33 = .ok (.pop, 1) := by decide +kernel
theorem dX0_pass_34 : decode cX0_pass 34 = .ok (.aload_n 0, 1) := by decide +kernel
theorem dX0_pass_35 : decode cX0_pass 35 = .ok (.aload_n 1, 1) := by decide +kernel
theorem dX0_pass_36 : decode cX0_pass 36 = .ok (.invokevirtual 34, 3) := by decide +kernel
theorem dX0_pass_39 : decode cX0_pass 39 = .ok (.istore 5, 2) := by decide +kernel
theorem dX0_pass_41 : decode cX0_pass 41 = .ok (.iconst 0, 1) := by decide +kernel
theorem dX0_pass_42 : decode cX0_pass 42 = .ok (.istore 6, 2) := by decide +kernel
theorem dX0_pass_44 : decode cX0_pass 44 = .ok (.iload 6, 2) := by decide +kernel
theorem dX0_pass_46 : decode cX0_pass 46 = .ok (.iload 5, 2) := by decide +kernel
theorem dX0_pass_48 : decode cX0_pass 48 = .ok (.if_icmp .ge 120, 3) := by decide +kernel
theorem dX0_pass_51 : decode cX0_pass 51 = .ok (.aload_n 0, 1) := by decide +kernel
theorem dX0_pass_52 : decode cX0_pass 52 = .ok (.getfield 9, 3) := by decide +kernel
theorem dX0_pass_55 : decode cX0_pass 55 = .ok (.iload 6, 2) := by decide +kernel
theorem dX0_pass_57 : decode cX0_pass 57 = .ok (.iaload, 1) := by decide +kernel
theorem dX0_pass_58 : decode cX0_pass 58 = .ok (.istore 7, 2) := by decide +kernel
theorem dX0_pass_60 : decode cX0_pass 60 = .ok (.aload_n 2, 1) := by decide +kernel
theorem dX0_pass_61 : decode cX0_pass 61 = .ok (.aload_n 1, 1) := by decide +kernel
theorem dX0_pass_62 : decode cX0_pass 62 = .ok (.iload 7, 2) := by decide +kernel
theorem dX0_pass_64 : decode cX0_pass 64 = .ok (.invokevirtual 38, 3) := by decide +kernel
theorem dX0_pass_67 : decode cX0_pass 67 = .ok (.istore 8, 2) := by decide +kernel
theorem dX0_pass_69 : decode cX0_pass 69 = .ok (.iload 8, 2) := by decide +kernel
theorem dX0_pass_71 : decode cX0_pass 71 = .ok (.ifCond .lt 49, 3) := by decide +kernel
theorem dX0_pass_74 : decode cX0_pass 74 = .ok (.aload_n 0, 1) := by decide +kernel
theorem dX0_pass_75 : decode cX0_pass 75 = .ok (.dup, 1) := by decide +kernel
theorem dX0_pass_76 : decode cX0_pass 76 = .ok (.getfield 19, 3) := by decide +kernel
theorem dX0_pass_79 : decode cX0_pass 79 = .ok (.aload_n 1, 1) := by decide +kernel
theorem dX0_pass_80 : decode cX0_pass 80 = .ok (.iload 8, 2) := by decide +kernel
theorem dX0_pass_82 : decode cX0_pass 82 = .ok (.iload 7, 2) := by decide +kernel
theorem dX0_pass_84 : decode cX0_pass 84 = .ok (.invokevirtual 44, 3) := by decide +kernel
theorem dX0_pass_87 : decode cX0_pass 87 = .ok (.iadd, 1) := by decide +kernel
theorem dX0_pass_88 : decode cX0_pass 88 = .ok (.putfield 19, 3) := by decide +kernel
theorem dX0_pass_91 : decode cX0_pass 91 = .ok (.aload_n 0, 1) := by decide +kernel
theorem dX0_pass_92 : decode cX0_pass 92 = .ok (.dup, 1) := by decide +kernel
theorem dX0_pass_93 : decode cX0_pass 93 = .ok (.getfield 22, 3) := by decide +kernel
theorem dX0_pass_96 : decode cX0_pass 96 = .ok (.aload_n 1, 1) := by decide +kernel
theorem dX0_pass_97 : decode cX0_pass 97 = .ok (.getfield 48, 3) := by decide +kernel
theorem dX0_pass_100 : decode cX0_pass 100 = .ok (.iload 7, 2) := by decide +kernel
theorem dX0_pass_102 : decode cX0_pass 102 = .ok (.iaload, 1) := by decide +kernel
theorem dX0_pass_103 : decode cX0_pass 103 = .ok (.iadd, 1) := by decide +kernel
theorem dX0_pass_104 : decode cX0_pass 104 = .ok (.putfield 22, 3) := by decide +kernel
theorem dX0_pass_107 : decode cX0_pass 107 = .ok (.aload_n 0, 1) := by decide +kernel
theorem dX0_pass_108 : decode cX0_pass 108 = .ok (.dup, 1) := by decide +kernel
theorem dX0_pass_109 : decode cX0_pass 109 = .ok (.getfield 15, 3) := by decide +kernel
theorem dX0_pass_112 : decode cX0_pass 112 = .ok (.iconst 1, 1) := by decide +kernel
theorem dX0_pass_113 : decode cX0_pass 113 = .ok (.iadd, 1) := by decide +kernel
theorem dX0_pass_114 : decode cX0_pass 114 = .ok (.putfield 15, 3) := by decide +kernel
theorem dX0_pass_117 : decode cX0_pass 117 = .ok (.goto 45, 3) := by decide +kernel
theorem dX0_pass_120 : decode cX0_pass 120 = .ok (.aload_n 1, 1) := by decide +kernel
theorem dX0_pass_121 : decode cX0_pass 121 = .ok (.getfield 50, 3) := by decide +kernel
theorem dX0_pass_124 : decode cX0_pass 124 = .ok (.aload_n 1, 1) := by decide +kernel
theorem dX0_pass_125 : decode cX0_pass 125 = .ok (.getfield 53, 3) := by decide +kernel
theorem dX0_pass_128 : decode cX0_pass 128 = .ok (.iload 7, 2) := by decide +kernel
theorem dX0_pass_130 : decode cX0_pass 130 = .ok (.iaload, 1) := by decide +kernel
theorem dX0_pass_131 : decode cX0_pass 131 = .ok (.aload_n 1, 1) := by decide +kernel
theorem dX0_pass_132 : decode cX0_pass 132 = .ok (.getfield 56, 3) := by decide +kernel
theorem dX0_pass_135 : decode cX0_pass 135 = .ok (.iconst 3, 1) := by decide +kernel
theorem dX0_pass_136 : decode cX0_pass 136 = .ok (.iaload, 1) := by decide +kernel
theorem dX0_pass_137 : decode cX0_pass 137 = .ok (.iadd, 1) := by decide +kernel
theorem dX0_pass_138 : decode cX0_pass 138 = .ok (.if_icmp .lt 24, 3) := by decide +kernel
theorem dX0_pass_141 : decode cX0_pass 141 = .ok (.aload_n 1, 1) := by decide +kernel
theorem dX0_pass_142 : decode cX0_pass 142 = .ok (.getfield 59, 3) := by decide +kernel
theorem dX0_pass_145 : decode cX0_pass 145 = .ok (.iload 7, 2) := by decide +kernel
theorem dX0_pass_147 : decode cX0_pass 147 = .ok (.iconst 2, 1) := by decide +kernel
theorem dX0_pass_148 : decode cX0_pass 148 = .ok (.iastore, 1) := by decide +kernel
theorem dX0_pass_149 : decode cX0_pass 149 = .ok (.aload_n 0, 1) := by decide +kernel
theorem dX0_pass_150 : decode cX0_pass 150 = .ok (.dup, 1) := by decide +kernel
theorem dX0_pass_151 : decode cX0_pass 151 = .ok (.getfield 25, 3) := by decide +kernel
theorem dX0_pass_154 : decode cX0_pass 154 = .ok (.iconst 1, 1) := by decide +kernel
theorem dX0_pass_155 : decode cX0_pass 155 = .ok (.iload 7, 2) := by decide +kernel
theorem dX0_pass_157 : decode cX0_pass 157 = .ok (.ishl, 1) := by decide +kernel
theorem dX0_pass_158 : decode cX0_pass 158 = .ok (.ior, 1) := by decide +kernel
theorem dX0_pass_159 : decode cX0_pass 159 = .ok (.putfield 25, 3) := by decide +kernel
theorem dX0_pass_162 : decode cX0_pass 162 = .ok (.iinc 6 1, 3) := by decide +kernel
theorem dX0_pass_165 : decode cX0_pass 165 = .ok (.goto (-121), 3) := by decide +kernel
theorem dX0_pass_168 : decode cX0_pass 168 = .ok (.aload_n 1, 1) := by decide +kernel
theorem dX0_pass_169 : decode cX0_pass 169 = .ok (.dup, 1) := by decide +kernel
theorem dX0_pass_170 : decode cX0_pass 170 = .ok (.getfield 50, 3) := by decide +kernel
theorem dX0_pass_173 : decode cX0_pass 173 = .ok (.iconst 1, 1) := by decide +kernel
theorem dX0_pass_174 : decode cX0_pass 174 = .ok (.iadd, 1) := by decide +kernel
theorem dX0_pass_175 : decode cX0_pass 175 = .ok (.putfield 50, 3) := by decide +kernel
theorem dX0_pass_178 : decode cX0_pass 178 = .ok (.iinc 4 1, 3) := by decide +kernel
theorem dX0_pass_181 : decode cX0_pass 181 = .ok (.goto (-158), 3) := by decide +kernel
theorem dX0_pass_184 : decode cX0_pass 184 = .ok (.return_, 1) := by decide +kernel
theorem dX0_sortDue_0 : decode cX0_sortDue 0 = .ok (.aload_n 1, 1) := by decide +kernel
theorem dX0_sortDue_1 : decode cX0_sortDue 1 = .ok (.aload_n 1, 1) := by decide +kernel
theorem dX0_sortDue_2 : decode cX0_sortDue 2 = .ok (.getfield 50, 3) := by decide +kernel
theorem dX0_sortDue_5 : decode cX0_sortDue 5 = .ok (.invokevirtual 62, 3) := by decide +kernel
theorem dX0_sortDue_8 : decode cX0_sortDue 8 = .ok (.istore_n 2, 1) := by decide +kernel
theorem dX0_sortDue_9 : decode cX0_sortDue 9 = .ok (.iconst 0, 1) := by decide +kernel
theorem dX0_sortDue_10 : decode cX0_sortDue 10 = .ok (.istore_n 3, 1) := by decide +kernel
theorem dX0_sortDue_11 : decode cX0_sortDue 11 = .ok (.iconst 0, 1) := by decide +kernel
theorem dX0_sortDue_12 : decode cX0_sortDue 12 = .ok (.istore 4, 2) := by decide +kernel
theorem dX0_sortDue_14 : decode cX0_sortDue 14 = .ok (.iload 4, 2) := by decide +kernel
theorem dX0_sortDue_16 : decode cX0_sortDue 16 = .ok (.aload_n 1, 1) := by decide +kernel
theorem dX0_sortDue_17 : decode cX0_sortDue 17 = .ok (.getfield 66, 3) := by decide +kernel
theorem dX0_sortDue_20 : decode cX0_sortDue 20 = .ok (.if_icmp .ge 90, 3) := by decide +kernel
theorem dX0_sortDue_23 : decode cX0_sortDue 23 = .ok (.iload_n 2, 1) := by decide +kernel
theorem dX0_sortDue_24 : decode cX0_sortDue 24 = .ok (.iconst 1, 1) := by decide +kernel
theorem dX0_sortDue_25 : decode cX0_sortDue 25 = .ok (.iload 4, 2) := by decide +kernel
theorem dX0_sortDue_27 : decode cX0_sortDue 27 = .ok (.ishl, 1) := by decide +kernel
theorem dX0_sortDue_28 : decode cX0_sortDue 28 = .ok (.iand, 1) := by decide +kernel
theorem dX0_sortDue_29 : decode cX0_sortDue 29 = .ok (.ifCond .eq 75, 3) := by decide +kernel
theorem dX0_sortDue_32 : decode cX0_sortDue 32 = .ok (.iload_n 3, 1) := by decide +kernel
theorem dX0_sortDue_33 : decode cX0_sortDue 33 = .ok (.bipush 10, 2) := by decide +kernel
theorem dX0_sortDue_35 : decode cX0_sortDue 35 = .ok (.if_icmp .ge 69, 3) := by decide +kernel
theorem dX0_sortDue_38 : decode cX0_sortDue 38 = .ok (.iload_n 3, 1) := by decide +kernel
theorem dX0_sortDue_39 : decode cX0_sortDue 39 = .ok (.istore 5, 2) := by decide +kernel
theorem dX0_sortDue_41 : decode cX0_sortDue 41 = .ok (.iload 5, 2) := by decide +kernel
theorem dX0_sortDue_43 : decode cX0_sortDue 43 = .ok (.ifCond .le 49, 3) := by decide +kernel
theorem dX0_sortDue_46 : decode cX0_sortDue 46 = .ok (.aload_n 1, 1) := by decide +kernel
theorem dX0_sortDue_47 : decode cX0_sortDue 47 = .ok (.getfield 53, 3) := by decide +kernel
theorem dX0_sortDue_50 : decode cX0_sortDue 50 = .ok (.aload_n 0, 1) := by decide +kernel
theorem dX0_sortDue_51 : decode cX0_sortDue 51 = .ok (.getfield 9, 3) := by decide +kernel
theorem dX0_sortDue_54 : decode cX0_sortDue 54 = .ok (.iload 5, 2) := by decide +kernel
theorem dX0_sortDue_56 : decode cX0_sortDue 56 = .ok (.iconst 1, 1) := by decide +kernel
theorem dX0_sortDue_57 : decode cX0_sortDue 57 = .ok (.isub, 1) := by decide +kernel
theorem dX0_sortDue_58 : decode cX0_sortDue 58 = .ok (.iaload, 1) := by decide +kernel
theorem dX0_sortDue_59 : decode cX0_sortDue 59 = .ok (.iaload, 1) := by decide +kernel
theorem dX0_sortDue_60 : decode cX0_sortDue 60 = .ok (.aload_n 1, 1) := by decide +kernel
theorem dX0_sortDue_61 : decode cX0_sortDue 61 = .ok (.getfield 53, 3) := by decide +kernel
theorem dX0_sortDue_64 : decode cX0_sortDue 64 = .ok (.iload 4, 2) := by decide +kernel
theorem dX0_sortDue_66 : decode cX0_sortDue 66 = .ok (.iaload, 1) := by decide +kernel
theorem dX0_sortDue_67 : decode cX0_sortDue 67 = .ok (.if_icmp .le 25, 3) := by decide +kernel
theorem dX0_sortDue_70 : decode cX0_sortDue 70 = .ok (.aload_n 0, 1) := by decide +kernel
theorem dX0_sortDue_71 : decode cX0_sortDue 71 = .ok (.getfield 9, 3) := by decide +kernel
theorem dX0_sortDue_74 : decode cX0_sortDue 74 = .ok (.iload 5, 2) := by decide +kernel
theorem dX0_sortDue_76 : decode cX0_sortDue 76 = .ok (.aload_n 0, 1) := by decide +kernel
theorem dX0_sortDue_77 : decode cX0_sortDue 77 = .ok (.getfield 9, 3) := by decide +kernel
theorem dX0_sortDue_80 : decode cX0_sortDue 80 = .ok (.iload 5, 2) := by decide +kernel
theorem dX0_sortDue_82 : decode cX0_sortDue 82 = .ok (.iconst 1, 1) := by decide +kernel
theorem dX0_sortDue_83 : decode cX0_sortDue 83 = .ok (.isub, 1) := by decide +kernel
theorem dX0_sortDue_84 : decode cX0_sortDue 84 = .ok (.iaload, 1) := by decide +kernel
theorem dX0_sortDue_85 : decode cX0_sortDue 85 = .ok (.iastore, 1) := by decide +kernel
theorem dX0_sortDue_86 : decode cX0_sortDue 86 = .ok (.iinc 5 (-1), 3) := by decide +kernel
theorem dX0_sortDue_89 : decode cX0_sortDue 89 = .ok (.goto (-48), 3) := by decide +kernel
theorem dX0_sortDue_92 : decode cX0_sortDue 92 = .ok (.aload_n 0, 1) := by decide +kernel
theorem dX0_sortDue_93 : decode cX0_sortDue 93 = .ok (.getfield 9, 3) := by decide +kernel
theorem dX0_sortDue_96 : decode cX0_sortDue 96 = .ok (.iload 5, 2) := by decide +kernel
theorem dX0_sortDue_98 : decode cX0_sortDue 98 = .ok (.iload 4, 2) := by decide +kernel
theorem dX0_sortDue_100 : decode cX0_sortDue 100 = .ok (.iastore, 1) := by decide +kernel
theorem dX0_sortDue_101 : decode cX0_sortDue 101 = .ok (.iinc 3 1, 3) := by decide +kernel
theorem dX0_sortDue_104 : decode cX0_sortDue 104 = .ok (.iinc 4 1, 3) := by decide +kernel
theorem dX0_sortDue_107 : decode cX0_sortDue 107 = .ok (.goto (-93), 3) := by decide +kernel
theorem dX0_sortDue_110 : decode cX0_sortDue 110 = .ok (.iload_n 3, 1) := by decide +kernel
theorem dX0_sortDue_111 : decode cX0_sortDue 111 = .ok (.ireturn, 1) := by decide +kernel
theorem dX1_init_0 : decode cX1_init 0 = .ok (.aload_n 0, 1) := by decide +kernel
theorem dX1_init_1 : decode cX1_init 1 = .ok (.invokespecial 1, 3) := by decide +kernel
theorem dX1_init_4 : decode cX1_init 4 = .ok (.aload_n 0, 1) := by decide +kernel
theorem dX1_init_5 : decode cX1_init 5 = .ok (.new 7, 3) := by decide +kernel
theorem dX1_init_8 : decode cX1_init 8 = .ok (.dup, 1) := by decide +kernel
theorem dX1_init_9 : decode cX1_init 9 = .ok (.invokespecial 9, 3) := by decide +kernel
theorem dX1_init_12 : decode cX1_init 12 = .ok (.putfield 10, 3) := by decide +kernel
theorem dX1_init_15 : decode cX1_init 15 = .ok (.return_, 1) := by decide +kernel
theorem dX1_leastGift_0 : decode cX1_leastGift 0 = .ok (.aload_n 0, 1) := by decide +kernel
theorem dX1_leastGift_1 : decode cX1_leastGift 1 = .ok (.getfield 10, 3) := by decide +kernel
theorem dX1_leastGift_4 : decode cX1_leastGift 4 = .ok (.aload_n 1, 1) := by decide +kernel
theorem dX1_leastGift_5 : decode cX1_leastGift 5 = .ok (.invokevirtual 16, 3) := by decide +kernel
theorem dX1_leastGift_8 : decode cX1_leastGift 8 = .ok (.aload_n 0, 1) := by decide +kernel
theorem dX1_leastGift_9 : decode cX1_leastGift 9 = .ok (.getfield 10, 3) := by decide +kernel
theorem dX1_leastGift_12 : decode cX1_leastGift 12 = .ok (.getfield 20, 3) := by decide +kernel
theorem dX1_leastGift_15 : decode cX1_leastGift 15 = .ok (.iload_n 2, 1) := by decide +kernel
theorem dX1_leastGift_16 : decode cX1_leastGift 16 = .ok (.iaload, 1) := by decide +kernel
theorem dX1_leastGift_17 : decode cX1_leastGift 17 = .ok (.istore_n 3, 1) := by decide +kernel
theorem dX1_leastGift_18 : decode cX1_leastGift 18 = .ok (.aload_n 0, 1) := by decide +kernel
theorem dX1_leastGift_19 : decode cX1_leastGift 19 = .ok (.getfield 10, 3) := by decide +kernel
theorem dX1_leastGift_22 : decode cX1_leastGift 22 = .ok (.invokevirtual 24, 3) := by decide +kernel
theorem dX1_leastGift_25 : decode cX1_leastGift 25 = .ok (.istore 4, 2) := by decide +kernel
theorem dX1_leastGift_27 : decode cX1_leastGift 27 = .ok (.iconst 1, 1) := by decide +kernel
theorem dX1_leastGift_28 : decode cX1_leastGift 28 = .ok (.istore 5, 2) := by decide +kernel
theorem dX1_leastGift_30 : decode cX1_leastGift 30 = .ok (.iload 5, 2) := by decide +kernel
theorem dX1_leastGift_32 : decode cX1_leastGift 32 = .ok (.iload 4, 2) := by decide +kernel
theorem dX1_leastGift_34 : decode cX1_leastGift 34 = .ok (.if_icmp .gt 75, 3) := by decide +kernel
theorem dX1_leastGift_37 : decode cX1_leastGift 37 = .ok (.iconst 0, 1) := by decide +kernel
theorem dX1_leastGift_38 : decode cX1_leastGift 38 = .ok (.istore 6, 2) := by decide +kernel
theorem dX1_leastGift_40 : decode cX1_leastGift 40 = .ok (.iload 6, 2) := by decide +kernel
theorem dX1_leastGift_42 : decode cX1_leastGift 42 = .ok (.aload_n 0, 1) := by decide +kernel
theorem dX1_leastGift_43 : decode cX1_leastGift 43 = .ok (.getfield 10, 3) := by decide +kernel
theorem dX1_leastGift_46 : decode cX1_leastGift 46 = .ok (.getfield 28, 3) := by decide +kernel
theorem dX1_leastGift_49 : decode cX1_leastGift 49 = .ok (.if_icmp .ge 54, 3) := by decide +kernel
theorem dX1_leastGift_52 : decode cX1_leastGift 52 = .ok (.aload_n 0, 1) := by decide +kernel
theorem dX1_leastGift_53 : decode cX1_leastGift 53 = .ok (.getfield 10, 3) := by decide +kernel
theorem dX1_leastGift_56 : decode cX1_leastGift 56 = .ok (.iload 6, 2) := by decide +kernel
theorem dX1_leastGift_58 : decode cX1_leastGift 58 = .ok (.iload_n 3, 1) := by decide +kernel
theorem dX1_leastGift_59 : decode cX1_leastGift 59 = .ok (.iload 5, 2) := by decide +kernel
theorem dX1_leastGift_61 : decode cX1_leastGift 61 = .ok (.invokevirtual 32, 3) := by decide +kernel
theorem dX1_leastGift_64 : decode cX1_leastGift 64 = .ok (.ifCond .eq 33, 3) := by decide +kernel
theorem dX1_leastGift_67 : decode cX1_leastGift 67 = .ok (.aload_n 0, 1) := by decide +kernel
theorem dX1_leastGift_68 : decode cX1_leastGift 68 = .ok (.aload_n 0, 1) := by decide +kernel
theorem dX1_leastGift_69 : decode cX1_leastGift 69 = .ok (.iload 6, 2) := by decide +kernel
theorem dX1_leastGift_71 : decode cX1_leastGift 71 = .ok (.iload_n 3, 1) := by decide +kernel
theorem dX1_leastGift_72 : decode cX1_leastGift 72 = .ok (.iload 5, 2) := by decide +kernel
theorem dX1_leastGift_74 : decode cX1_leastGift 74 = .ok (.iload_n 2, 1) := by decide +kernel
theorem dX1_leastGift_75 : decode cX1_leastGift 75 = .ok (.invokevirtual 36, 3) := by decide +kernel
theorem dX1_leastGift_78 : decode cX1_leastGift 78 = .ok (.putfield 40, 3) := by decide +kernel
theorem dX1_leastGift_81 : decode cX1_leastGift 81 = .ok (.aload_n 0, 1) := by decide +kernel
theorem dX1_leastGift_82 : decode cX1_leastGift 82 = .ok (.getfield 40, 3) := by decide +kernel
theorem dX1_leastGift_85 : decode cX1_leastGift 85 = .ok (.ifCond .eq 12, 3) := by decide +kernel
theorem dX1_leastGift_88 : decode cX1_leastGift 88 = .ok (.aload_n 0, 1) := by decide +kernel
theorem dX1_leastGift_89 : decode cX1_leastGift 89 = .ok (.iload 6, 2) := by decide +kernel
theorem dX1_leastGift_91 : decode cX1_leastGift 91 = .ok (.putfield 43, 3) := by decide +kernel
theorem dX1_leastGift_94 : decode cX1_leastGift 94 = .ok (.iload 5, 2) := by decide +kernel
theorem dX1_leastGift_96 : decode cX1_leastGift 96 = .ok (.ireturn, 1) := by decide +kernel
theorem dX1_leastGift_97 : decode cX1_leastGift 97 = .ok (.iinc 6 1, 3) := by decide +kernel
theorem dX1_leastGift_100 : decode cX1_leastGift 100 = .ok (.goto (-60), 3) := by decide +kernel
theorem dX1_leastGift_103 : decode cX1_leastGift 103 = .ok (.iinc 5 1, 3) := by decide +kernel
theorem dX1_leastGift_106 : decode cX1_leastGift 106 = .ok (.goto (-76), 3) := by decide +kernel
theorem dX1_leastGift_109 : decode cX1_leastGift 109 = .ok (.iconst 0, 1) := by decide +kernel
theorem dX1_leastGift_110 : decode cX1_leastGift 110 = .ok (.ireturn, 1) := by decide +kernel
theorem dX1_leastLoss_0 : decode cX1_leastLoss 0 = .ok (.aload_n 0, 1) := by decide +kernel
theorem dX1_leastLoss_1 : decode cX1_leastLoss 1 = .ok (.getfield 10, 3) := by decide +kernel
theorem dX1_leastLoss_4 : decode cX1_leastLoss 4 = .ok (.aload_n 1, 1) := by decide +kernel
theorem dX1_leastLoss_5 : decode cX1_leastLoss 5 = .ok (.invokevirtual 16, 3) := by decide +kernel
theorem dX1_leastLoss_8 : decode cX1_leastLoss 8 = .ok (.aload_n 0, 1) := by decide +kernel
theorem dX1_leastLoss_9 : decode cX1_leastLoss 9 = .ok (.getfield 10, 3) := by decide +kernel
theorem dX1_leastLoss_12 : decode cX1_leastLoss 12 = .ok (.iload_n 2, 1) := by decide +kernel
theorem dX1_leastLoss_13 : decode cX1_leastLoss 13 = .ok (.invokevirtual 46, 3) := by decide +kernel
theorem dX1_leastLoss_16 : decode cX1_leastLoss 16 = .ok (.istore 4, 2) := by decide +kernel
theorem dX1_leastLoss_18 : decode cX1_leastLoss 18 = .ok (.iconst 1, 1) := by decide +kernel
theorem dX1_leastLoss_19 : decode cX1_leastLoss 19 = .ok (.istore 5, 2) := by decide +kernel
theorem dX1_leastLoss_21 : decode cX1_leastLoss 21 = .ok (.iload 5, 2) := by decide +kernel
theorem dX1_leastLoss_23 : decode cX1_leastLoss 23 = .ok (.iload 4, 2) := by decide +kernel
theorem dX1_leastLoss_25 : decode cX1_leastLoss 25 = .ok (.if_icmp .gt 62, 3) := by decide +kernel
theorem dX1_leastLoss_28 : decode cX1_leastLoss 28 = .ok (.iconst 0, 1) := by decide +kernel
theorem dX1_leastLoss_29 : decode cX1_leastLoss 29 = .ok (.istore 6, 2) := by decide +kernel
theorem dX1_leastLoss_31 : decode cX1_leastLoss 31 = .ok (.iload 6, 2) := by decide +kernel
theorem dX1_leastLoss_33 : decode cX1_leastLoss 33 = .ok (.aload_n 0, 1) := by decide +kernel
theorem dX1_leastLoss_34 : decode cX1_leastLoss 34 = .ok (.getfield 10, 3) := by decide +kernel
theorem dX1_leastLoss_37 : decode cX1_leastLoss 37 = .ok (.getfield 28, 3) := by decide +kernel
theorem dX1_leastLoss_40 : decode cX1_leastLoss 40 = .ok (.if_icmp .ge 41, 3) := by decide +kernel
theorem dX1_leastLoss_43 : decode cX1_leastLoss 43 = .ok (.iload 6, 2) := by decide +kernel
theorem dX1_leastLoss_45 : decode cX1_leastLoss 45 = .ok (.iload_n 2, 1) := by decide +kernel
theorem dX1_leastLoss_46 : decode cX1_leastLoss 46 = .ok (.if_icmp .eq 29, 3) := by decide +kernel
theorem dX1_leastLoss_49 : decode cX1_leastLoss 49 = .ok (.aload_n 0, 1) := by decide +kernel
theorem dX1_leastLoss_50 : decode cX1_leastLoss 50 = .ok (.iload_n 2, 1) := by decide +kernel
theorem dX1_leastLoss_51 : decode cX1_leastLoss 51 = .ok (.iload 6, 2) := by decide +kernel
theorem dX1_leastLoss_53 : decode cX1_leastLoss 53 = .ok (.iload 5, 2) := by decide +kernel
theorem dX1_leastLoss_55 : decode cX1_leastLoss 55 = .ok (.iload_n 3, 1) := by decide +kernel
theorem dX1_leastLoss_56 : decode cX1_leastLoss 56 = .ok (.invokevirtual 36, 3) := by decide +kernel
theorem dX1_leastLoss_59 : decode cX1_leastLoss 59 = .ok (.iconst 1, 1) := by decide +kernel
theorem dX1_leastLoss_60 : decode cX1_leastLoss 60 = .ok (.iload_n 2, 1) := by decide +kernel
theorem dX1_leastLoss_61 : decode cX1_leastLoss 61 = .ok (.ishl, 1) := by decide +kernel
theorem dX1_leastLoss_62 : decode cX1_leastLoss 62 = .ok (.iand, 1) := by decide +kernel
theorem dX1_leastLoss_63 : decode cX1_leastLoss 63 = .ok (.ifCond .eq 12, 3) := by decide +kernel
theorem dX1_leastLoss_66 : decode cX1_leastLoss 66 = .ok (.aload_n 0, 1) := by decide +kernel
theorem dX1_leastLoss_67 : decode cX1_leastLoss 67 = .ok (.iload 6, 2) := by decide +kernel
theorem dX1_leastLoss_69 : decode cX1_leastLoss 69 = .ok (.putfield 43, 3) := by decide +kernel
theorem dX1_leastLoss_72 : decode cX1_leastLoss 72 = .ok (.iload 5, 2) := by decide +kernel
theorem dX1_leastLoss_74 : decode cX1_leastLoss 74 = .ok (.ireturn, 1) := by decide +kernel
theorem dX1_leastLoss_75 : decode cX1_leastLoss 75 = .ok (.iinc 6 1, 3) := by decide +kernel
theorem dX1_leastLoss_78 : decode cX1_leastLoss 78 = .ok (.goto (-47), 3) := by decide +kernel
theorem dX1_leastLoss_81 : decode cX1_leastLoss 81 = .ok (.iinc 5 1, 3) := by decide +kernel
theorem dX1_leastLoss_84 : decode cX1_leastLoss 84 = .ok (.goto (-63), 3) := by decide +kernel
theorem dX1_leastLoss_87 : decode cX1_leastLoss 87 = .ok (.iconst 0, 1) := by decide +kernel
theorem dX1_leastLoss_88 : decode cX1_leastLoss 88 = .ok (.ireturn, 1) := by decide +kernel
theorem dX1_payersAfter_0 : decode cX1_payersAfter 0 = .ok (.aload_n 0, 1) := by decide +kernel
theorem dX1_payersAfter_1 : decode cX1_payersAfter 1 = .ok (.getfield 10, 3) := by decide +kernel
theorem dX1_payersAfter_4 : decode cX1_payersAfter 4 = .ok (.iload_n 1, 1) := by decide +kernel
theorem dX1_payersAfter_5 : decode cX1_payersAfter 5 = .ok (.iload_n 2, 1) := by decide +kernel
theorem dX1_payersAfter_6 : decode cX1_payersAfter 6 = .ok (.iload_n 3, 1) := by decide +kernel
theorem dX1_payersAfter_7 : decode cX1_payersAfter 7 = .ok (.invokevirtual 50, 3) := by decide +kernel
theorem dX1_payersAfter_10 : decode cX1_payersAfter 10 = .ok (.aload_n 0, 1) := by decide +kernel
theorem dX1_payersAfter_11 : decode cX1_payersAfter 11 = .ok (.getfield 10, 3) := by decide +kernel
theorem dX1_payersAfter_14 : decode cX1_payersAfter 14 = .ok (.invokevirtual 54, 3) := by decide +kernel
theorem dX1_payersAfter_17 : decode cX1_payersAfter 17 = .ok (.aload_n 0, 1) := by decide +kernel
theorem dX1_payersAfter_18 : decode cX1_payersAfter 18 = .ok (.getfield 10, 3) := by decide +kernel
theorem dX1_payersAfter_21 : decode cX1_payersAfter 21 = .ok (.iload 4, 2) := by decide +kernel
theorem dX1_payersAfter_23 : decode cX1_payersAfter 23 = .ok (.invokevirtual 57, 3) := by decide +kernel
theorem dX1_payersAfter_26 : decode cX1_payersAfter 26 = .ok (.istore 5, 2) := by decide +kernel
theorem dX1_payersAfter_28 : decode cX1_payersAfter 28 = .ok (.aload_n 0, 1) := by decide +kernel
theorem dX1_payersAfter_29 : decode cX1_payersAfter 29 = .ok (.getfield 10, 3) := by decide +kernel
theorem dX1_payersAfter_32 : decode cX1_payersAfter 32 = .ok (.iload_n 2, 1) := by decide +kernel
theorem dX1_payersAfter_33 : decode cX1_payersAfter 33 = .ok (.iload_n 1, 1) := by decide +kernel
theorem dX1_payersAfter_34 : decode cX1_payersAfter 34 = .ok (.iload_n 3, 1) := by decide +kernel
theorem dX1_payersAfter_35 : decode cX1_payersAfter 35 = .ok (.invokevirtual 50, 3) := by decide +kernel
theorem dX1_payersAfter_38 : decode cX1_payersAfter 38 = .ok (.iload 5, 2) := by decide +kernel
theorem dX1_payersAfter_40 : decode cX1_payersAfter 40 = .ok (.ireturn, 1) := by decide +kernel
theorem dX2_init_0 : decode cX2_init 0 = .ok (.aload_n 0, 1) := by decide +kernel
theorem dX2_init_1 : decode cX2_init 1 = .ok (.invokespecial 3, 3) := by decide +kernel
theorem dX2_init_4 : decode cX2_init 4 = .ok (.aload_n 0, 1) := by decide +kernel
theorem dX2_init_5 : decode cX2_init 5 = .ok (.new 9, 3) := by decide +kernel
theorem dX2_init_8 : decode cX2_init 8 = .ok (.dup, 1) := by decide +kernel
theorem dX2_init_9 : decode cX2_init 9 = .ok (.invokespecial 11, 3) := by decide +kernel
theorem dX2_init_12 : decode cX2_init 12 = .ok (.putfield 12, 3) := by decide +kernel
theorem dX2_init_15 : decode cX2_init 15 = .ok (.aload_n 0, 1) := by decide +kernel
theorem dX2_init_16 : decode cX2_init 16 = .ok (.bipush 10, 2) := by decide +kernel
theorem dX2_init_18 : decode cX2_init 18 = .ok (.newarray .int, 2) := by decide +kernel
theorem dX2_init_20 : decode cX2_init 20 = .ok (.putfield 18, 3) := by decide +kernel
theorem dX2_init_23 : decode cX2_init 23 = .ok (.return_, 1) := by decide +kernel
theorem dX2_look_0 : decode cX2_look 0 = .ok (.aload_n 0, 1) := by decide +kernel
theorem dX2_look_1 : decode cX2_look 1 = .ok (.getfield 12, 3) := by decide +kernel
theorem dX2_look_4 : decode cX2_look 4 = .ok (.aload_n 1, 1) := by decide +kernel
theorem dX2_look_5 : decode cX2_look 5 = .ok (.invokevirtual 22, 3) := by decide +kernel
theorem dX2_look_8 : decode cX2_look 8 = .ok (.aload_n 0, 1) := by decide +kernel
theorem dX2_look_9 : decode cX2_look 9 = .ok (.getfield 12, 3) := by decide +kernel
theorem dX2_look_12 : decode cX2_look 12 = .ok (.getfield 26, 3) := by decide +kernel
theorem dX2_look_15 : decode cX2_look 15 = .ok (.iconst 0, 1) := by decide +kernel
theorem dX2_look_16 : decode cX2_look 16 = .ok (.iload_n 2, 1) := by decide +kernel
theorem dX2_look_17 : decode cX2_look 17 = .ok (.iastore, 1) := by decide +kernel
theorem dX2_look_18 : decode cX2_look 18 = .ok (.aload_n 0, 1) := by decide +kernel
theorem dX2_look_19 : decode cX2_look 19 = .ok (.getfield 12, 3) := by decide +kernel
theorem dX2_look_22 : decode cX2_look 22 = .ok (.invokevirtual 29, 3) := by decide +kernel
theorem dX2_look_25 : decode cX2_look 25 = .ok (.aload_n 0, 1) := by decide +kernel
theorem dX2_look_26 : decode cX2_look 26 = .ok (.aload_n 0, 1) := by decide +kernel
theorem dX2_look_27 : decode cX2_look 27 = .ok (.getfield 12, 3) := by decide +kernel
theorem dX2_look_30 : decode cX2_look 30 = .ok (.iload_n 3, 1) := by decide +kernel
theorem dX2_look_31 : decode cX2_look 31 = .ok (.invokevirtual 32, 3) := by decide +kernel
theorem dX2_look_34 : decode cX2_look 34 = .ok (.putfield 36, 3) := by decide +kernel
theorem dX2_look_37 : decode cX2_look 37 = .ok (.iconst 0, 1) := by decide +kernel
theorem dX2_look_38 : decode cX2_look 38 = .ok (.istore 4, 2) := by decide +kernel
theorem dX2_look_40 : decode cX2_look 40 = .ok (.iload 4, 2) := by decide +kernel
theorem dX2_look_42 : decode cX2_look 42 = .ok (.aload_n 0, 1) := by decide +kernel
theorem dX2_look_43 : decode cX2_look 43 = .ok (.getfield 12, 3) := by decide +kernel
theorem dX2_look_46 : decode cX2_look 46 = .ok (.getfield 40, 3) := by decide +kernel
theorem dX2_look_49 : decode cX2_look 49 = .ok (.if_icmp .ge 71, 3) := by decide +kernel
theorem dX2_look_52 : decode cX2_look 52 = .ok (.aload_n 0, 1) := by decide +kernel
theorem dX2_look_53 : decode cX2_look 53 = .ok (.getfield 36, 3) := by decide +kernel
theorem dX2_look_56 : decode cX2_look 56 = .ok (.iconst 1, 1) := by decide +kernel
theorem dX2_look_57 : decode cX2_look 57 = .ok (.iload 4, 2) := by decide +kernel
theorem dX2_look_59 : decode cX2_look 59 = .ok (.ishl, 1) := by decide +kernel
theorem dX2_look_60 : decode cX2_look 60 = .ok (.iand, 1) := by decide +kernel
theorem dX2_look_61 : decode cX2_look 61 = .ok (.ifCond .eq 7, 3) := by decide +kernel
theorem dX2_look_64 : decode cX2_look 64 = .ok (.iconst 1, 1) := by decide +kernel
theorem dX2_look_65 : decode cX2_look 65 = .ok (.goto 4, 3) := by decide +kernel
theorem dX2_look_68 : decode cX2_look 68 = .ok (.iconst 0, 1) := by decide +kernel
theorem dX2_look_69 : decode cX2_look 69 = .ok (.istore 5, 2) := by decide +kernel
theorem dX2_look_71 : decode cX2_look 71 = .ok (.aload_n 0, 1) := by decide +kernel
theorem dX2_look_72 : decode cX2_look 72 = .ok (.getfield 18, 3) := by decide +kernel
theorem dX2_look_75 : decode cX2_look 75 = .ok (.iload 4, 2) := by decide +kernel
theorem dX2_look_77 : decode cX2_look 77 = .ok (.iload 5, 2) := by decide +kernel
theorem dX2_look_79 : decode cX2_look 79 = .ok (.ifCond .eq 33, 3) := by decide +kernel
theorem dX2_look_82 : decode cX2_look 82 = .ok (.aload_n 0, 1) := by decide +kernel
theorem dX2_look_83 : decode cX2_look 83 = .ok (.getfield 12, 3) := by decide +kernel
theorem dX2_look_86 : decode cX2_look 86 = .ok (.aload_n 0, 1) := by decide +kernel
theorem dX2_look_87 : decode cX2_look 87 = .ok (.getfield 12, 3) := by decide +kernel
theorem dX2_look_90 : decode cX2_look 90 = .ok (.getfield 43, 3) := by decide +kernel
theorem dX2_look_93 : decode cX2_look 93 = .ok (.iload 4, 2) := by decide +kernel
theorem dX2_look_95 : decode cX2_look 95 = .ok (.iaload, 1) := by decide +kernel
theorem dX2_look_96 : decode cX2_look 96 = .ok (.invokevirtual 46, 3) := by decide +kernel
theorem dX2_look_99 : decode cX2_look 99 = .ok (.aload_n 0, 1) := by decide +kernel
theorem dX2_look_100 : decode cX2_look 100 = .ok (.getfield 12, 3) := by decide +kernel
theorem dX2_look_103 : decode cX2_look 103 = .ok (.iload 4, 2) := by decide +kernel
theorem dX2_look_105 : decode cX2_look 105 = .ok (.invokevirtual 49, 3) := by decide +kernel
theorem dX2_look_108 : decode cX2_look 108 = .ok (.iand, 1) := by decide +kernel
theorem dX2_look_109 : decode cX2_look 109 = .ok (.goto 4, 3) := by decide +kernel
theorem dX2_look_112 : decode cX2_look 112 = .ok (.iconst 0, 1) := by decide +kernel
theorem dX2_look_113 : decode cX2_look 113 = .ok (.iastore, 1) := by decide +kernel
theorem dX2_look_114 : decode cX2_look 114 = .ok (.iinc 4 1, 3) := by decide +kernel
theorem dX2_look_117 : decode cX2_look 117 = .ok (.goto (-77), 3) := by decide +kernel
theorem dX2_look_120 : decode cX2_look 120 = .ok (.return_, 1) := by decide +kernel
theorem dX2_countedOf_0 : decode cX2_countedOf 0 = .ok (.iconst 0, 1) := by decide +kernel
theorem dX2_countedOf_1 : decode cX2_countedOf 1 = .ok (.istore_n 2, 1) := by decide +kernel
theorem dX2_countedOf_2 : decode cX2_countedOf 2 = .ok (.iconst 0, 1) := by decide +kernel
theorem dX2_countedOf_3 : decode cX2_countedOf 3 = .ok (.istore_n 3, 1) := by decide +kernel
theorem dX2_countedOf_4 : decode cX2_countedOf 4 = .ok (.iload_n 3, 1) := by decide +kernel
theorem dX2_countedOf_5 : decode cX2_countedOf 5 = .ok (.aload_n 0, 1) := by decide +kernel
theorem dX2_countedOf_6 : decode cX2_countedOf 6 = .ok (.getfield 12, 3) := by decide +kernel
theorem dX2_countedOf_9 : decode cX2_countedOf 9 = .ok (.getfield 52, 3) := by decide +kernel
theorem dX2_countedOf_12 : decode cX2_countedOf 12 = .ok (.if_icmp .ge 28, 3) := by decide +kernel
theorem dX2_countedOf_15 : decode cX2_countedOf 15 = .ok (.iload_n 1, 1) := by decide +kernel
theorem dX2_countedOf_16 : decode cX2_countedOf 16 = .ok (.iconst 1, 1) := by decide +kernel
theorem dX2_countedOf_17 : decode cX2_countedOf 17 = .ok (.iload_n 3, 1) := by decide +kernel
theorem dX2_countedOf_18 : decode cX2_countedOf 18 = .ok (.ishl, 1) := by decide +kernel
theorem dX2_countedOf_19 : decode cX2_countedOf 19 = .ok (.iand, 1) := by decide +kernel
theorem dX2_countedOf_20 : decode cX2_countedOf 20 = .ok (.ifCond .eq 14, 3) := by decide +kernel
theorem dX2_countedOf_23 : decode cX2_countedOf 23 = .ok (.iload_n 2, 1) := by decide +kernel
theorem dX2_countedOf_24 : decode cX2_countedOf 24 = .ok (.aload_n 0, 1) := by decide +kernel
theorem dX2_countedOf_25 : decode cX2_countedOf 25 = .ok (.getfield 12, 3) := by decide +kernel
theorem dX2_countedOf_28 : decode cX2_countedOf 28 = .ok (.iload_n 3, 1) := by decide +kernel
theorem dX2_countedOf_29 : decode cX2_countedOf 29 = .ok (.invokevirtual 55, 3) := by decide +kernel
theorem dX2_countedOf_32 : decode cX2_countedOf 32 = .ok (.iadd, 1) := by decide +kernel
theorem dX2_countedOf_33 : decode cX2_countedOf 33 = .ok (.istore_n 2, 1) := by decide +kernel
theorem dX2_countedOf_34 : decode cX2_countedOf 34 = .ok (.iinc 3 1, 3) := by decide +kernel
theorem dX2_countedOf_37 : decode cX2_countedOf 37 = .ok (.goto (-33), 3) := by decide +kernel
theorem dX2_countedOf_40 : decode cX2_countedOf 40 = .ok (.iload_n 2, 1) := by decide +kernel
theorem dX2_countedOf_41 : decode cX2_countedOf 41 = .ok (.ireturn, 1) := by decide +kernel
theorem dX2_debtsBehind_0 : decode cX2_debtsBehind 0 = .ok (.iconst 0, 1) := by decide +kernel
theorem dX2_debtsBehind_1 : decode cX2_debtsBehind 1 = .ok (.istore_n 2, 1) := by decide +kernel
theorem dX2_debtsBehind_2 : decode cX2_debtsBehind 2 = .ok (.iconst 0, 1) := by decide +kernel
theorem dX2_debtsBehind_3 : decode cX2_debtsBehind 3 = .ok (.istore_n 3, 1) := by decide +kernel
theorem dX2_debtsBehind_4 : decode cX2_debtsBehind 4 = .ok (.iload_n 3, 1) := by decide +kernel
theorem dX2_debtsBehind_5 : decode cX2_debtsBehind 5 = .ok (.aload_n 0, 1) := by decide +kernel
theorem dX2_debtsBehind_6 : decode cX2_debtsBehind 6 = .ok (.getfield 12, 3) := by decide +kernel
theorem dX2_debtsBehind_9 : decode cX2_debtsBehind 9 = .ok (.getfield 40, 3) := by decide +kernel
theorem dX2_debtsBehind_12 : decode cX2_debtsBehind 12 = .ok (.if_icmp .ge 28, 3) := by decide +kernel
theorem dX2_debtsBehind_15 : decode cX2_debtsBehind 15 = .ok (.aload_n 0, 1) := by decide +kernel
theorem dX2_debtsBehind_16 : decode cX2_debtsBehind 16 = .ok (.getfield 18, 3) := by decide +kernel
theorem dX2_debtsBehind_19 : decode cX2_debtsBehind 19 = .ok (.iload_n 3, 1) := by decide +kernel
theorem dX2_debtsBehind_20 : decode cX2_debtsBehind 20 = .ok (.iaload, 1) := by decide +kernel
theorem dX2_debtsBehind_21 : decode cX2_debtsBehind 21 = .ok (.iload_n 1, 1) := by decide +kernel
theorem dX2_debtsBehind_22 : decode cX2_debtsBehind 22 = .ok (.iconst (-1), 1) := by decide +kernel
theorem dX2_debtsBehind_23 : decode cX2_debtsBehind 23 = .ok (.ixor, 1) := by decide +kernel
theorem dX2_debtsBehind_24 : decode cX2_debtsBehind 24 = .ok (.iand, 1) := by decide +kernel
theorem dX2_debtsBehind_25 : decode cX2_debtsBehind 25 = .ok (.ifCond .eq 9, 3) := by decide +kernel
theorem dX2_debtsBehind_28 : decode cX2_debtsBehind 28 = .ok (.iload_n 2, 1) := by decide +kernel
theorem dX2_debtsBehind_29 : decode cX2_debtsBehind 29 = .ok (.iconst 1, 1) := by decide +kernel
theorem dX2_debtsBehind_30 : decode cX2_debtsBehind 30 = .ok (.iload_n 3, 1) := by decide +kernel
theorem dX2_debtsBehind_31 : decode cX2_debtsBehind 31 = .ok (.ishl, 1) := by decide +kernel
theorem dX2_debtsBehind_32 : decode cX2_debtsBehind 32 = .ok (.ior, 1) := by decide +kernel
theorem dX2_debtsBehind_33 : decode cX2_debtsBehind 33 = .ok (.istore_n 2, 1) := by decide +kernel
theorem dX2_debtsBehind_34 : decode cX2_debtsBehind 34 = .ok (.iinc 3 1, 3) := by decide +kernel
theorem dX2_debtsBehind_37 : decode cX2_debtsBehind 37 = .ok (.goto (-33), 3) := by decide +kernel
theorem dX2_debtsBehind_40 : decode cX2_debtsBehind 40 = .ok (.iload_n 2, 1) := by decide +kernel
theorem dX2_debtsBehind_41 : decode cX2_debtsBehind 41 = .ok (.ireturn, 1) := by decide +kernel
theorem dX2_sumsBehind_0 : decode cX2_sumsBehind 0 = .ok (.aload_n 0, 1) := by decide +kernel
theorem dX2_sumsBehind_1 : decode cX2_sumsBehind 1 = .ok (.getfield 12, 3) := by decide +kernel
theorem dX2_sumsBehind_4 : decode cX2_sumsBehind 4 = .ok (.aload_n 0, 1) := by decide +kernel
theorem dX2_sumsBehind_5 : decode cX2_sumsBehind 5 = .ok (.iload_n 1, 1) := by decide +kernel
theorem dX2_sumsBehind_6 : decode cX2_sumsBehind 6 = .ok (.invokevirtual 58, 3) := by decide +kernel
theorem dX2_sumsBehind_9 : decode cX2_sumsBehind 9 = .ok (.invokevirtual 61, 3) := by decide +kernel
theorem dX2_sumsBehind_12 : decode cX2_sumsBehind 12 = .ok (.ireturn, 1) := by decide +kernel
theorem dX2_leastBar_0 : decode cX2_leastBar 0 = .ok (.iconst 0, 1) := by decide +kernel
theorem dX2_leastBar_1 : decode cX2_leastBar 1 = .ok (.istore_n 1, 1) := by decide +kernel
theorem dX2_leastBar_2 : decode cX2_leastBar 2 = .ok (.ldc 64, 2) := by decide +kernel
theorem dX2_leastBar_4 : decode cX2_leastBar 4 = .ok (.istore_n 2, 1) := by decide +kernel
theorem dX2_leastBar_5 : decode cX2_leastBar 5 = .ok (.iconst 0, 1) := by decide +kernel
theorem dX2_leastBar_6 : decode cX2_leastBar 6 = .ok (.istore_n 3, 1) := by decide +kernel
theorem dX2_leastBar_7 : decode cX2_leastBar 7 = .ok (.iload_n 3, 1) := by decide +kernel
theorem dX2_leastBar_8 : decode cX2_leastBar 8 = .ok (.aload_n 0, 1) := by decide +kernel
theorem dX2_leastBar_9 : decode cX2_leastBar 9 = .ok (.getfield 12, 3) := by decide +kernel
theorem dX2_leastBar_12 : decode cX2_leastBar 12 = .ok (.invokevirtual 65, 3) := by decide +kernel
theorem dX2_leastBar_15 : decode cX2_leastBar 15 = .ok (.if_icmp .gt 33, 3) := by decide +kernel
theorem dX2_leastBar_18 : decode cX2_leastBar 18 = .ok (.aload_n 0, 1) := by decide +kernel
theorem dX2_leastBar_19 : decode cX2_leastBar 19 = .ok (.iload_n 3, 1) := by decide +kernel
theorem dX2_leastBar_20 : decode cX2_leastBar 20 = .ok (.invokevirtual 69, 3) := by decide +kernel
theorem dX2_leastBar_23 : decode cX2_leastBar 23 = .ok (.aload_n 0, 1) := by decide +kernel
theorem dX2_leastBar_24 : decode cX2_leastBar 24 = .ok (.iload_n 3, 1) := by decide +kernel
theorem dX2_leastBar_25 : decode cX2_leastBar 25 = .ok (.invokevirtual 72, 3) := by decide +kernel
theorem dX2_leastBar_28 : decode cX2_leastBar 28 = .ok (.iadd, 1) := by decide +kernel
theorem dX2_leastBar_29 : decode cX2_leastBar 29 = .ok (.istore 4, 2) := by decide +kernel
theorem dX2_leastBar_31 : decode cX2_leastBar 31 = .ok (.iload 4, 2) := by decide +kernel
theorem dX2_leastBar_33 : decode cX2_leastBar 33 = .ok (.iload_n 2, 1) := by decide +kernel
theorem dX2_leastBar_34 : decode cX2_leastBar 34 = .ok (.if_icmp .ge 8, 3) := by decide +kernel
theorem dX2_leastBar_37 : decode cX2_leastBar 37 = .ok (.iload 4, 2) := by decide +kernel
theorem dX2_leastBar_39 : decode cX2_leastBar 39 = .ok (.istore_n 2, 1) := by decide +kernel
theorem dX2_leastBar_40 : decode cX2_leastBar 40 = .ok (.iload_n 3, 1) := by decide +kernel
theorem dX2_leastBar_41 : decode cX2_leastBar 41 = .ok (.istore_n 1, 1) := by decide +kernel
theorem dX2_leastBar_42 : decode cX2_leastBar 42 = .ok (.iinc 3 1, 3) := by decide +kernel
theorem dX2_leastBar_45 : decode cX2_leastBar 45 = .ok (.goto (-38), 3) := by decide +kernel
theorem dX2_leastBar_48 : decode cX2_leastBar 48 = .ok (.iload_n 1, 1) := by decide +kernel
theorem dX2_leastBar_49 : decode cX2_leastBar 49 = .ok (.ireturn, 1) := by decide +kernel
theorem dX2_greatestFlow_0 : decode cX2_greatestFlow 0 = .ok (.aload_n 0, 1) := by decide +kernel
theorem dX2_greatestFlow_1 : decode cX2_greatestFlow 1 = .ok (.invokevirtual 75, 3) := by decide +kernel
theorem dX2_greatestFlow_4 : decode cX2_greatestFlow 4 = .ok (.istore_n 1, 1) := by decide +kernel
theorem dX2_greatestFlow_5 : decode cX2_greatestFlow 5 = .ok (.aload_n 0, 1) := by decide +kernel
theorem dX2_greatestFlow_6 : decode cX2_greatestFlow 6 = .ok (.iload_n 1, 1) := by decide +kernel
theorem dX2_greatestFlow_7 : decode cX2_greatestFlow 7 = .ok (.invokevirtual 69, 3) := by decide +kernel
theorem dX2_greatestFlow_10 : decode cX2_greatestFlow 10 = .ok (.aload_n 0, 1) := by decide +kernel
theorem dX2_greatestFlow_11 : decode cX2_greatestFlow 11 = .ok (.iload_n 1, 1) := by decide +kernel
theorem dX2_greatestFlow_12 : decode cX2_greatestFlow 12 = .ok (.invokevirtual 72, 3) := by decide +kernel
theorem dX2_greatestFlow_15 : decode cX2_greatestFlow 15 = .ok (.iadd, 1) := by decide +kernel
theorem dX2_greatestFlow_16 : decode cX2_greatestFlow 16 = .ok (.ireturn, 1) := by decide +kernel
theorem dX2_tooGreat_0 : decode cX2_tooGreat 0 = .ok (.iconst 0, 1) := by decide +kernel
theorem dX2_tooGreat_1 : decode cX2_tooGreat 1 = .ok (.istore_n 1, 1) := by decide +kernel
theorem dX2_tooGreat_2 : decode cX2_tooGreat 2 = .ok (.iconst 0, 1) := by decide +kernel
theorem dX2_tooGreat_3 : decode cX2_tooGreat 3 = .ok (.istore_n 2, 1) := by decide +kernel
theorem dX2_tooGreat_4 : decode cX2_tooGreat 4 = .ok (.iload_n 2, 1) := by decide +kernel
theorem dX2_tooGreat_5 : decode cX2_tooGreat 5 = .ok (.aload_n 0, 1) := by decide +kernel
theorem dX2_tooGreat_6 : decode cX2_tooGreat 6 = .ok (.getfield 12, 3) := by decide +kernel
theorem dX2_tooGreat_9 : decode cX2_tooGreat 9 = .ok (.getfield 40, 3) := by decide +kernel
theorem dX2_tooGreat_12 : decode cX2_tooGreat 12 = .ok (.if_icmp .ge 48, 3) := by decide +kernel
theorem dX2_tooGreat_15 : decode cX2_tooGreat 15 = .ok (.aload_n 0, 1) := by decide +kernel
theorem dX2_tooGreat_16 : decode cX2_tooGreat 16 = .ok (.getfield 36, 3) := by decide +kernel
theorem dX2_tooGreat_19 : decode cX2_tooGreat 19 = .ok (.iconst 1, 1) := by decide +kernel
theorem dX2_tooGreat_20 : decode cX2_tooGreat 20 = .ok (.iload_n 2, 1) := by decide +kernel
theorem dX2_tooGreat_21 : decode cX2_tooGreat 21 = .ok (.ishl, 1) := by decide +kernel
theorem dX2_tooGreat_22 : decode cX2_tooGreat 22 = .ok (.iand, 1) := by decide +kernel
theorem dX2_tooGreat_23 : decode cX2_tooGreat 23 = .ok (.ifCond .eq 31, 3) := by decide +kernel
theorem dX2_tooGreat_26 : decode cX2_tooGreat 26 = .ok (.aload_n 0, 1) := by decide +kernel
theorem dX2_tooGreat_27 : decode cX2_tooGreat 27 = .ok (.aload_n 0, 1) := by decide +kernel
theorem dX2_tooGreat_28 : decode cX2_tooGreat 28 = .ok (.getfield 18, 3) := by decide +kernel
theorem dX2_tooGreat_31 : decode cX2_tooGreat 31 = .ok (.iload_n 2, 1) := by decide +kernel
theorem dX2_tooGreat_32 : decode cX2_tooGreat 32 = .ok (.iaload, 1) := by decide +kernel
theorem dX2_tooGreat_33 : decode cX2_tooGreat 33 = .ok (.invokevirtual 69, 3) := by decide +kernel
theorem dX2_tooGreat_36 : decode cX2_tooGreat 36 = .ok (.aload_n 0, 1) := by decide +kernel
theorem dX2_tooGreat_37 : decode cX2_tooGreat 37 = .ok (.getfield 12, 3) := by decide +kernel
theorem dX2_tooGreat_40 : decode cX2_tooGreat 40 = .ok (.getfield 78, 3) := by decide +kernel
theorem dX2_tooGreat_43 : decode cX2_tooGreat 43 = .ok (.iload_n 2, 1) := by decide +kernel
theorem dX2_tooGreat_44 : decode cX2_tooGreat 44 = .ok (.iaload, 1) := by decide +kernel
theorem dX2_tooGreat_45 : decode cX2_tooGreat 45 = .ok (.if_icmp .ge 9, 3) := by decide +kernel
theorem dX2_tooGreat_48 : decode cX2_tooGreat 48 = .ok (.iload_n 1, 1) := by decide +kernel
theorem dX2_tooGreat_49 : decode cX2_tooGreat 49 = .ok (.iconst 1, 1) := by decide +kernel
theorem dX2_tooGreat_50 : decode cX2_tooGreat 50 = .ok (.iload_n 2, 1) := by decide +kernel
theorem dX2_tooGreat_51 : decode cX2_tooGreat 51 = .ok (.ishl, 1) := by decide +kernel
theorem dX2_tooGreat_52 : decode cX2_tooGreat 52 = .ok (.ior, 1) := by decide +kernel
theorem dX2_tooGreat_53 : decode cX2_tooGreat 53 = .ok (.istore_n 1, 1) := by decide +kernel
theorem dX2_tooGreat_54 : decode cX2_tooGreat 54 = .ok (.iinc 2 1, 3) := by decide +kernel
theorem dX2_tooGreat_57 : decode cX2_tooGreat 57 = .ok (.goto (-53), 3) := by decide +kernel
theorem dX2_tooGreat_60 : decode cX2_tooGreat 60 = .ok (.iload_n 1, 1) := by decide +kernel
theorem dX2_tooGreat_61 : decode cX2_tooGreat 61 = .ok (.ireturn, 1) := by decide +kernel
theorem dX3_init_0 : decode cX3_init 0 = .ok (.aload_n 0, 1) := by decide +kernel
theorem dX3_init_1 : decode cX3_init 1 = .ok (.invokespecial 5, 3) := by decide +kernel
theorem dX3_init_4 : decode cX3_init 4 = .ok (.aload_n 0, 1) := by decide +kernel
theorem dX3_init_5 : decode cX3_init 5 = .ok (.bipush 40, 2) := by decide +kernel
theorem dX3_init_7 : decode cX3_init 7 = .ok (.newarray .int, 2) := by decide +kernel
theorem dX3_init_9 : decode cX3_init 9 = .ok (.putfield 11, 3) := by decide +kernel
theorem dX3_init_12 : decode cX3_init 12 = .ok (.aload_n 0, 1) := by decide +kernel
theorem dX3_init_13 : decode cX3_init 13 = .ok (.bipush 40, 2) := by decide +kernel
theorem dX3_init_15 : decode cX3_init 15 = .ok (.newarray .int, 2) := by decide +kernel
theorem dX3_init_17 : decode cX3_init 17 = .ok (.putfield 15, 3) := by decide +kernel
theorem dX3_init_20 : decode cX3_init 20 = .ok (.return_, 1) := by decide +kernel
theorem dX3_take_0 : decode cX3_take 0 = .ok (.aload_n 1, 1) := by decide +kernel
theorem dX3_take_1 : decode cX3_take 1 = .ok (.getfield 18, 3) := by decide +kernel
theorem dX3_take_4 : decode cX3_take 4 = .ok (.iconst 0, 1) := by decide +kernel
theorem dX3_take_5 : decode cX3_take 5 = .ok (.aload_n 0, 1) := by decide +kernel
theorem dX3_take_6 : decode cX3_take 6 = .ok (.getfield 11, 3) := by decide +kernel
theorem dX3_take_9 : decode cX3_take 9 = .ok (.iconst 0, 1) := by decide +kernel
theorem dX3_take_10 : decode cX3_take 10 = .ok (.bipush 40, 2) := by decide +kernel
theorem dX3_take_12 : decode cX3_take 12 = .ok (.invokestatic 21, 3) := by decide +kernel
theorem dX3_take_15 : decode cX3_take 15 = .ok (.aload_n 0, 1) := by decide +kernel
theorem dX3_take_16 : decode cX3_take 16 = .ok (.aload_n 1, 1) := by decide +kernel
theorem dX3_take_17 : decode cX3_take 17 = .ok (.getfield 27, 3) := by decide +kernel
theorem dX3_take_20 : decode cX3_take 20 = .ok (.putfield 31, 3) := by decide +kernel
theorem dX3_take_23 : decode cX3_take 23 = .ok (.return_, 1) := by decide +kernel
theorem dX3_chosen_0 : decode cX3_chosen 0 = .ok (.aload_n 1, 1) := by decide +kernel
theorem dX3_chosen_1 : decode cX3_chosen 1 = .ok (.invokevirtual 32, 3) := by decide +kernel
theorem dX3_chosen_4 : decode cX3_chosen 4 = .ok (.aload_n 1, 1) := by decide +kernel
theorem dX3_chosen_5 : decode cX3_chosen 5 = .ok (.iload_n 2, 1) := by decide +kernel
theorem dX3_chosen_6 : decode cX3_chosen 6 = .ok (.invokevirtual 37, 3) := by decide +kernel
theorem dX3_chosen_9 : decode cX3_chosen 9 = .ok (.istore_n 3, 1) := by decide +kernel
theorem dX3_chosen_10 : decode cX3_chosen 10 = .ok (.iconst (-1), 1) := by decide +kernel
theorem dX3_chosen_11 : decode cX3_chosen 11 = .ok (.istore 4, 2) := by decide +kernel
theorem dX3_chosen_13 : decode cX3_chosen 13 = .ok (.iconst (-1), 1) := by decide +kernel
theorem dX3_chosen_14 : decode cX3_chosen 14 = .ok (.istore 5, 2) := by decide +kernel
theorem dX3_chosen_16 : decode cX3_chosen 16 = .ok (.iconst 0, 1) := by decide +kernel
theorem dX3_chosen_17 : decode cX3_chosen 17 = .ok (.istore 6, 2) := by decide +kernel
theorem dX3_chosen_19 : decode cX3_chosen 19 = .ok (.iload 6, 2) := by decide +kernel
theorem dX3_chosen_21 : decode cX3_chosen 21 = .ok (.aload_n 1, 1) := by decide +kernel
theorem dX3_chosen_22 : decode cX3_chosen 22 = .ok (.getfield 41, 3) := by decide +kernel
theorem dX3_chosen_25 : decode cX3_chosen 25 = .ok (.if_icmp .ge 43, 3) := by decide +kernel
theorem dX3_chosen_28 : decode cX3_chosen 28 = .ok (.iload_n 3, 1) := by decide +kernel
theorem dX3_chosen_29 : decode cX3_chosen 29 = .ok (.iconst 1, 1) := by decide +kernel
theorem dX3_chosen_30 : decode cX3_chosen 30 = .ok (.iload 6, 2) := by decide +kernel
theorem dX3_chosen_32 : decode cX3_chosen 32 = .ok (.ishl, 1) := by decide +kernel
theorem dX3_chosen_33 : decode cX3_chosen 33 = .ok (.iand, 1) := by decide +kernel
theorem dX3_chosen_34 : decode cX3_chosen 34 = .ok (.ifCond .eq 28, 3) := by decide +kernel
theorem dX3_chosen_37 : decode cX3_chosen 37 = .ok (.aload_n 0, 1) := by decide +kernel
theorem dX3_chosen_38 : decode cX3_chosen 38 = .ok (.aload_n 1, 1) := by decide +kernel
theorem dX3_chosen_39 : decode cX3_chosen 39 = .ok (.iload 6, 2) := by decide +kernel
theorem dX3_chosen_41 : decode cX3_chosen 41 = .ok (.iload_n 2, 1) := by decide +kernel
theorem dX3_chosen_42 : decode cX3_chosen 42 = .ok (.invokevirtual 44, 3) := by decide +kernel
theorem dX3_chosen_45 : decode cX3_chosen 45 = .ok (.istore 7, 2) := by decide +kernel
theorem dX3_chosen_47 : decode cX3_chosen 47 = .ok (.iload 7, 2) := by decide +kernel
theorem dX3_chosen_49 : decode cX3_chosen 49 = .ok (.iload 5, 2) := by decide +kernel
theorem dX3_chosen_51 : decode cX3_chosen 51 = .ok (.if_icmp .le 11, 3) := by decide +kernel
theorem dX3_chosen_54 : decode cX3_chosen 54 = .ok (.iload 7, 2) := by decide +kernel
theorem dX3_chosen_56 : decode cX3_chosen 56 = .ok (.istore 5, 2) := by decide +kernel
theorem dX3_chosen_58 : decode cX3_chosen 58 = .ok (.iload 6, 2) := by decide +kernel
theorem dX3_chosen_60 : decode cX3_chosen 60 = .ok (.istore 4, 2) := by decide +kernel
theorem dX3_chosen_62 : decode cX3_chosen 62 = .ok (.iinc 6 1, 3) := by decide +kernel
theorem dX3_chosen_65 : decode cX3_chosen 65 = .ok (.goto (-46), 3) := by decide +kernel
theorem dX3_chosen_68 : decode cX3_chosen 68 = .ok (.iload 4, 2) := by decide +kernel
theorem dX3_chosen_70 : decode cX3_chosen 70 = .ok (.ireturn, 1) := by decide +kernel
theorem dX3_worth_0 : decode cX3_worth 0 = .ok (.iconst 0, 1) := by decide +kernel
theorem dX3_worth_1 : decode cX3_worth 1 = .ok (.istore 4, 2) := by decide +kernel
theorem dX3_worth_3 : decode cX3_worth 3 = .ok (.iconst 0, 1) := by decide +kernel
theorem dX3_worth_4 : decode cX3_worth 4 = .ok (.istore 5, 2) := by decide +kernel
theorem dX3_worth_6 : decode cX3_worth 6 = .ok (.iload 5, 2) := by decide +kernel
theorem dX3_worth_8 : decode cX3_worth 8 = .ok (.aload_n 0, 1) := by decide +kernel
theorem dX3_worth_9 : decode cX3_worth 9 = .ok (.getfield 31, 3) := by decide +kernel
theorem dX3_worth_12 : decode cX3_worth 12 = .ok (.if_icmp .ge 149, 3) := by decide +kernel
theorem dX3_worth_15 : decode cX3_worth 15 = .ok (.aload_n 0, 1) := by decide +kernel
theorem dX3_worth_16 : decode cX3_worth 16 = .ok (.getfield 11, 3) := by decide +kernel
theorem dX3_worth_19 : decode cX3_worth 19 = .ok (.iload 5, 2) := by decide +kernel
theorem dX3_worth_21 : decode cX3_worth 21 = .ok (.iaload, 1) := by decide +kernel
theorem dX3_worth_22 : decode cX3_worth 22 = .ok (.istore 6, 2) := by decide +kernel
theorem dX3_worth_24 : decode cX3_worth 24 = .ok (.iload 6, 2) := by decide +kernel
theorem dX3_worth_26 : decode cX3_worth 26 = .ok (.sipush 2000, 3) := by decide +kernel
theorem dX3_worth_29 : decode cX3_worth 29 = .ok (.if_icmp .ge 48, 3) := by decide +kernel
theorem dX3_worth_32 : decode cX3_worth 32 = .ok (.iload 4, 2) := by decide +kernel
theorem dX3_worth_34 : decode cX3_worth 34 = .ok (.bipush 40, 2) := by decide +kernel
theorem dX3_worth_36 : decode cX3_worth 36 = .ok (.if_icmp .ge 41, 3) := by decide +kernel
theorem dX3_worth_39 : decode cX3_worth 39 = .ok (.aload_n 0, 1) := by decide +kernel
theorem dX3_worth_40 : decode cX3_worth 40 = .ok (.getfield 15, 3) := by decide +kernel
theorem dX3_worth_43 : decode cX3_worth 43 = .ok (.iload 4, 2) := by decide +kernel
theorem dX3_worth_45 : decode cX3_worth 45 = .ok (.iload 6, 2) := by decide +kernel
theorem dX3_worth_47 : decode cX3_worth 47 = .ok (.sipush 1000, 3) := by decide +kernel
theorem dX3_worth_50 : decode cX3_worth 50 = .ok (.if_icmp .ge 8, 3) := by decide +kernel
theorem dX3_worth_53 : decode cX3_worth 53 = .ok (.iload 6, 2) := by decide +kernel
theorem dX3_worth_55 : decode cX3_worth 55 = .ok (.goto 15, 3) := by decide +kernel
theorem dX3_worth_58 : decode cX3_worth 58 = .ok (.iload 6, 2) := by decide +kernel
theorem dX3_worth_60 : decode cX3_worth 60 = .ok (.sipush 1000, 3) := by decide +kernel
theorem dX3_worth_63 : decode cX3_worth 63 = .ok (.isub, 1) := by decide +kernel
theorem dX3_worth_64 : decode cX3_worth 64 = .ok (.aload_n 1, 1) := by decide +kernel
theorem dX3_worth_65 : decode cX3_worth 65 = .ok (.iload_n 2, 1) := by decide +kernel
theorem dX3_worth_66 : decode cX3_worth 66 = .ok (.iload_n 3, 1) := by decide +kernel
theorem dX3_worth_67 : decode cX3_worth 67 = .ok (.invokestatic 48, 3) := by decide +kernel
theorem dX3_worth_70 : decode cX3_worth 70 = .ok (.iastore, 1) := by decide +kernel
theorem dX3_worth_71 : decode cX3_worth 71 = .ok (.iinc 4 1, 3) := by decide +kernel
theorem dX3_worth_74 : decode cX3_worth 74 = .ok (.goto 81, 3) := by decide +kernel
theorem dX3_worth_77 : decode cX3_worth 77 = .ok (.iload 6, 2) := by decide +kernel
theorem dX3_worth_79 : decode cX3_worth 79 = .ok (.sipush 2007, 3) := by decide +kernel
theorem dX3_worth_82 : decode cX3_worth 82 = .ok (.if_icmp .ne 30, 3) := by decide +kernel
theorem dX3_worth_85 : decode cX3_worth 85 = .ok (.iload 4, 2) := by decide +kernel
theorem dX3_worth_87 : decode cX3_worth 87 = .ok (.ifCond .le 25, 3) := by decide +kernel
theorem dX3_worth_90 : decode cX3_worth 90 = .ok (.aload_n 0, 1) := by decide +kernel
theorem dX3_worth_91 : decode cX3_worth 91 = .ok (.getfield 15, 3) := by decide +kernel
theorem dX3_worth_94 : decode cX3_worth 94 = .ok (.iload 4, 2) := by decide +kernel
theorem dX3_worth_96 : decode cX3_worth 96 = .ok (.iconst 1, 1) := by decide +kernel
theorem dX3_worth_97 : decode cX3_worth 97 = .ok (.isub, 1) := by decide +kernel
theorem dX3_worth_98 : decode cX3_worth 98 = .ok (.aload_n 0, 1) := by decide +kernel
theorem dX3_worth_99 : decode cX3_worth 99 = .ok (.getfield 15, 3) := by decide +kernel
theorem dX3_worth_102 : decode cX3_worth 102 = .ok (.iload 4, 2) := by decide +kernel
theorem dX3_worth_104 : decode cX3_worth 104 = .ok (.iconst 1, 1) := by decide +kernel
theorem dX3_worth_105 : decode cX3_worth 105 = .ok (.isub, 1) := by decide +kernel
theorem dX3_worth_106 : decode cX3_worth 106 = .ok (.iaload, 1) := by decide +kernel
theorem dX3_worth_107 : decode cX3_worth 107 = .ok (.ineg, 1) := by decide +kernel
theorem dX3_worth_108 : decode cX3_worth 108 = .ok (.iastore, 1) := by decide +kernel
theorem dX3_worth_109 : decode cX3_worth 109 = .ok (.goto 46, 3) := by decide +kernel
theorem dX3_worth_112 : decode cX3_worth 112 = .ok (.iload 4, 2) := by decide +kernel
theorem dX3_worth_114 : decode cX3_worth 114 = .ok (.iconst 1, 1) := by decide +kernel
theorem dX3_worth_115 : decode cX3_worth 115 = .ok (.if_icmp .le 40, 3) := by decide +kernel
theorem dX3_worth_118 : decode cX3_worth 118 = .ok (.iinc 4 (-1), 3) := by decide +kernel
theorem dX3_worth_121 : decode cX3_worth 121 = .ok (.aload_n 0, 1) := by decide +kernel
theorem dX3_worth_122 : decode cX3_worth 122 = .ok (.getfield 15, 3) := by decide +kernel
theorem dX3_worth_125 : decode cX3_worth 125 = .ok (.iload 4, 2) := by decide +kernel
theorem dX3_worth_127 : decode cX3_worth 127 = .ok (.iconst 1, 1) := by decide +kernel
theorem dX3_worth_128 : decode cX3_worth 128 = .ok (.isub, 1) := by decide +kernel
theorem dX3_worth_129 : decode cX3_worth 129 = .ok (.iload 6, 2) := by decide +kernel
theorem dX3_worth_131 : decode cX3_worth 131 = .ok (.sipush 2000, 3) := by decide +kernel
theorem dX3_worth_134 : decode cX3_worth 134 = .ok (.isub, 1) := by decide +kernel
theorem dX3_worth_135 : decode cX3_worth 135 = .ok (.aload_n 0, 1) := by decide +kernel
theorem dX3_worth_136 : decode cX3_worth 136 = .ok (.getfield 15, 3) := by decide +kernel
theorem dX3_worth_139 : decode cX3_worth 139 = .ok (.iload 4, 2) := by decide +kernel
theorem dX3_worth_141 : decode cX3_worth 141 = .ok (.iconst 1, 1) := by decide +kernel
theorem dX3_worth_142 : decode cX3_worth 142 = .ok (.isub, 1) := by decide +kernel
theorem dX3_worth_143 : decode cX3_worth 143 = .ok (.iaload, 1) := by decide +kernel
theorem dX3_worth_144 : decode cX3_worth 144 = .ok (.aload_n 0, 1) := by decide +kernel
theorem dX3_worth_145 : decode cX3_worth 145 = .ok (.getfield 15, 3) := by decide +kernel
theorem dX3_worth_148 : decode cX3_worth 148 = .ok (.iload 4, 2) := by decide +kernel
theorem dX3_worth_150 : decode cX3_worth 150 = .ok (.iaload, 1) := by decide +kernel
theorem dX3_worth_151 : decode cX3_worth 151 = .ok (.invokestatic 52, 3) := by decide +kernel
theorem dX3_worth_154 : decode cX3_worth 154 = .ok (.iastore, 1) := by decide +kernel
theorem dX3_worth_155 : decode cX3_worth 155 = .ok (.iinc 5 1, 3) := by decide +kernel
theorem dX3_worth_158 : decode cX3_worth 158 = .ok (.goto (-152), 3) := by decide +kernel
theorem dX3_worth_161 : decode cX3_worth 161 = .ok (.iload 4, 2) := by decide +kernel
theorem dX3_worth_163 : decode cX3_worth 163 = .ok (.ifCond .le 12, 3) := by decide +kernel
theorem dX3_worth_166 : decode cX3_worth 166 = .ok (.aload_n 0, 1) := by decide +kernel
theorem dX3_worth_167 : decode cX3_worth 167 = .ok (.getfield 15, 3) := by decide +kernel
theorem dX3_worth_170 : decode cX3_worth 170 = .ok (.iconst 0, 1) := by decide +kernel
theorem dX3_worth_171 : decode cX3_worth 171 = .ok (.iaload, 1) := by decide +kernel
theorem dX3_worth_172 : decode cX3_worth 172 = .ok (.goto 4, 3) := by decide +kernel
theorem dX3_worth_175 : decode cX3_worth 175 = .ok (.iconst 0, 1) := by decide +kernel
theorem dX3_worth_176 : decode cX3_worth 176 = .ok (.ireturn, 1) := by decide +kernel
theorem dX3_thing_0 : decode cX3_thing 0 = .ok (.iload_n 0, 1) := by decide +kernel
theorem dX3_thing_1 : decode cX3_thing 1 = .ok (.tableswitch 84 0 6 #[43, 45, 51, 58, 65, 72, 78], 43) := by decide +kernel
theorem dX3_thing_44 : decode cX3_thing 44 = .ok (.iload_n 2, 1) := by decide +kernel
theorem dX3_thing_45 : decode cX3_thing 45 = .ok (.ireturn, 1) := by decide +kernel
theorem dX3_thing_46 : decode cX3_thing 46 = .ok (.aload_n 1, 1) := by decide +kernel
theorem dX3_thing_47 : decode cX3_thing 47 = .ok (.iload_n 2, 1) := by decide +kernel
theorem dX3_thing_48 : decode cX3_thing 48 = .ok (.invokevirtual 56, 3) := by decide +kernel
theorem dX3_thing_51 : decode cX3_thing 51 = .ok (.ireturn, 1) := by decide +kernel
theorem dX3_thing_52 : decode cX3_thing 52 = .ok (.aload_n 1, 1) := by decide +kernel
theorem dX3_thing_53 : decode cX3_thing 53 = .ok (.getfield 59, 3) := by decide +kernel
theorem dX3_thing_56 : decode cX3_thing 56 = .ok (.iload_n 2, 1) := by decide +kernel
theorem dX3_thing_57 : decode cX3_thing 57 = .ok (.iaload, 1) := by decide +kernel
theorem dX3_thing_58 : decode cX3_thing 58 = .ok (.ireturn, 1) := by decide +kernel
theorem dX3_thing_59 : decode cX3_thing 59 = .ok (.aload_n 1, 1) := by decide +kernel
theorem dX3_thing_60 : decode cX3_thing 60 = .ok (.getfield 62, 3) := by decide +kernel
theorem dX3_thing_63 : decode cX3_thing 63 = .ok (.iload_n 3, 1) := by decide +kernel
theorem dX3_thing_64 : decode cX3_thing 64 = .ok (.iaload, 1) := by decide +kernel
theorem dX3_thing_65 : decode cX3_thing 65 = .ok (.ireturn, 1) := by decide +kernel
theorem dX3_thing_66 : decode cX3_thing 66 = .ok (.aload_n 1, 1) := by decide +kernel
theorem dX3_thing_67 : decode cX3_thing 67 = .ok (.iload_n 2, 1) := by decide +kernel
theorem dX3_thing_68 : decode cX3_thing 68 = .ok (.iload_n 3, 1) := by decide +kernel
theorem dX3_thing_69 : decode cX3_thing 69 = .ok (.invokevirtual 65, 3) := by decide +kernel
theorem dX3_thing_72 : decode cX3_thing 72 = .ok (.ireturn, 1) := by decide +kernel
theorem dX3_thing_73 : decode cX3_thing 73 = .ok (.aload_n 1, 1) := by decide +kernel
theorem dX3_thing_74 : decode cX3_thing 74 = .ok (.iload_n 2, 1) := by decide +kernel
theorem dX3_thing_75 : decode cX3_thing 75 = .ok (.invokevirtual 69, 3) := by decide +kernel
theorem dX3_thing_78 : decode cX3_thing 78 = .ok (.ireturn, 1) := by decide +kernel
theorem dX3_thing_79 : decode cX3_thing 79 = .ok (.aload_n 1, 1) := by decide +kernel
theorem dX3_thing_80 : decode cX3_thing 80 = .ok (.iload_n 2, 1) := by decide +kernel
theorem dX3_thing_81 : decode cX3_thing 81 = .ok (.invokevirtual 72, 3) := by decide +kernel
theorem dX3_thing_84 : decode cX3_thing 84 = .ok (.ireturn, 1) := by decide +kernel
theorem dX3_thing_85 : decode cX3_thing 85 = .ok (.aload_n 1, 1) := by decide +kernel
theorem dX3_thing_86 : decode cX3_thing 86 = .ok (.iload_n 2, 1) := by decide +kernel
theorem dX3_thing_87 : decode cX3_thing 87 = .ok (.aload_n 1, 1) := by decide +kernel
theorem dX3_thing_88 : decode cX3_thing 88 = .ok (.getfield 75, 3) := by decide +kernel
theorem dX3_thing_91 : decode cX3_thing 91 = .ok (.iload_n 3, 1) := by decide +kernel
theorem dX3_thing_92 : decode cX3_thing 92 = .ok (.iaload, 1) := by decide +kernel
theorem dX3_thing_93 : decode cX3_thing 93 = .ok (.invokevirtual 78, 3) := by decide +kernel
theorem dX3_thing_96 : decode cX3_thing 96 = .ok (.ifCond .eq 7, 3) := by decide +kernel
theorem dX3_thing_99 : decode cX3_thing 99 = .ok (.iconst 1, 1) := by decide +kernel
theorem dX3_thing_100 : decode cX3_thing 100 = .ok (.goto 4, 3) := by decide +kernel
theorem dX3_thing_103 : decode cX3_thing 103 = .ok (.iconst 0, 1) := by decide +kernel
theorem dX3_thing_104 : decode cX3_thing 104 = .ok (.ireturn, 1) := by decide +kernel
theorem dX3_done_0 : decode cX3_done 0 = .ok (.iload_n 0, 1) := by decide +kernel
theorem dX3_done_1 : decode cX3_done 1 = .ok (.tableswitch 84 0 5 #[39, 50, 61, 72, 76, 80], 39) := by decide +kernel
theorem dX3_done_40 : decode cX3_done 40 = .ok (.iload_n 1, 1) := by decide +kernel
theorem dX3_done_41 : decode cX3_done 41 = .ok (.iload_n 2, 1) := by decide +kernel
theorem dX3_done_42 : decode cX3_done 42 = .ok (.if_icmp .ge 7, 3) := by decide +kernel
theorem dX3_done_45 : decode cX3_done 45 = .ok (.iconst 1, 1) := by decide +kernel
theorem dX3_done_46 : decode cX3_done 46 = .ok (.goto 4, 3) := by decide +kernel
theorem dX3_done_49 : decode cX3_done 49 = .ok (.iconst 0, 1) := by decide +kernel
theorem dX3_done_50 : decode cX3_done 50 = .ok (.ireturn, 1) := by decide +kernel
theorem dX3_done_51 : decode cX3_done 51 = .ok (.iload_n 1, 1) := by decide +kernel
theorem dX3_done_52 : decode cX3_done 52 = .ok (.iload_n 2, 1) := by decide +kernel
theorem dX3_done_53 : decode cX3_done 53 = .ok (.if_icmp .le 7, 3) := by decide +kernel
theorem dX3_done_56 : decode cX3_done 56 = .ok (.iconst 1, 1) := by decide +kernel
theorem dX3_done_57 : decode cX3_done 57 = .ok (.goto 4, 3) := by decide +kernel
theorem dX3_done_60 : decode cX3_done 60 = .ok (.iconst 0, 1) := by decide +kernel
theorem dX3_done_61 : decode cX3_done 61 = .ok (.ireturn, 1) := by decide +kernel
theorem dX3_done_62 : decode cX3_done 62 = .ok (.iload_n 1, 1) := by decide +kernel
theorem dX3_done_63 : decode cX3_done 63 = .ok (.iload_n 2, 1) := by decide +kernel
theorem dX3_done_64 : decode cX3_done 64 = .ok (.if_icmp .ne 7, 3) := by decide +kernel
theorem dX3_done_67 : decode cX3_done 67 = .ok (.iconst 1, 1) := by decide +kernel
theorem dX3_done_68 : decode cX3_done 68 = .ok (.goto 4, 3) := by decide +kernel
theorem dX3_done_71 : decode cX3_done 71 = .ok (.iconst 0, 1) := by decide +kernel
theorem dX3_done_72 : decode cX3_done 72 = .ok (.ireturn, 1) := by decide +kernel
theorem dX3_done_73 : decode cX3_done 73 = .ok (.iload_n 1, 1) := by decide +kernel
theorem dX3_done_74 : decode cX3_done 74 = .ok (.iload_n 2, 1) := by decide +kernel
theorem dX3_done_75 : decode cX3_done 75 = .ok (.iadd, 1) := by decide +kernel
theorem dX3_done_76 : decode cX3_done 76 = .ok (.ireturn, 1) := by decide +kernel
theorem dX3_done_77 : decode cX3_done 77 = .ok (.iload_n 1, 1) := by decide +kernel
theorem dX3_done_78 : decode cX3_done 78 = .ok (.iload_n 2, 1) := by decide +kernel
theorem dX3_done_79 : decode cX3_done 79 = .ok (.isub, 1) := by decide +kernel
theorem dX3_done_80 : decode cX3_done 80 = .ok (.ireturn, 1) := by decide +kernel
theorem dX3_done_81 : decode cX3_done 81 = .ok (.iload_n 1, 1) := by decide +kernel
theorem dX3_done_82 : decode cX3_done 82 = .ok (.iload_n 2, 1) := by decide +kernel
theorem dX3_done_83 : decode cX3_done 83 = .ok (.imul, 1) := by decide +kernel
theorem dX3_done_84 : decode cX3_done 84 = .ok (.ireturn, 1) := by decide +kernel
theorem dX3_done_85 : decode cX3_done 85 = .ok (.iload_n 2, 1) := by decide +kernel
theorem dX3_done_86 : decode cX3_done 86 = .ok (.ifCond .ne 7, 3) := by decide +kernel
theorem dX3_done_89 : decode cX3_done 89 = .ok (.iconst 0, 1) := by decide +kernel
theorem dX3_done_90 : decode cX3_done 90 = .ok (.goto 6, 3) := by decide +kernel
theorem dX3_done_93 : decode cX3_done 93 = .ok (.iload_n 1, 1) := by decide +kernel
theorem dX3_done_94 : decode cX3_done 94 = .ok (.iload_n 2, 1) := by decide +kernel
theorem dX3_done_95 : decode cX3_done 95 = .ok (.idiv, 1) := by decide +kernel
theorem dX3_done_96 : decode cX3_done 96 = .ok (.ireturn, 1) := by decide +kernel
theorem dX4_init_0 : decode cX4_init 0 = .ok (.aload_n 0, 1) := by decide +kernel
theorem dX4_init_1 : decode cX4_init 1 = .ok (.invokespecial 3, 3) := by decide +kernel
theorem dX4_init_4 : decode cX4_init 4 = .ok (.aload_n 0, 1) := by decide +kernel
theorem dX4_init_5 : decode cX4_init 5 = .ok (.bipush 40, 2) := by decide +kernel
theorem dX4_init_7 : decode cX4_init 7 = .ok (.newarray .int, 2) := by decide +kernel
theorem dX4_init_9 : decode cX4_init 9 = .ok (.putfield 9, 3) := by decide +kernel
theorem dX4_init_12 : decode cX4_init 12 = .ok (.aload_n 0, 1) := by decide +kernel
theorem dX4_init_13 : decode cX4_init 13 = .ok (.bipush 40, 2) := by decide +kernel
theorem dX4_init_15 : decode cX4_init 15 = .ok (.newarray .int, 2) := by decide +kernel
theorem dX4_init_17 : decode cX4_init 17 = .ok (.putfield 15, 3) := by decide +kernel
theorem dX4_init_20 : decode cX4_init 20 = .ok (.aload_n 0, 1) := by decide +kernel
theorem dX4_init_21 : decode cX4_init 21 = .ok (.iconst 5, 1) := by decide +kernel
theorem dX4_init_22 : decode cX4_init 22 = .ok (.newarray .boolean, 2) := by decide +kernel
theorem dX4_init_24 : decode cX4_init 24 = .ok (.putfield 18, 3) := by decide +kernel
theorem dX4_init_27 : decode cX4_init 27 = .ok (.return_, 1) := by decide +kernel
theorem dX4_read_0 : decode cX4_read 0 = .ok (.aload_n 0, 1) := by decide +kernel
theorem dX4_read_1 : decode cX4_read 1 = .ok (.invokevirtual 22, 3) := by decide +kernel
theorem dX4_read_4 : decode cX4_read 4 = .ok (.bipush 40, 2) := by decide +kernel
theorem dX4_read_6 : decode cX4_read 6 = .ok (.aload_n 1, 1) := by decide +kernel
theorem dX4_read_7 : decode cX4_read 7 = .ok (.invokevirtual 25, 3) := by decide +kernel
theorem dX4_read_10 : decode cX4_read 10 = .ok (.invokestatic 31, 3) := by decide +kernel
theorem dX4_read_13 : decode cX4_read 13 = .ok (.istore_n 2, 1) := by decide +kernel
theorem dX4_read_14 : decode cX4_read 14 = .ok (.iconst 0, 1) := by decide +kernel
theorem dX4_read_15 : decode cX4_read 15 = .ok (.istore_n 3, 1) := by decide +kernel
theorem dX4_read_16 : decode cX4_read 16 = .ok (.iload_n 3, 1) := by decide +kernel
theorem dX4_read_17 : decode cX4_read 17 = .ok (.iload_n 2, 1) := by decide +kernel
theorem dX4_read_18 : decode cX4_read 18 = .ok (.if_icmp .ge 49, 3) := by decide +kernel
theorem dX4_read_21 : decode cX4_read 21 = .ok (.aload_n 1, 1) := by decide +kernel
theorem dX4_read_22 : decode cX4_read 22 = .ok (.iload_n 3, 1) := by decide +kernel
theorem dX4_read_23 : decode cX4_read 23 = .ok (.invokevirtual 37, 3) := by decide +kernel
theorem dX4_read_26 : decode cX4_read 26 = .ok (.istore 4, 2) := by decide +kernel
theorem dX4_read_28 : decode cX4_read 28 = .ok (.aload_n 0, 1) := by decide +kernel
theorem dX4_read_29 : decode cX4_read 29 = .ok (.getfield 41, 3) := by decide +kernel
theorem dX4_read_32 : decode cX4_read 32 = .ok (.ifCond .eq 12, 3) := by decide +kernel
theorem dX4_read_35 : decode cX4_read 35 = .ok (.aload_n 0, 1) := by decide +kernel
theorem dX4_read_36 : decode cX4_read 36 = .ok (.iload 4, 2) := by decide +kernel
theorem dX4_read_38 : decode cX4_read 38 = .ok (.invokevirtual 45, 3) := by decide +kernel
theorem dX4_read_41 : decode cX4_read 41 = .ok (.goto 9, 3) := by decide +kernel
theorem dX4_read_44 : decode cX4_read 44 = .ok (.aload_n 0, 1) := by decide +kernel
theorem dX4_read_45 : decode cX4_read 45 = .ok (.iload 4, 2) := by decide +kernel
theorem dX4_read_47 : decode cX4_read 47 = .ok (.invokevirtual 49, 3) := by decide +kernel
theorem dX4_read_50 : decode cX4_read 50 = .ok (.istore 5, 2) := by decide +kernel
theorem dX4_read_52 : decode cX4_read 52 = .ok (.iload 5, 2) := by decide +kernel
theorem dX4_read_54 : decode cX4_read 54 = .ok (.ifCond .ne 7, 3) := by decide +kernel
theorem dX4_read_57 : decode cX4_read 57 = .ok (.iconst (-1), 1) := by decide +kernel
theorem dX4_read_58 : decode cX4_read 58 = .ok (.iload_n 3, 1) := by decide +kernel
theorem dX4_read_59 : decode cX4_read 59 = .ok (.isub, 1) := by decide +kernel
theorem dX4_read_60 : decode cX4_read 60 = .ok (.ireturn, 1) := by decide +kernel
theorem dX4_read_61 : decode cX4_read 61 = .ok (.iinc 3 1, 3) := by decide +kernel
theorem dX4_read_64 : decode cX4_read 64 = .ok (.goto (-48), 3) := by decide +kernel
theorem dX4_read_67 : decode cX4_read 67 = .ok (.aload_n 1, 1) := by decide +kernel
theorem dX4_read_68 : decode cX4_read 68 = .ok (.invokevirtual 25, 3) := by decide +kernel
theorem dX4_read_71 : decode cX4_read 71 = .ok (.iload_n 2, 1) := by decide +kernel
theorem dX4_read_72 : decode cX4_read 72 = .ok (.if_icmp .le 7, 3) := by decide +kernel
theorem dX4_read_75 : decode cX4_read 75 = .ok (.iconst 1, 1) := by decide +kernel
theorem dX4_read_76 : decode cX4_read 76 = .ok (.goto 4, 3) := by decide +kernel
theorem dX4_read_79 : decode cX4_read 79 = .ok (.iconst 0, 1) := by decide +kernel
theorem dX4_read_80 : decode cX4_read 80 = .ok (.istore_n 3, 1) := by decide +kernel
theorem dX4_read_81 : decode cX4_read 81 = .ok (.iload_n 2, 1) := by decide +kernel
theorem dX4_read_82 : decode cX4_read 82 = .ok (.ifCond .eq 17, 3) := by decide +kernel
theorem dX4_read_85 : decode cX4_read 85 = .ok (.aload_n 0, 1) := by decide +kernel
theorem dX4_read_86 : decode cX4_read 86 = .ok (.getfield 41, 3) := by decide +kernel
theorem dX4_read_89 : decode cX4_read 89 = .ok (.ifCond .ne 14, 3) := by decide +kernel
theorem dX4_read_92 : decode cX4_read 92 = .ok (.aload_n 0, 1) := by decide +kernel
theorem dX4_read_93 : decode cX4_read 93 = .ok (.getfield 52, 3) := by decide +kernel
theorem dX4_read_96 : decode cX4_read 96 = .ok (.ifCond .ne 7, 3) := by decide +kernel
theorem dX4_read_99 : decode cX4_read 99 = .ok (.iconst 1, 1) := by decide +kernel
theorem dX4_read_100 : decode cX4_read 100 = .ok (.goto 4, 3) := by decide +kernel
theorem dX4_read_103 : decode cX4_read 103 = .ok (.iconst 0, 1) := by decide +kernel
theorem dX4_read_104 : decode cX4_read 104 = .ok (.istore 4, 2) := by decide +kernel
theorem dX4_read_106 : decode cX4_read 106 = .ok (.iload_n 3, 1) := by decide +kernel
theorem dX4_read_107 : decode cX4_read 107 = .ok (.ifCond .ne 8, 3) := by decide +kernel
theorem dX4_read_110 : decode cX4_read 110 = .ok (.iload 4, 2) := by decide +kernel
theorem dX4_read_112 : decode cX4_read 112 = .ok (.ifCond .ne 7, 3) := by decide +kernel
theorem dX4_read_115 : decode cX4_read 115 = .ok (.iconst (-1), 1) := by decide +kernel
theorem dX4_read_116 : decode cX4_read 116 = .ok (.iload_n 2, 1) := by decide +kernel
theorem dX4_read_117 : decode cX4_read 117 = .ok (.isub, 1) := by decide +kernel
theorem dX4_read_118 : decode cX4_read 118 = .ok (.ireturn, 1) := by decide +kernel
theorem dX4_read_119 : decode cX4_read 119 = .ok (.aload_n 0, 1) := by decide +kernel
theorem dX4_read_120 : decode cX4_read 120 = .ok (.iconst 1, 1) := by decide +kernel
theorem dX4_read_121 : decode cX4_read 121 = .ok (.invokevirtual 56, 3) := by decide +kernel
theorem dX4_read_124 : decode cX4_read 124 = .ok (.iconst 0, 1) := by decide +kernel
theorem dX4_read_125 : decode cX4_read 125 = .ok (.ireturn, 1) := by decide +kernel
theorem dX4_start_0 : decode cX4_start 0 = .ok (.aload_n 0, 1) := by decide +kernel
theorem dX4_start_1 : decode cX4_start 1 = .ok (.iconst 0, 1) := by decide +kernel
theorem dX4_start_2 : decode cX4_start 2 = .ok (.putfield 60, 3) := by decide +kernel
theorem dX4_start_5 : decode cX4_start 5 = .ok (.aload_n 0, 1) := by decide +kernel
theorem dX4_start_6 : decode cX4_start 6 = .ok (.iconst 0, 1) := by decide +kernel
theorem dX4_start_7 : decode cX4_start 7 = .ok (.putfield 63, 3) := by decide +kernel
theorem dX4_start_10 : decode cX4_start 10 = .ok (.aload_n 0, 1) := by decide +kernel
theorem dX4_start_11 : decode cX4_start 11 = .ok (.iconst 0, 1) := by decide +kernel
theorem dX4_start_12 : decode cX4_start 12 = .ok (.putfield 52, 3) := by decide +kernel
theorem dX4_start_15 : decode cX4_start 15 = .ok (.aload_n 0, 1) := by decide +kernel
theorem dX4_start_16 : decode cX4_start 16 = .ok (.iconst 0, 1) := by decide +kernel
theorem dX4_start_17 : decode cX4_start 17 = .ok (.putfield 66, 3) := by decide +kernel
theorem dX4_start_20 : decode cX4_start 20 = .ok (.aload_n 0, 1) := by decide +kernel
theorem dX4_start_21 : decode cX4_start 21 = .ok (.iconst 1, 1) := by decide +kernel
theorem dX4_start_22 : decode cX4_start 22 = .ok (.putfield 41, 3) := by decide +kernel
theorem dX4_start_25 : decode cX4_start 25 = .ok (.aload_n 0, 1) := by decide +kernel
theorem dX4_start_26 : decode cX4_start 26 = .ok (.getfield 18, 3) := by decide +kernel
theorem dX4_start_29 : decode cX4_start 29 = .ok (.iconst 0, 1) := by decide +kernel
theorem dX4_start_30 : decode cX4_start 30 = .ok (.iconst 0, 1) := by decide +kernel
theorem dX4_start_31 : decode cX4_start 31 = .ok (.bastore, 1) := by decide +kernel
theorem dX4_start_32 : decode cX4_start 32 = .ok (.return_, 1) := by decide +kernel
theorem dX4_takesThing_0 : decode cX4_takesThing 0 = .ok (.iload_n 1, 1) := by decide +kernel
theorem dX4_takesThing_1 : decode cX4_takesThing 1 = .ok (.bipush 45, 2) := by decide +kernel
theorem dX4_takesThing_3 : decode cX4_takesThing 3 = .ok (.if_icmp .ne 12, 3) := by decide +kernel
theorem dX4_takesThing_6 : decode cX4_takesThing 6 = .ok (.aload_n 0, 1) := by decide +kernel
theorem dX4_takesThing_7 : decode cX4_takesThing 7 = .ok (.sipush 2007, 3) := by decide +kernel
theorem dX4_takesThing_10 : decode cX4_takesThing 10 = .ok (.invokevirtual 69, 3) := by decide +kernel
theorem dX4_takesThing_13 : decode cX4_takesThing 13 = .ok (.iconst 1, 1) := by decide +kernel
theorem dX4_takesThing_14 : decode cX4_takesThing 14 = .ok (.ireturn, 1) := by decide +kernel
theorem dX4_takesThing_15 : decode cX4_takesThing 15 = .ok (.iload_n 1, 1) := by decide +kernel
theorem dX4_takesThing_16 : decode cX4_takesThing 16 = .ok (.bipush 40, 2) := by decide +kernel
theorem dX4_takesThing_18 : decode cX4_takesThing 18 = .ok (.if_icmp .ne 8, 3) := by decide +kernel
theorem dX4_takesThing_21 : decode cX4_takesThing 21 = .ok (.aload_n 0, 1) := by decide +kernel
theorem dX4_takesThing_22 : decode cX4_takesThing 22 = .ok (.invokevirtual 72, 3) := by decide +kernel
theorem dX4_takesThing_25 : decode cX4_takesThing 25 = .ok (.ireturn, 1) := by decide +kernel
theorem dX4_takesThing_26 : decode cX4_takesThing 26 = .ok (.ldc 76, 2) := by decide +kernel
theorem dX4_takesThing_28 : decode cX4_takesThing 28 = .ok (.iload_n 1, 1) := by decide +kernel
theorem dX4_takesThing_29 : decode cX4_takesThing 29 = .ok (.i2c, 1) := by decide +kernel
theorem dX4_takesThing_30 : decode cX4_takesThing 30 = .ok (.invokevirtual 78, 3) := by decide +kernel
theorem dX4_takesThing_33 : decode cX4_takesThing 33 = .ok (.istore_n 2, 1) := by decide +kernel
theorem dX4_takesThing_34 : decode cX4_takesThing 34 = .ok (.iload_n 1, 1) := by decide +kernel
theorem dX4_takesThing_35 : decode cX4_takesThing 35 = .ok (.invokestatic 83, 3) := by decide +kernel
theorem dX4_takesThing_38 : decode cX4_takesThing 38 = .ok (.istore_n 3, 1) := by decide +kernel
theorem dX4_takesThing_39 : decode cX4_takesThing 39 = .ok (.iload_n 2, 1) := by decide +kernel
theorem dX4_takesThing_40 : decode cX4_takesThing 40 = .ok (.ifCond .ge 9, 3) := by decide +kernel
theorem dX4_takesThing_43 : decode cX4_takesThing 43 = .ok (.iload_n 3, 1) := by decide +kernel
theorem dX4_takesThing_44 : decode cX4_takesThing 44 = .ok (.ifCond .ne 5, 3) := by decide +kernel
theorem dX4_takesThing_47 : decode cX4_takesThing 47 = .ok (.iconst 0, 1) := by decide +kernel
theorem dX4_takesThing_48 : decode cX4_takesThing 48 = .ok (.ireturn, 1) := by decide +kernel
theorem dX4_takesThing_49 : decode cX4_takesThing 49 = .ok (.aload_n 0, 1) := by decide +kernel
theorem dX4_takesThing_50 : decode cX4_takesThing 50 = .ok (.iload_n 3, 1) := by decide +kernel
theorem dX4_takesThing_51 : decode cX4_takesThing 51 = .ok (.ifCond .eq 10, 3) := by decide +kernel
theorem dX4_takesThing_54 : decode cX4_takesThing 54 = .ok (.iload_n 1, 1) := by decide +kernel
theorem dX4_takesThing_55 : decode cX4_takesThing 55 = .ok (.bipush 48, 2) := by decide +kernel
theorem dX4_takesThing_57 : decode cX4_takesThing 57 = .ok (.isub, 1) := by decide +kernel
theorem dX4_takesThing_58 : decode cX4_takesThing 58 = .ok (.goto 8, 3) := by decide +kernel
theorem dX4_takesThing_61 : decode cX4_takesThing 61 = .ok (.sipush 1000, 3) := by decide +kernel
theorem dX4_takesThing_64 : decode cX4_takesThing 64 = .ok (.iload_n 2, 1) := by decide +kernel
theorem dX4_takesThing_65 : decode cX4_takesThing 65 = .ok (.iadd, 1) := by decide +kernel
theorem dX4_takesThing_66 : decode cX4_takesThing 66 = .ok (.invokevirtual 88, 3) := by decide +kernel
theorem dX4_takesThing_69 : decode cX4_takesThing 69 = .ok (.aload_n 0, 1) := by decide +kernel
theorem dX4_takesThing_70 : decode cX4_takesThing 70 = .ok (.iload_n 3, 1) := by decide +kernel
theorem dX4_takesThing_71 : decode cX4_takesThing 71 = .ok (.ifCond .eq 7, 3) := by decide +kernel
theorem dX4_takesThing_74 : decode cX4_takesThing 74 = .ok (.iconst 1, 1) := by decide +kernel
theorem dX4_takesThing_75 : decode cX4_takesThing 75 = .ok (.goto 4, 3) := by decide +kernel
theorem dX4_takesThing_78 : decode cX4_takesThing 78 = .ok (.iconst 0, 1) := by decide +kernel
theorem dX4_takesThing_79 : decode cX4_takesThing 79 = .ok (.putfield 66, 3) := by decide +kernel
theorem dX4_takesThing_82 : decode cX4_takesThing 82 = .ok (.aload_n 0, 1) := by decide +kernel
theorem dX4_takesThing_83 : decode cX4_takesThing 83 = .ok (.iconst 0, 1) := by decide +kernel
theorem dX4_takesThing_84 : decode cX4_takesThing 84 = .ok (.putfield 41, 3) := by decide +kernel
theorem dX4_takesThing_87 : decode cX4_takesThing 87 = .ok (.iconst 1, 1) := by decide +kernel
theorem dX4_takesThing_88 : decode cX4_takesThing 88 = .ok (.ireturn, 1) := by decide +kernel
theorem dX4_takesBehind_0 : decode cX4_takesBehind 0 = .ok (.iload_n 1, 1) := by decide +kernel
theorem dX4_takesBehind_1 : decode cX4_takesBehind 1 = .ok (.invokestatic 83, 3) := by decide +kernel
theorem dX4_takesBehind_4 : decode cX4_takesBehind 4 = .ok (.ifCond .eq 12, 3) := by decide +kernel
theorem dX4_takesBehind_7 : decode cX4_takesBehind 7 = .ok (.aload_n 0, 1) := by decide +kernel
theorem dX4_takesBehind_8 : decode cX4_takesBehind 8 = .ok (.iload_n 1, 1) := by decide +kernel
theorem dX4_takesBehind_9 : decode cX4_takesBehind 9 = .ok (.bipush 48, 2) := by decide +kernel
theorem dX4_takesBehind_11 : decode cX4_takesBehind 11 = .ok (.isub, 1) := by decide +kernel
theorem dX4_takesBehind_12 : decode cX4_takesBehind 12 = .ok (.invokevirtual 91, 3) := by decide +kernel
theorem dX4_takesBehind_15 : decode cX4_takesBehind 15 = .ok (.ireturn, 1) := by decide +kernel
theorem dX4_takesBehind_16 : decode cX4_takesBehind 16 = .ok (.aload_n 0, 1) := by decide +kernel
theorem dX4_takesBehind_17 : decode cX4_takesBehind 17 = .ok (.iconst 0, 1) := by decide +kernel
theorem dX4_takesBehind_18 : decode cX4_takesBehind 18 = .ok (.putfield 66, 3) := by decide +kernel
theorem dX4_takesBehind_21 : decode cX4_takesBehind 21 = .ok (.iload_n 1, 1) := by decide +kernel
theorem dX4_takesBehind_22 : decode cX4_takesBehind 22 = .ok (.bipush 41, 2) := by decide +kernel
theorem dX4_takesBehind_24 : decode cX4_takesBehind 24 = .ok (.if_icmp .ne 8, 3) := by decide +kernel
theorem dX4_takesBehind_27 : decode cX4_takesBehind 27 = .ok (.aload_n 0, 1) := by decide +kernel
theorem dX4_takesBehind_28 : decode cX4_takesBehind 28 = .ok (.invokevirtual 94, 3) := by decide +kernel
theorem dX4_takesBehind_31 : decode cX4_takesBehind 31 = .ok (.ireturn, 1) := by decide +kernel
theorem dX4_takesBehind_32 : decode cX4_takesBehind 32 = .ok (.ldc 97, 2) := by decide +kernel
theorem dX4_takesBehind_34 : decode cX4_takesBehind 34 = .ok (.iload_n 1, 1) := by decide +kernel
theorem dX4_takesBehind_35 : decode cX4_takesBehind 35 = .ok (.i2c, 1) := by decide +kernel
theorem dX4_takesBehind_36 : decode cX4_takesBehind 36 = .ok (.invokevirtual 78, 3) := by decide +kernel
theorem dX4_takesBehind_39 : decode cX4_takesBehind 39 = .ok (.istore_n 2, 1) := by decide +kernel
theorem dX4_takesBehind_40 : decode cX4_takesBehind 40 = .ok (.iload_n 2, 1) := by decide +kernel
theorem dX4_takesBehind_41 : decode cX4_takesBehind 41 = .ok (.ifCond .lt 12, 3) := by decide +kernel
theorem dX4_takesBehind_44 : decode cX4_takesBehind 44 = .ok (.iload_n 2, 1) := by decide +kernel
theorem dX4_takesBehind_45 : decode cX4_takesBehind 45 = .ok (.iconst 3, 1) := by decide +kernel
theorem dX4_takesBehind_46 : decode cX4_takesBehind 46 = .ok (.if_icmp .ge 7, 3) := by decide +kernel
theorem dX4_takesBehind_49 : decode cX4_takesBehind 49 = .ok (.iconst 1, 1) := by decide +kernel
theorem dX4_takesBehind_50 : decode cX4_takesBehind 50 = .ok (.goto 4, 3) := by decide +kernel
theorem dX4_takesBehind_53 : decode cX4_takesBehind 53 = .ok (.iconst 0, 1) := by decide +kernel
theorem dX4_takesBehind_54 : decode cX4_takesBehind 54 = .ok (.istore_n 3, 1) := by decide +kernel
theorem dX4_takesBehind_55 : decode cX4_takesBehind 55 = .ok (.iload_n 2, 1) := by decide +kernel
theorem dX4_takesBehind_56 : decode cX4_takesBehind 56 = .ok (.ifCond .lt 19, 3) := by decide +kernel
theorem dX4_takesBehind_59 : decode cX4_takesBehind 59 = .ok (.iload_n 3, 1) := by decide +kernel
theorem dX4_takesBehind_60 : decode cX4_takesBehind 60 = .ok (.ifCond .eq 17, 3) := by decide +kernel
theorem dX4_takesBehind_63 : decode cX4_takesBehind 63 = .ok (.aload_n 0, 1) := by decide +kernel
theorem dX4_takesBehind_64 : decode cX4_takesBehind 64 = .ok (.getfield 18, 3) := by decide +kernel
theorem dX4_takesBehind_67 : decode cX4_takesBehind 67 = .ok (.aload_n 0, 1) := by decide +kernel
theorem dX4_takesBehind_68 : decode cX4_takesBehind 68 = .ok (.getfield 52, 3) := by decide +kernel
theorem dX4_takesBehind_71 : decode cX4_takesBehind 71 = .ok (.baload, 1) := by decide +kernel
theorem dX4_takesBehind_72 : decode cX4_takesBehind 72 = .ok (.ifCond .eq 5, 3) := by decide +kernel
theorem dX4_takesBehind_75 : decode cX4_takesBehind 75 = .ok (.iconst 0, 1) := by decide +kernel
theorem dX4_takesBehind_76 : decode cX4_takesBehind 76 = .ok (.ireturn, 1) := by decide +kernel
theorem dX4_takesBehind_77 : decode cX4_takesBehind 77 = .ok (.aload_n 0, 1) := by decide +kernel
theorem dX4_takesBehind_78 : decode cX4_takesBehind 78 = .ok (.getfield 18, 3) := by decide +kernel
theorem dX4_takesBehind_81 : decode cX4_takesBehind 81 = .ok (.aload_n 0, 1) := by decide +kernel
theorem dX4_takesBehind_82 : decode cX4_takesBehind 82 = .ok (.getfield 52, 3) := by decide +kernel
theorem dX4_takesBehind_85 : decode cX4_takesBehind 85 = .ok (.aload_n 0, 1) := by decide +kernel
theorem dX4_takesBehind_86 : decode cX4_takesBehind 86 = .ok (.getfield 18, 3) := by decide +kernel
theorem dX4_takesBehind_89 : decode cX4_takesBehind 89 = .ok (.aload_n 0, 1) := by decide +kernel
theorem dX4_takesBehind_90 : decode cX4_takesBehind 90 = .ok (.getfield 52, 3) := by decide +kernel
theorem dX4_takesBehind_93 : decode cX4_takesBehind 93 = .ok (.baload, 1) := by decide +kernel
theorem dX4_takesBehind_94 : decode cX4_takesBehind 94 = .ok (.ifCond .ne 7, 3) := by decide +kernel
theorem dX4_takesBehind_97 : decode cX4_takesBehind 97 = .ok (.iload_n 3, 1) := by decide +kernel
theorem dX4_takesBehind_98 : decode cX4_takesBehind 98 = .ok (.ifCond .eq 7, 3) := by decide +kernel
theorem dX4_takesBehind_101 : decode cX4_takesBehind 101 = .ok (.iconst 1, 1) := by decide +kernel
theorem dX4_takesBehind_102 : decode cX4_takesBehind 102 = .ok (.goto 4, 3) := by decide +kernel
theorem dX4_takesBehind_105 : decode cX4_takesBehind 105 = .ok (.iconst 0, 1) := by decide +kernel
theorem dX4_takesBehind_106 : decode cX4_takesBehind 106 = .ok (.bastore, 1) := by decide +kernel
theorem dX4_takesBehind_107 : decode cX4_takesBehind 107 = .ok (.aload_n 0, 1) := by decide +kernel
theorem dX4_takesBehind_108 : decode cX4_takesBehind 108 = .ok (.sipush 2000, 3) := by decide +kernel
theorem dX4_takesBehind_111 : decode cX4_takesBehind 111 = .ok (.iload_n 2, 1) := by decide +kernel
theorem dX4_takesBehind_112 : decode cX4_takesBehind 112 = .ok (.iadd, 1) := by decide +kernel
theorem dX4_takesBehind_113 : decode cX4_takesBehind 113 = .ok (.invokestatic 99, 3) := by decide +kernel
theorem dX4_takesBehind_116 : decode cX4_takesBehind 116 = .ok (.invokevirtual 56, 3) := by decide +kernel
theorem dX4_takesBehind_119 : decode cX4_takesBehind 119 = .ok (.aload_n 0, 1) := by decide +kernel
theorem dX4_takesBehind_120 : decode cX4_takesBehind 120 = .ok (.sipush 2000, 3) := by decide +kernel
theorem dX4_takesBehind_123 : decode cX4_takesBehind 123 = .ok (.iload_n 2, 1) := by decide +kernel
theorem dX4_takesBehind_124 : decode cX4_takesBehind 124 = .ok (.iadd, 1) := by decide +kernel
theorem dX4_takesBehind_125 : decode cX4_takesBehind 125 = .ok (.invokevirtual 69, 3) := by decide +kernel
theorem dX4_takesBehind_128 : decode cX4_takesBehind 128 = .ok (.aload_n 0, 1) := by decide +kernel
theorem dX4_takesBehind_129 : decode cX4_takesBehind 129 = .ok (.iconst 1, 1) := by decide +kernel
theorem dX4_takesBehind_130 : decode cX4_takesBehind 130 = .ok (.putfield 41, 3) := by decide +kernel
theorem dX4_takesBehind_133 : decode cX4_takesBehind 133 = .ok (.iconst 1, 1) := by decide +kernel
theorem dX4_takesBehind_134 : decode cX4_takesBehind 134 = .ok (.ireturn, 1) := by decide +kernel
theorem dX4_lengthens_0 : decode cX4_lengthens 0 = .ok (.aload_n 0, 1) := by decide +kernel
theorem dX4_lengthens_1 : decode cX4_lengthens 1 = .ok (.getfield 66, 3) := by decide +kernel
theorem dX4_lengthens_4 : decode cX4_lengthens 4 = .ok (.iconst 1, 1) := by decide +kernel
theorem dX4_lengthens_5 : decode cX4_lengthens 5 = .ok (.if_icmp .lt 19, 3) := by decide +kernel
theorem dX4_lengthens_8 : decode cX4_lengthens 8 = .ok (.aload_n 0, 1) := by decide +kernel
theorem dX4_lengthens_9 : decode cX4_lengthens 9 = .ok (.getfield 66, 3) := by decide +kernel
theorem dX4_lengthens_12 : decode cX4_lengthens 12 = .ok (.iconst 2, 1) := by decide +kernel
theorem dX4_lengthens_13 : decode cX4_lengthens 13 = .ok (.if_icmp .gt 11, 3) := by decide +kernel
theorem dX4_lengthens_16 : decode cX4_lengthens 16 = .ok (.aload_n 0, 1) := by decide +kernel
theorem dX4_lengthens_17 : decode cX4_lengthens 17 = .ok (.getfield 60, 3) := by decide +kernel
theorem dX4_lengthens_20 : decode cX4_lengthens 20 = .ok (.iconst 1, 1) := by decide +kernel
theorem dX4_lengthens_21 : decode cX4_lengthens 21 = .ok (.if_icmp .ge 5, 3) := by decide +kernel
theorem dX4_lengthens_24 : decode cX4_lengthens 24 = .ok (.iconst 0, 1) := by decide +kernel
theorem dX4_lengthens_25 : decode cX4_lengthens 25 = .ok (.ireturn, 1) := by decide +kernel
theorem dX4_lengthens_26 : decode cX4_lengthens 26 = .ok (.aload_n 0, 1) := by decide +kernel
theorem dX4_lengthens_27 : decode cX4_lengthens 27 = .ok (.getfield 9, 3) := by decide +kernel
theorem dX4_lengthens_30 : decode cX4_lengthens 30 = .ok (.aload_n 0, 1) := by decide +kernel
theorem dX4_lengthens_31 : decode cX4_lengthens 31 = .ok (.getfield 60, 3) := by decide +kernel
theorem dX4_lengthens_34 : decode cX4_lengthens 34 = .ok (.iconst 1, 1) := by decide +kernel
theorem dX4_lengthens_35 : decode cX4_lengthens 35 = .ok (.isub, 1) := by decide +kernel
theorem dX4_lengthens_36 : decode cX4_lengthens 36 = .ok (.aload_n 0, 1) := by decide +kernel
theorem dX4_lengthens_37 : decode cX4_lengthens 37 = .ok (.getfield 9, 3) := by decide +kernel
theorem dX4_lengthens_40 : decode cX4_lengthens 40 = .ok (.aload_n 0, 1) := by decide +kernel
theorem dX4_lengthens_41 : decode cX4_lengthens 41 = .ok (.getfield 60, 3) := by decide +kernel
theorem dX4_lengthens_44 : decode cX4_lengthens 44 = .ok (.iconst 1, 1) := by decide +kernel
theorem dX4_lengthens_45 : decode cX4_lengthens 45 = .ok (.isub, 1) := by decide +kernel
theorem dX4_lengthens_46 : decode cX4_lengthens 46 = .ok (.iaload, 1) := by decide +kernel
theorem dX4_lengthens_47 : decode cX4_lengthens 47 = .ok (.bipush 10, 2) := by decide +kernel
theorem dX4_lengthens_49 : decode cX4_lengthens 49 = .ok (.imul, 1) := by decide +kernel
theorem dX4_lengthens_50 : decode cX4_lengthens 50 = .ok (.iload_n 1, 1) := by decide +kernel
theorem dX4_lengthens_51 : decode cX4_lengthens 51 = .ok (.iadd, 1) := by decide +kernel
theorem dX4_lengthens_52 : decode cX4_lengthens 52 = .ok (.iastore, 1) := by decide +kernel
theorem dX4_lengthens_53 : decode cX4_lengthens 53 = .ok (.aload_n 0, 1) := by decide +kernel
theorem dX4_lengthens_54 : decode cX4_lengthens 54 = .ok (.dup, 1) := by decide +kernel
theorem dX4_lengthens_55 : decode cX4_lengthens 55 = .ok (.getfield 66, 3) := by decide +kernel
theorem dX4_lengthens_58 : decode cX4_lengthens 58 = .ok (.iconst 1, 1) := by decide +kernel
theorem dX4_lengthens_59 : decode cX4_lengthens 59 = .ok (.iadd, 1) := by decide +kernel
theorem dX4_lengthens_60 : decode cX4_lengthens 60 = .ok (.putfield 66, 3) := by decide +kernel
theorem dX4_lengthens_63 : decode cX4_lengthens 63 = .ok (.iconst 1, 1) := by decide +kernel
theorem dX4_lengthens_64 : decode cX4_lengthens 64 = .ok (.ireturn, 1) := by decide +kernel
theorem dX4_opens_0 : decode cX4_opens 0 = .ok (.aload_n 0, 1) := by decide +kernel
theorem dX4_opens_1 : decode cX4_opens 1 = .ok (.getfield 52, 3) := by decide +kernel
theorem dX4_opens_4 : decode cX4_opens 4 = .ok (.iconst 4, 1) := by decide +kernel
theorem dX4_opens_5 : decode cX4_opens 5 = .ok (.if_icmp .lt 5, 3) := by decide +kernel
theorem dX4_opens_8 : decode cX4_opens 8 = .ok (.iconst 0, 1) := by decide +kernel
theorem dX4_opens_9 : decode cX4_opens 9 = .ok (.ireturn, 1) := by decide +kernel
theorem dX4_opens_10 : decode cX4_opens 10 = .ok (.aload_n 0, 1) := by decide +kernel
theorem dX4_opens_11 : decode cX4_opens 11 = .ok (.dup, 1) := by decide +kernel
theorem dX4_opens_12 : decode cX4_opens 12 = .ok (.getfield 52, 3) := by decide +kernel
theorem dX4_opens_15 : decode cX4_opens 15 = .ok (.iconst 1, 1) := by decide +kernel
theorem dX4_opens_16 : decode cX4_opens 16 = .ok (.iadd, 1) := by decide +kernel
theorem dX4_opens_17 : decode cX4_opens 17 = .ok (.putfield 52, 3) := by decide +kernel
theorem dX4_opens_20 : decode cX4_opens 20 = .ok (.aload_n 0, 1) := by decide +kernel
theorem dX4_opens_21 : decode cX4_opens 21 = .ok (.getfield 18, 3) := by decide +kernel
theorem dX4_opens_24 : decode cX4_opens 24 = .ok (.aload_n 0, 1) := by decide +kernel
theorem dX4_opens_25 : decode cX4_opens 25 = .ok (.getfield 52, 3) := by decide +kernel
theorem dX4_opens_28 : decode cX4_opens 28 = .ok (.iconst 0, 1) := by decide +kernel
theorem dX4_opens_29 : decode cX4_opens 29 = .ok (.bastore, 1) := by decide +kernel
theorem dX4_opens_30 : decode cX4_opens 30 = .ok (.aload_n 0, 1) := by decide +kernel
theorem dX4_opens_31 : decode cX4_opens 31 = .ok (.sipush 2008, 3) := by decide +kernel
theorem dX4_opens_34 : decode cX4_opens 34 = .ok (.invokevirtual 69, 3) := by decide +kernel
theorem dX4_opens_37 : decode cX4_opens 37 = .ok (.iconst 1, 1) := by decide +kernel
theorem dX4_opens_38 : decode cX4_opens 38 = .ok (.ireturn, 1) := by decide +kernel
theorem dX4_closes_0 : decode cX4_closes 0 = .ok (.aload_n 0, 1) := by decide +kernel
theorem dX4_closes_1 : decode cX4_closes 1 = .ok (.getfield 52, 3) := by decide +kernel
theorem dX4_closes_4 : decode cX4_closes 4 = .ok (.iconst 1, 1) := by decide +kernel
theorem dX4_closes_5 : decode cX4_closes 5 = .ok (.if_icmp .ge 5, 3) := by decide +kernel
theorem dX4_closes_8 : decode cX4_closes 8 = .ok (.iconst 0, 1) := by decide +kernel
theorem dX4_closes_9 : decode cX4_closes 9 = .ok (.ireturn, 1) := by decide +kernel
theorem dX4_closes_10 : decode cX4_closes 10 = .ok (.aload_n 0, 1) := by decide +kernel
theorem dX4_closes_11 : decode cX4_closes 11 = .ok (.iconst 1, 1) := by decide +kernel
theorem dX4_closes_12 : decode cX4_closes 12 = .ok (.invokevirtual 56, 3) := by decide +kernel
theorem dX4_closes_15 : decode cX4_closes 15 = .ok (.aload_n 0, 1) := by decide +kernel
theorem dX4_closes_16 : decode cX4_closes 16 = .ok (.getfield 63, 3) := by decide +kernel
theorem dX4_closes_19 : decode cX4_closes 19 = .ok (.ifCond .le 13, 3) := by decide +kernel
theorem dX4_closes_22 : decode cX4_closes 22 = .ok (.aload_n 0, 1) := by decide +kernel
theorem dX4_closes_23 : decode cX4_closes 23 = .ok (.dup, 1) := by decide +kernel
theorem dX4_closes_24 : decode cX4_closes 24 = .ok (.getfield 63, 3) := by decide +kernel
theorem dX4_closes_27 : decode cX4_closes 27 = .ok (.iconst 1, 1) := by decide +kernel
theorem dX4_closes_28 : decode cX4_closes 28 = .ok (.isub, 1) := by decide +kernel
theorem dX4_closes_29 : decode cX4_closes 29 = .ok (.putfield 63, 3) := by decide +kernel
theorem dX4_closes_32 : decode cX4_closes 32 = .ok (.aload_n 0, 1) := by decide +kernel
theorem dX4_closes_33 : decode cX4_closes 33 = .ok (.dup, 1) := by decide +kernel
theorem dX4_closes_34 : decode cX4_closes 34 = .ok (.getfield 52, 3) := by decide +kernel
theorem dX4_closes_37 : decode cX4_closes 37 = .ok (.iconst 1, 1) := by decide +kernel
theorem dX4_closes_38 : decode cX4_closes 38 = .ok (.isub, 1) := by decide +kernel
theorem dX4_closes_39 : decode cX4_closes 39 = .ok (.putfield 52, 3) := by decide +kernel
theorem dX4_closes_42 : decode cX4_closes 42 = .ok (.iconst 1, 1) := by decide +kernel
theorem dX4_closes_43 : decode cX4_closes 43 = .ok (.ireturn, 1) := by decide +kernel
theorem dX4_strength_0 : decode cX4_strength 0 = .ok (.iload_n 0, 1) := by decide +kernel
theorem dX4_strength_1 : decode cX4_strength 1 = .ok (.sipush 2008, 3) := by decide +kernel
theorem dX4_strength_4 : decode cX4_strength 4 = .ok (.if_icmp .ne 5, 3) := by decide +kernel
theorem dX4_strength_7 : decode cX4_strength 7 = .ok (.iconst 0, 1) := by decide +kernel
theorem dX4_strength_8 : decode cX4_strength 8 = .ok (.ireturn, 1) := by decide +kernel
theorem dX4_strength_9 : decode cX4_strength 9 = .ok (.iload_n 0, 1) := by decide +kernel
theorem dX4_strength_10 : decode cX4_strength 10 = .ok (.sipush 2007, 3) := by decide +kernel
theorem dX4_strength_13 : decode cX4_strength 13 = .ok (.if_icmp .ne 5, 3) := by decide +kernel
theorem dX4_strength_16 : decode cX4_strength 16 = .ok (.iconst 4, 1) := by decide +kernel
theorem dX4_strength_17 : decode cX4_strength 17 = .ok (.ireturn, 1) := by decide +kernel
theorem dX4_strength_18 : decode cX4_strength 18 = .ok (.iload_n 0, 1) := by decide +kernel
theorem dX4_strength_19 : decode cX4_strength 19 = .ok (.sipush 2000, 3) := by decide +kernel
theorem dX4_strength_22 : decode cX4_strength 22 = .ok (.isub, 1) := by decide +kernel
theorem dX4_strength_23 : decode cX4_strength 23 = .ok (.istore_n 1, 1) := by decide +kernel
theorem dX4_strength_24 : decode cX4_strength 24 = .ok (.iload_n 1, 1) := by decide +kernel
theorem dX4_strength_25 : decode cX4_strength 25 = .ok (.iconst 3, 1) := by decide +kernel
theorem dX4_strength_26 : decode cX4_strength 26 = .ok (.if_icmp .ge 5, 3) := by decide +kernel
theorem dX4_strength_29 : decode cX4_strength 29 = .ok (.iconst 1, 1) := by decide +kernel
theorem dX4_strength_30 : decode cX4_strength 30 = .ok (.ireturn, 1) := by decide +kernel
theorem dX4_strength_31 : decode cX4_strength 31 = .ok (.iload_n 1, 1) := by decide +kernel
theorem dX4_strength_32 : decode cX4_strength 32 = .ok (.iconst 5, 1) := by decide +kernel
theorem dX4_strength_33 : decode cX4_strength 33 = .ok (.if_icmp .ge 7, 3) := by decide +kernel
theorem dX4_strength_36 : decode cX4_strength 36 = .ok (.iconst 2, 1) := by decide +kernel
theorem dX4_strength_37 : decode cX4_strength 37 = .ok (.goto 4, 3) := by decide +kernel
theorem dX4_strength_40 : decode cX4_strength 40 = .ok (.iconst 3, 1) := by decide +kernel
theorem dX4_strength_41 : decode cX4_strength 41 = .ok (.ireturn, 1) := by decide +kernel
theorem dX4_settle_0 : decode cX4_settle 0 = .ok (.aload_n 0, 1) := by decide +kernel
theorem dX4_settle_1 : decode cX4_settle 1 = .ok (.getfield 63, 3) := by decide +kernel
theorem dX4_settle_4 : decode cX4_settle 4 = .ok (.ifCond .le 47, 3) := by decide +kernel
theorem dX4_settle_7 : decode cX4_settle 7 = .ok (.aload_n 0, 1) := by decide +kernel
theorem dX4_settle_8 : decode cX4_settle 8 = .ok (.getfield 15, 3) := by decide +kernel
theorem dX4_settle_11 : decode cX4_settle 11 = .ok (.aload_n 0, 1) := by decide +kernel
theorem dX4_settle_12 : decode cX4_settle 12 = .ok (.getfield 63, 3) := by decide +kernel
theorem dX4_settle_15 : decode cX4_settle 15 = .ok (.iconst 1, 1) := by decide +kernel
theorem dX4_settle_16 : decode cX4_settle 16 = .ok (.isub, 1) := by decide +kernel
theorem dX4_settle_17 : decode cX4_settle 17 = .ok (.iaload, 1) := by decide +kernel
theorem dX4_settle_18 : decode cX4_settle 18 = .ok (.invokestatic 99, 3) := by decide +kernel
theorem dX4_settle_21 : decode cX4_settle 21 = .ok (.iload_n 1, 1) := by decide +kernel
theorem dX4_settle_22 : decode cX4_settle 22 = .ok (.if_icmp .lt 29, 3) := by decide +kernel
theorem dX4_settle_25 : decode cX4_settle 25 = .ok (.aload_n 0, 1) := by decide +kernel
theorem dX4_settle_26 : decode cX4_settle 26 = .ok (.dup, 1) := by decide +kernel
theorem dX4_settle_27 : decode cX4_settle 27 = .ok (.getfield 63, 3) := by decide +kernel
theorem dX4_settle_30 : decode cX4_settle 30 = .ok (.iconst 1, 1) := by decide +kernel
theorem dX4_settle_31 : decode cX4_settle 31 = .ok (.isub, 1) := by decide +kernel
theorem dX4_settle_32 : decode cX4_settle 32 = .ok (.putfield 63, 3) := by decide +kernel
theorem dX4_settle_35 : decode cX4_settle 35 = .ok (.aload_n 0, 1) := by decide +kernel
theorem dX4_settle_36 : decode cX4_settle 36 = .ok (.aload_n 0, 1) := by decide +kernel
theorem dX4_settle_37 : decode cX4_settle 37 = .ok (.getfield 15, 3) := by decide +kernel
theorem dX4_settle_40 : decode cX4_settle 40 = .ok (.aload_n 0, 1) := by decide +kernel
theorem dX4_settle_41 : decode cX4_settle 41 = .ok (.getfield 63, 3) := by decide +kernel
theorem dX4_settle_44 : decode cX4_settle 44 = .ok (.iaload, 1) := by decide +kernel
theorem dX4_settle_45 : decode cX4_settle 45 = .ok (.invokevirtual 88, 3) := by decide +kernel
theorem dX4_settle_48 : decode cX4_settle 48 = .ok (.goto (-48), 3) := by decide +kernel
theorem dX4_settle_51 : decode cX4_settle 51 = .ok (.return_, 1) := by decide +kernel
theorem dX4_await_0 : decode cX4_await 0 = .ok (.aload_n 0, 1) := by decide +kernel
theorem dX4_await_1 : decode cX4_await 1 = .ok (.getfield 63, 3) := by decide +kernel
theorem dX4_await_4 : decode cX4_await 4 = .ok (.bipush 40, 2) := by decide +kernel
theorem dX4_await_6 : decode cX4_await 6 = .ok (.if_icmp .ge 23, 3) := by decide +kernel
theorem dX4_await_9 : decode cX4_await 9 = .ok (.aload_n 0, 1) := by decide +kernel
theorem dX4_await_10 : decode cX4_await 10 = .ok (.getfield 15, 3) := by decide +kernel
theorem dX4_await_13 : decode cX4_await 13 = .ok (.aload_n 0, 1) := by decide +kernel
theorem dX4_await_14 : decode cX4_await 14 = .ok (.getfield 63, 3) := by decide +kernel
theorem dX4_await_17 : decode cX4_await 17 = .ok (.iload_n 1, 1) := by decide +kernel
theorem dX4_await_18 : decode cX4_await 18 = .ok (.iastore, 1) := by decide +kernel
theorem dX4_await_19 : decode cX4_await 19 = .ok (.aload_n 0, 1) := by decide +kernel
theorem dX4_await_20 : decode cX4_await 20 = .ok (.dup, 1) := by decide +kernel
theorem dX4_await_21 : decode cX4_await 21 = .ok (.getfield 63, 3) := by decide +kernel
theorem dX4_await_24 : decode cX4_await 24 = .ok (.iconst 1, 1) := by decide +kernel
theorem dX4_await_25 : decode cX4_await 25 = .ok (.iadd, 1) := by decide +kernel
theorem dX4_await_26 : decode cX4_await 26 = .ok (.putfield 63, 3) := by decide +kernel
theorem dX4_await_29 : decode cX4_await 29 = .ok (.return_, 1) := by decide +kernel
theorem dX4_put_0 : decode cX4_put 0 = .ok (.aload_n 0, 1) := by decide +kernel
theorem dX4_put_1 : decode cX4_put 1 = .ok (.getfield 60, 3) := by decide +kernel
theorem dX4_put_4 : decode cX4_put 4 = .ok (.bipush 40, 2) := by decide +kernel
theorem dX4_put_6 : decode cX4_put 6 = .ok (.if_icmp .ge 23, 3) := by decide +kernel
theorem dX4_put_9 : decode cX4_put 9 = .ok (.aload_n 0, 1) := by decide +kernel
theorem dX4_put_10 : decode cX4_put 10 = .ok (.getfield 9, 3) := by decide +kernel
theorem dX4_put_13 : decode cX4_put 13 = .ok (.aload_n 0, 1) := by decide +kernel
theorem dX4_put_14 : decode cX4_put 14 = .ok (.getfield 60, 3) := by decide +kernel
theorem dX4_put_17 : decode cX4_put 17 = .ok (.iload_n 1, 1) := by decide +kernel
theorem dX4_put_18 : decode cX4_put 18 = .ok (.iastore, 1) := by decide +kernel
theorem dX4_put_19 : decode cX4_put 19 = .ok (.aload_n 0, 1) := by decide +kernel
theorem dX4_put_20 : decode cX4_put 20 = .ok (.dup, 1) := by decide +kernel
theorem dX4_put_21 : decode cX4_put 21 = .ok (.getfield 60, 3) := by decide +kernel
theorem dX4_put_24 : decode cX4_put 24 = .ok (.iconst 1, 1) := by decide +kernel
theorem dX4_put_25 : decode cX4_put 25 = .ok (.iadd, 1) := by decide +kernel
theorem dX4_put_26 : decode cX4_put 26 = .ok (.putfield 60, 3) := by decide +kernel
theorem dX4_put_29 : decode cX4_put 29 = .ok (.return_, 1) := by decide +kernel
theorem dX6_init_0 : decode cX6_init 0 = .ok (.aload_n 0, 1) := by decide +kernel
theorem dX6_init_1 : decode cX6_init 1 = .ok (.invokespecial 3, 3) := by decide +kernel
theorem dX6_init_4 : decode cX6_init 4 = .ok (.aload_n 0, 1) := by decide +kernel
theorem dX6_init_5 : decode cX6_init 5 = .ok (.bipush 80, 2) := by decide +kernel
theorem dX6_init_7 : decode cX6_init 7 = .ok (.newarray .int, 2) := by decide +kernel
theorem dX6_init_9 : decode cX6_init 9 = .ok (.putfield 11, 3) := by decide +kernel
theorem dX6_init_12 : decode cX6_init 12 = .ok (.return_, 1) := by decide +kernel
theorem dX6_addFour_0 : decode cX6_addFour 0 = .ok (.aload_n 0, 1) := by decide +kernel
theorem dX6_addFour_1 : decode cX6_addFour 1 = .ok (.getfield 15, 3) := by decide +kernel
theorem dX6_addFour_4 : decode cX6_addFour 4 = .ok (.iconst 4, 1) := by decide +kernel
theorem dX6_addFour_5 : decode cX6_addFour 5 = .ok (.iadd, 1) := by decide +kernel
theorem dX6_addFour_6 : decode cX6_addFour 6 = .ok (.bipush 80, 2) := by decide +kernel
theorem dX6_addFour_8 : decode cX6_addFour 8 = .ok (.if_icmp .le 5, 3) := by decide +kernel
theorem dX6_addFour_11 : decode cX6_addFour 11 = .ok (.iconst 0, 1) := by decide +kernel
theorem dX6_addFour_12 : decode cX6_addFour 12 = .ok (.ireturn, 1) := by decide +kernel
theorem dX6_addFour_13 : decode cX6_addFour 13 = .ok (.iconst 0, 1) := by decide +kernel
theorem dX6_addFour_14 : decode cX6_addFour 14 = .ok (.istore_n 2, 1) := by decide +kernel
theorem dX6_addFour_15 : decode cX6_addFour 15 = .ok (.iload_n 2, 1) := by decide +kernel
theorem dX6_addFour_16 : decode cX6_addFour 16 = .ok (.iconst 4, 1) := by decide +kernel
theorem dX6_addFour_17 : decode cX6_addFour 17 = .ok (.if_icmp .ge 33, 3) := by decide +kernel
theorem dX6_addFour_20 : decode cX6_addFour 20 = .ok (.aload_n 0, 1) := by decide +kernel
theorem dX6_addFour_21 : decode cX6_addFour 21 = .ok (.getfield 11, 3) := by decide +kernel
theorem dX6_addFour_24 : decode cX6_addFour 24 = .ok (.aload_n 0, 1) := by decide +kernel
theorem dX6_addFour_25 : decode cX6_addFour 25 = .ok (.getfield 15, 3) := by decide +kernel
theorem dX6_addFour_28 : decode cX6_addFour 28 = .ok (.iload_n 2, 1) := by decide +kernel
theorem dX6_addFour_29 : decode cX6_addFour 29 = .ok (.iadd, 1) := by decide +kernel
theorem dX6_addFour_30 : decode cX6_addFour 30 = .ok (.iload_n 1, 1) := by decide +kernel
theorem dX6_addFour_31 : decode cX6_addFour 31 = .ok (.bipush 24, 2) := by decide +kernel
theorem dX6_addFour_33 : decode cX6_addFour 33 = .ok (.bipush 8, 2) := by decide +kernel
theorem dX6_addFour_35 : decode cX6_addFour 35 = .ok (.iload_n 2, 1) := by decide +kernel
theorem dX6_addFour_36 : decode cX6_addFour 36 = .ok (.imul, 1) := by decide +kernel
theorem dX6_addFour_37 : decode cX6_addFour 37 = .ok (.isub, 1) := by decide +kernel
theorem dX6_addFour_38 : decode cX6_addFour 38 = .ok (.iushr, 1) := by decide +kernel
theorem dX6_addFour_39 : decode cX6_addFour 39 = .ok (.sipush 255, 3) := by decide +kernel
theorem dX6_addFour_42 : decode cX6_addFour 42 = .ok (.iand, 1) := by decide +kernel
theorem dX6_addFour_43 : decode cX6_addFour 43 = .ok (.iastore, 1) := by decide +kernel
theorem dX6_addFour_44 : decode cX6_addFour 44 = .ok (.iinc 2 1, 3) := by decide +kernel
theorem dX6_addFour_47 : decode cX6_addFour 47 = .ok (.goto (-32), 3) := by decide +kernel
theorem dX6_addFour_50 : decode cX6_addFour 50 = .ok (.aload_n 0, 1) := by decide +kernel
theorem dX6_addFour_51 : decode cX6_addFour 51 = .ok (.dup, 1) := by decide +kernel
theorem dX6_addFour_52 : decode cX6_addFour 52 = .ok (.getfield 15, 3) := by decide +kernel
theorem dX6_addFour_55 : decode cX6_addFour 55 = .ok (.iconst 4, 1) := by decide +kernel
theorem dX6_addFour_56 : decode cX6_addFour 56 = .ok (.iadd, 1) := by decide +kernel
theorem dX6_addFour_57 : decode cX6_addFour 57 = .ok (.putfield 15, 3) := by decide +kernel
theorem dX6_addFour_60 : decode cX6_addFour 60 = .ok (.iconst 1, 1) := by decide +kernel
theorem dX6_addFour_61 : decode cX6_addFour 61 = .ok (.ireturn, 1) := by decide +kernel
theorem dX6_cut_0 : decode cX6_cut 0 = .ok (.iload_n 1, 1) := by decide +kernel
theorem dX6_cut_1 : decode cX6_cut 1 = .ok (.ifCond .lt 11, 3) := by decide +kernel
theorem dX6_cut_4 : decode cX6_cut 4 = .ok (.iload_n 1, 1) := by decide +kernel
theorem dX6_cut_5 : decode cX6_cut 5 = .ok (.aload_n 0, 1) := by decide +kernel
theorem dX6_cut_6 : decode cX6_cut 6 = .ok (.getfield 15, 3) := by decide +kernel
theorem dX6_cut_9 : decode cX6_cut 9 = .ok (.if_icmp .le 5, 3) := by decide +kernel
theorem dX6_cut_12 : decode cX6_cut 12 = .ok (.iconst 0, 1) := by decide +kernel
theorem dX6_cut_13 : decode cX6_cut 13 = .ok (.ireturn, 1) := by decide +kernel
theorem dX6_cut_14 : decode cX6_cut 14 = .ok (.aload_n 0, 1) := by decide +kernel
theorem dX6_cut_15 : decode cX6_cut 15 = .ok (.iload_n 1, 1) := by decide +kernel
theorem dX6_cut_16 : decode cX6_cut 16 = .ok (.putfield 15, 3) := by decide +kernel
theorem dX6_cut_19 : decode cX6_cut 19 = .ok (.iconst 1, 1) := by decide +kernel
theorem dX6_cut_20 : decode cX6_cut 20 = .ok (.ireturn, 1) := by decide +kernel
theorem dX6_clear_0 : decode cX6_clear 0 = .ok (.aload_n 0, 1) := by decide +kernel
theorem dX6_clear_1 : decode cX6_clear 1 = .ok (.iconst 0, 1) := by decide +kernel
theorem dX6_clear_2 : decode cX6_clear 2 = .ok (.putfield 15, 3) := by decide +kernel
theorem dX6_clear_5 : decode cX6_clear 5 = .ok (.return_, 1) := by decide +kernel
theorem dX6_length_0 : decode cX6_length 0 = .ok (.aload_n 0, 1) := by decide +kernel
theorem dX6_length_1 : decode cX6_length 1 = .ok (.getfield 15, 3) := by decide +kernel
theorem dX6_length_4 : decode cX6_length 4 = .ok (.ireturn, 1) := by decide +kernel
theorem dX6_at_0 : decode cX6_at 0 = .ok (.iload_n 1, 1) := by decide +kernel
theorem dX6_at_1 : decode cX6_at 1 = .ok (.ifCond .lt 11, 3) := by decide +kernel
theorem dX6_at_4 : decode cX6_at 4 = .ok (.iload_n 1, 1) := by decide +kernel
theorem dX6_at_5 : decode cX6_at 5 = .ok (.aload_n 0, 1) := by decide +kernel
theorem dX6_at_6 : decode cX6_at 6 = .ok (.getfield 15, 3) := by decide +kernel
theorem dX6_at_9 : decode cX6_at 9 = .ok (.if_icmp .lt 7, 3) := by decide +kernel
theorem dX6_at_12 : decode cX6_at 12 = .ok (.iconst (-1), 1) := by decide +kernel
theorem dX6_at_13 : decode cX6_at 13 = .ok (.goto 9, 3) := by decide +kernel
theorem dX6_at_16 : decode cX6_at 16 = .ok (.aload_n 0, 1) := by decide +kernel
theorem dX6_at_17 : decode cX6_at 17 = .ok (.getfield 11, 3) := by decide +kernel
theorem dX6_at_20 : decode cX6_at 20 = .ok (.iload_n 1, 1) := by decide +kernel
theorem dX6_at_21 : decode cX6_at 21 = .ok (.iaload, 1) := by decide +kernel
theorem dX6_at_22 : decode cX6_at 22 = .ok (.ireturn, 1) := by decide +kernel
theorem dX7_init_0 : decode cX7_init 0 = .ok (.aload_n 0, 1) := by decide +kernel
theorem dX7_init_1 : decode cX7_init 1 = .ok (.invokespecial 3, 3) := by decide +kernel
theorem dX7_init_4 : decode cX7_init 4 = .ok (.aload_n 0, 1) := by decide +kernel
theorem dX7_init_5 : decode cX7_init 5 = .ok (.bipush 10, 2) := by decide +kernel
theorem dX7_init_7 : decode cX7_init 7 = .ok (.newarray .long, 2) := by decide +kernel
theorem dX7_init_9 : decode cX7_init 9 = .ok (.putfield 9, 3) := by decide +kernel
theorem dX7_init_12 : decode cX7_init 12 = .ok (.return_, 1) := by decide +kernel
theorem dX7_clear_0 : decode cX7_clear 0 = .ok (.aload_n 0, 1) := by decide +kernel
theorem dX7_clear_1 : decode cX7_clear 1 = .ok (.iconst 0, 1) := by decide +kernel
theorem dX7_clear_2 : decode cX7_clear 2 = .ok (.putfield 15, 3) := by decide +kernel
theorem dX7_clear_5 : decode cX7_clear 5 = .ok (.return_, 1) := by decide +kernel
theorem dX7_add_0 : decode cX7_add 0 = .ok (.aload_n 0, 1) := by decide +kernel
theorem dX7_add_1 : decode cX7_add 1 = .ok (.getfield 15, 3) := by decide +kernel
theorem dX7_add_4 : decode cX7_add 4 = .ok (.aload_n 0, 1) := by decide +kernel
theorem dX7_add_5 : decode cX7_add 5 = .ok (.getfield 9, 3) := by decide +kernel
theorem dX7_add_8 : decode cX7_add 8 = .ok (.arraylength, 1) := by decide +kernel
theorem dX7_add_9 : decode cX7_add 9 = .ok (.if_icmp .ge 23, 3) := by decide +kernel
theorem dX7_add_12 : decode cX7_add 12 = .ok (.aload_n 0, 1) := by decide +kernel
theorem dX7_add_13 : decode cX7_add 13 = .ok (.getfield 9, 3) := by decide +kernel
theorem dX7_add_16 : decode cX7_add 16 = .ok (.aload_n 0, 1) := by decide +kernel
theorem dX7_add_17 : decode cX7_add 17 = .ok (.getfield 15, 3) := by decide +kernel
theorem dX7_add_20 : decode cX7_add 20 = .ok (.lload_n 1, 1) := by decide +kernel
theorem dX7_add_21 : decode cX7_add 21 = .ok (.lastore, 1) := by decide +kernel
theorem dX7_add_22 : decode cX7_add 22 = .ok (.aload_n 0, 1) := by decide +kernel
theorem dX7_add_23 : decode cX7_add 23 = .ok (.dup, 1) := by decide +kernel
theorem dX7_add_24 : decode cX7_add 24 = .ok (.getfield 15, 3) := by decide +kernel
theorem dX7_add_27 : decode cX7_add 27 = .ok (.iconst 1, 1) := by decide +kernel
theorem dX7_add_28 : decode cX7_add 28 = .ok (.iadd, 1) := by decide +kernel
theorem dX7_add_29 : decode cX7_add 29 = .ok (.putfield 15, 3) := by decide +kernel
theorem dX7_add_32 : decode cX7_add 32 = .ok (.return_, 1) := by decide +kernel
theorem dX7_tell_0 : decode cX7_tell 0 = .ok (.aload_n 0, 1) := by decide +kernel
theorem dX7_tell_1 : decode cX7_tell 1 = .ok (.invokevirtual 19, 3) := by decide +kernel
theorem dX7_tell_4 : decode cX7_tell 4 = .ok (.aload_n 0, 1) := by decide +kernel
theorem dX7_tell_5 : decode cX7_tell 5 = .ok (.lload_n 1, 1) := by decide +kernel
theorem dX7_tell_6 : decode cX7_tell 6 = .ok (.invokevirtual 22, 3) := by decide +kernel
theorem dX7_tell_9 : decode cX7_tell 9 = .ok (.return_, 1) := by decide +kernel
theorem dX7_tell__0 : decode cX7_tell_ 0 = .ok (.aload_n 0, 1) := by decide +kernel
theorem dX7_tell__1 : decode cX7_tell_ 1 = .ok (.invokevirtual 19, 3) := by decide +kernel
theorem dX7_tell__4 : decode cX7_tell_ 4 = .ok (.aload_n 0, 1) := by decide +kernel
theorem dX7_tell__5 : decode cX7_tell_ 5 = .ok (.lload_n 1, 1) := by decide +kernel
theorem dX7_tell__6 : decode cX7_tell_ 6 = .ok (.invokevirtual 22, 3) := by decide +kernel
theorem dX7_tell__9 : decode cX7_tell_ 9 = .ok (.aload_n 0, 1) := by decide +kernel
theorem dX7_tell__10 : decode cX7_tell_ 10 = .ok (.lload_n 3, 1) := by decide +kernel
theorem dX7_tell__11 : decode cX7_tell_ 11 = .ok (.invokevirtual 22, 3) := by decide +kernel
theorem dX7_tell__14 : decode cX7_tell_ 14 = .ok (.return_, 1) := by decide +kernel
theorem dX8_init_0 : decode cX8_init 0 = .ok (.aload_n 0, 1) := by decide +kernel
theorem dX8_init_1 : decode cX8_init 1 = .ok (.invokespecial 3, 3) := by decide +kernel
theorem dX8_init_4 : decode cX8_init 4 = .ok (.aload_n 0, 1) := by decide +kernel
theorem dX8_init_5 : decode cX8_init 5 = .ok (.bipush 8, 2) := by decide +kernel
theorem dX8_init_7 : decode cX8_init 7 = .ok (.newarray .int, 2) := by decide +kernel
theorem dX8_init_9 : decode cX8_init 9 = .ok (.putfield 9, 3) := by decide +kernel
theorem dX8_init_12 : decode cX8_init 12 = .ok (.aload_n 0, 1) := by decide +kernel
theorem dX8_init_13 : decode cX8_init 13 = .ok (.bipush 8, 2) := by decide +kernel
theorem dX8_init_15 : decode cX8_init 15 = .ok (.newarray .int, 2) := by decide +kernel
theorem dX8_init_17 : decode cX8_init 17 = .ok (.putfield 15, 3) := by decide +kernel
theorem dX8_init_20 : decode cX8_init 20 = .ok (.aload_n 0, 1) := by decide +kernel
theorem dX8_init_21 : decode cX8_init 21 = .ok (.bipush 8, 2) := by decide +kernel
theorem dX8_init_23 : decode cX8_init 23 = .ok (.newarray .int, 2) := by decide +kernel
theorem dX8_init_25 : decode cX8_init 25 = .ok (.putfield 18, 3) := by decide +kernel
theorem dX8_init_28 : decode cX8_init 28 = .ok (.aload_n 0, 1) := by decide +kernel
theorem dX8_init_29 : decode cX8_init 29 = .ok (.bipush 8, 2) := by decide +kernel
theorem dX8_init_31 : decode cX8_init 31 = .ok (.newarray .int, 2) := by decide +kernel
theorem dX8_init_33 : decode cX8_init 33 = .ok (.putfield 21, 3) := by decide +kernel
theorem dX8_init_36 : decode cX8_init 36 = .ok (.aload_n 0, 1) := by decide +kernel
theorem dX8_init_37 : decode cX8_init 37 = .ok (.bipush 8, 2) := by decide +kernel
theorem dX8_init_39 : decode cX8_init 39 = .ok (.newarray .int, 2) := by decide +kernel
theorem dX8_init_41 : decode cX8_init 41 = .ok (.putfield 24, 3) := by decide +kernel
theorem dX8_init_44 : decode cX8_init 44 = .ok (.aload_n 0, 1) := by decide +kernel
theorem dX8_init_45 : decode cX8_init 45 = .ok (.bipush 8, 2) := by decide +kernel
theorem dX8_init_47 : decode cX8_init 47 = .ok (.newarray .int, 2) := by decide +kernel
theorem dX8_init_49 : decode cX8_init 49 = .ok (.putfield 27, 3) := by decide +kernel
theorem dX8_init_52 : decode cX8_init 52 = .ok (.aload_n 0, 1) := by decide +kernel
theorem dX8_init_53 : decode cX8_init 53 = .ok (.bipush 10, 2) := by decide +kernel
theorem dX8_init_55 : decode cX8_init 55 = .ok (.newarray .int, 2) := by decide +kernel
theorem dX8_init_57 : decode cX8_init 57 = .ok (.putfield 30, 3) := by decide +kernel
theorem dX8_init_60 : decode cX8_init 60 = .ok (.aload_n 0, 1) := by decide +kernel
theorem dX8_init_61 : decode cX8_init 61 = .ok (.bipush 10, 2) := by decide +kernel
theorem dX8_init_63 : decode cX8_init 63 = .ok (.newarray .int, 2) := by decide +kernel
theorem dX8_init_65 : decode cX8_init 65 = .ok (.putfield 33, 3) := by decide +kernel
theorem dX8_init_68 : decode cX8_init 68 = .ok (.aload_n 0, 1) := by decide +kernel
theorem dX8_init_69 : decode cX8_init 69 = .ok (.bipush 10, 2) := by decide +kernel
theorem dX8_init_71 : decode cX8_init 71 = .ok (.newarray .int, 2) := by decide +kernel
theorem dX8_init_73 : decode cX8_init 73 = .ok (.putfield 36, 3) := by decide +kernel
theorem dX8_init_76 : decode cX8_init 76 = .ok (.aload_n 0, 1) := by decide +kernel
theorem dX8_init_77 : decode cX8_init 77 = .ok (.bipush 10, 2) := by decide +kernel
theorem dX8_init_79 : decode cX8_init 79 = .ok (.newarray .int, 2) := by decide +kernel
theorem dX8_init_81 : decode cX8_init 81 = .ok (.putfield 39, 3) := by decide +kernel
theorem dX8_init_84 : decode cX8_init 84 = .ok (.aload_n 0, 1) := by decide +kernel
theorem dX8_init_85 : decode cX8_init 85 = .ok (.bipush 10, 2) := by decide +kernel
theorem dX8_init_87 : decode cX8_init 87 = .ok (.newarray .int, 2) := by decide +kernel
theorem dX8_init_89 : decode cX8_init 89 = .ok (.putfield 42, 3) := by decide +kernel
theorem dX8_init_92 : decode cX8_init 92 = .ok (.aload_n 0, 1) := by decide +kernel
theorem dX8_init_93 : decode cX8_init 93 = .ok (.bipush 10, 2) := by decide +kernel
theorem dX8_init_95 : decode cX8_init 95 = .ok (.newarray .int, 2) := by decide +kernel
theorem dX8_init_97 : decode cX8_init 97 = .ok (.putfield 45, 3) := by decide +kernel
theorem dX8_init_100 : decode cX8_init 100 = .ok (.aload_n 0, 1) := by decide +kernel
theorem dX8_init_101 : decode cX8_init 101 = .ok (.bipush 64, 2) := by decide +kernel
theorem dX8_init_103 : decode cX8_init 103 = .ok (.newarray .int, 2) := by decide +kernel
theorem dX8_init_105 : decode cX8_init 105 = .ok (.putfield 48, 3) := by decide +kernel
theorem dX8_init_108 : decode cX8_init 108 = .ok (.aload_n 0, 1) := by decide +kernel
theorem dX8_init_109 : decode cX8_init 109 = .ok (.bipush 18, 2) := by decide +kernel
theorem dX8_init_111 : decode cX8_init 111 = .ok (.newarray .int, 2) := by decide +kernel
theorem dX8_init_113 : decode cX8_init 113 = .ok (.putfield 51, 3) := by decide +kernel
theorem dX8_init_116 : decode cX8_init 116 = .ok (.aload_n 0, 1) := by decide +kernel
theorem dX8_init_117 : decode cX8_init 117 = .ok (.iconst 4, 1) := by decide +kernel
theorem dX8_init_118 : decode cX8_init 118 = .ok (.newarray .int, 2) := by decide +kernel
theorem dX8_init_120 : decode cX8_init 120 = .ok (.putfield 54, 3) := by decide +kernel
theorem dX8_init_123 : decode cX8_init 123 = .ok (.aload_n 0, 1) := by decide +kernel
theorem dX8_init_124 : decode cX8_init 124 = .ok (.getfield 54, 3) := by decide +kernel
theorem dX8_init_127 : decode cX8_init 127 = .ok (.iconst 1, 1) := by decide +kernel
theorem dX8_init_128 : decode cX8_init 128 = .ok (.iconst 1, 1) := by decide +kernel
theorem dX8_init_129 : decode cX8_init 129 = .ok (.iastore, 1) := by decide +kernel
theorem dX8_init_130 : decode cX8_init 130 = .ok (.aload_n 0, 1) := by decide +kernel
theorem dX8_init_131 : decode cX8_init 131 = .ok (.iconst 1, 1) := by decide +kernel
theorem dX8_init_132 : decode cX8_init 132 = .ok (.putfield 57, 3) := by decide +kernel
theorem dX8_init_135 : decode cX8_init 135 = .ok (.return_, 1) := by decide +kernel
theorem dX8_copyFrom_0 : decode cX8_copyFrom 0 = .ok (.aload_n 1, 1) := by decide +kernel
theorem dX8_copyFrom_1 : decode cX8_copyFrom 1 = .ok (.getfield 9, 3) := by decide +kernel
theorem dX8_copyFrom_4 : decode cX8_copyFrom 4 = .ok (.iconst 0, 1) := by decide +kernel
theorem dX8_copyFrom_5 : decode cX8_copyFrom 5 = .ok (.aload_n 0, 1) := by decide +kernel
theorem dX8_copyFrom_6 : decode cX8_copyFrom 6 = .ok (.getfield 9, 3) := by decide +kernel
theorem dX8_copyFrom_9 : decode cX8_copyFrom 9 = .ok (.iconst 0, 1) := by decide +kernel
theorem dX8_copyFrom_10 : decode cX8_copyFrom 10 = .ok (.bipush 8, 2) := by decide +kernel
theorem dX8_copyFrom_12 : decode cX8_copyFrom 12 = .ok (.invokestatic 61, 3) := by decide +kernel
theorem dX8_copyFrom_15 : decode cX8_copyFrom 15 = .ok (.aload_n 1, 1) := by decide +kernel
theorem dX8_copyFrom_16 : decode cX8_copyFrom 16 = .ok (.getfield 15, 3) := by decide +kernel
theorem dX8_copyFrom_19 : decode cX8_copyFrom 19 = .ok (.iconst 0, 1) := by decide +kernel
theorem dX8_copyFrom_20 : decode cX8_copyFrom 20 = .ok (.aload_n 0, 1) := by decide +kernel
theorem dX8_copyFrom_21 : decode cX8_copyFrom 21 = .ok (.getfield 15, 3) := by decide +kernel
theorem dX8_copyFrom_24 : decode cX8_copyFrom 24 = .ok (.iconst 0, 1) := by decide +kernel
theorem dX8_copyFrom_25 : decode cX8_copyFrom 25 = .ok (.bipush 8, 2) := by decide +kernel
theorem dX8_copyFrom_27 : decode cX8_copyFrom 27 = .ok (.invokestatic 61, 3) := by decide +kernel
theorem dX8_copyFrom_30 : decode cX8_copyFrom 30 = .ok (.aload_n 1, 1) := by decide +kernel
theorem dX8_copyFrom_31 : decode cX8_copyFrom 31 = .ok (.getfield 18, 3) := by decide +kernel
theorem dX8_copyFrom_34 : decode cX8_copyFrom 34 = .ok (.iconst 0, 1) := by decide +kernel
theorem dX8_copyFrom_35 : decode cX8_copyFrom 35 = .ok (.aload_n 0, 1) := by decide +kernel
theorem dX8_copyFrom_36 : decode cX8_copyFrom 36 = .ok (.getfield 18, 3) := by decide +kernel
theorem dX8_copyFrom_39 : decode cX8_copyFrom 39 = .ok (.iconst 0, 1) := by decide +kernel
theorem dX8_copyFrom_40 : decode cX8_copyFrom 40 = .ok (.bipush 8, 2) := by decide +kernel
theorem dX8_copyFrom_42 : decode cX8_copyFrom 42 = .ok (.invokestatic 61, 3) := by decide +kernel
theorem dX8_copyFrom_45 : decode cX8_copyFrom 45 = .ok (.aload_n 1, 1) := by decide +kernel
theorem dX8_copyFrom_46 : decode cX8_copyFrom 46 = .ok (.getfield 21, 3) := by decide +kernel
theorem dX8_copyFrom_49 : decode cX8_copyFrom 49 = .ok (.iconst 0, 1) := by decide +kernel
theorem dX8_copyFrom_50 : decode cX8_copyFrom 50 = .ok (.aload_n 0, 1) := by decide +kernel
theorem dX8_copyFrom_51 : decode cX8_copyFrom 51 = .ok (.getfield 21, 3) := by decide +kernel
theorem dX8_copyFrom_54 : decode cX8_copyFrom 54 = .ok (.iconst 0, 1) := by decide +kernel
theorem dX8_copyFrom_55 : decode cX8_copyFrom 55 = .ok (.bipush 8, 2) := by decide +kernel
theorem dX8_copyFrom_57 : decode cX8_copyFrom 57 = .ok (.invokestatic 61, 3) := by decide +kernel
theorem dX8_copyFrom_60 : decode cX8_copyFrom 60 = .ok (.aload_n 1, 1) := by decide +kernel
theorem dX8_copyFrom_61 : decode cX8_copyFrom 61 = .ok (.getfield 24, 3) := by decide +kernel
theorem dX8_copyFrom_64 : decode cX8_copyFrom 64 = .ok (.iconst 0, 1) := by decide +kernel
theorem dX8_copyFrom_65 : decode cX8_copyFrom 65 = .ok (.aload_n 0, 1) := by decide +kernel
theorem dX8_copyFrom_66 : decode cX8_copyFrom 66 = .ok (.getfield 24, 3) := by decide +kernel
theorem dX8_copyFrom_69 : decode cX8_copyFrom 69 = .ok (.iconst 0, 1) := by decide +kernel
theorem dX8_copyFrom_70 : decode cX8_copyFrom 70 = .ok (.bipush 8, 2) := by decide +kernel
theorem dX8_copyFrom_72 : decode cX8_copyFrom 72 = .ok (.invokestatic 61, 3) := by decide +kernel
theorem dX8_copyFrom_75 : decode cX8_copyFrom 75 = .ok (.aload_n 1, 1) := by decide +kernel
theorem dX8_copyFrom_76 : decode cX8_copyFrom 76 = .ok (.getfield 30, 3) := by decide +kernel
theorem dX8_copyFrom_79 : decode cX8_copyFrom 79 = .ok (.iconst 0, 1) := by decide +kernel
theorem dX8_copyFrom_80 : decode cX8_copyFrom 80 = .ok (.aload_n 0, 1) := by decide +kernel
theorem dX8_copyFrom_81 : decode cX8_copyFrom 81 = .ok (.getfield 30, 3) := by decide +kernel
theorem dX8_copyFrom_84 : decode cX8_copyFrom 84 = .ok (.iconst 0, 1) := by decide +kernel
theorem dX8_copyFrom_85 : decode cX8_copyFrom 85 = .ok (.bipush 10, 2) := by decide +kernel
theorem dX8_copyFrom_87 : decode cX8_copyFrom 87 = .ok (.invokestatic 61, 3) := by decide +kernel
theorem dX8_copyFrom_90 : decode cX8_copyFrom 90 = .ok (.aload_n 1, 1) := by decide +kernel
theorem dX8_copyFrom_91 : decode cX8_copyFrom 91 = .ok (.getfield 33, 3) := by decide +kernel
theorem dX8_copyFrom_94 : decode cX8_copyFrom 94 = .ok (.iconst 0, 1) := by decide +kernel
theorem dX8_copyFrom_95 : decode cX8_copyFrom 95 = .ok (.aload_n 0, 1) := by decide +kernel
theorem dX8_copyFrom_96 : decode cX8_copyFrom 96 = .ok (.getfield 33, 3) := by decide +kernel
theorem dX8_copyFrom_99 : decode cX8_copyFrom 99 = .ok (.iconst 0, 1) := by decide +kernel
theorem dX8_copyFrom_100 : decode cX8_copyFrom 100 = .ok (.bipush 10, 2) := by decide +kernel
theorem dX8_copyFrom_102 : decode cX8_copyFrom 102 = .ok (.invokestatic 61, 3) := by decide +kernel
theorem dX8_copyFrom_105 : decode cX8_copyFrom 105 = .ok (.aload_n 1, 1) := by decide +kernel
theorem dX8_copyFrom_106 : decode cX8_copyFrom 106 = .ok (.getfield 36, 3) := by decide +kernel
theorem dX8_copyFrom_109 : decode cX8_copyFrom 109 = .ok (.iconst 0, 1) := by decide +kernel
theorem dX8_copyFrom_110 : decode cX8_copyFrom 110 = .ok (.aload_n 0, 1) := by decide +kernel
theorem dX8_copyFrom_111 : decode cX8_copyFrom 111 = .ok (.getfield 36, 3) := by decide +kernel
theorem dX8_copyFrom_114 : decode cX8_copyFrom 114 = .ok (.iconst 0, 1) := by decide +kernel
theorem dX8_copyFrom_115 : decode cX8_copyFrom 115 = .ok (.bipush 10, 2) := by decide +kernel
theorem dX8_copyFrom_117 : decode cX8_copyFrom 117 = .ok (.invokestatic 61, 3) := by decide +kernel
theorem dX8_copyFrom_120 : decode cX8_copyFrom 120 = .ok (.aload_n 1, 1) := by decide +kernel
theorem dX8_copyFrom_121 : decode cX8_copyFrom 121 = .ok (.getfield 39, 3) := by decide +kernel
theorem dX8_copyFrom_124 : decode cX8_copyFrom 124 = .ok (.iconst 0, 1) := by decide +kernel
theorem dX8_copyFrom_125 : decode cX8_copyFrom 125 = .ok (.aload_n 0, 1) := by decide +kernel
theorem dX8_copyFrom_126 : decode cX8_copyFrom 126 = .ok (.getfield 39, 3) := by decide +kernel
theorem dX8_copyFrom_129 : decode cX8_copyFrom 129 = .ok (.iconst 0, 1) := by decide +kernel
theorem dX8_copyFrom_130 : decode cX8_copyFrom 130 = .ok (.bipush 10, 2) := by decide +kernel
theorem dX8_copyFrom_132 : decode cX8_copyFrom 132 = .ok (.invokestatic 61, 3) := by decide +kernel
theorem dX8_copyFrom_135 : decode cX8_copyFrom 135 = .ok (.aload_n 1, 1) := by decide +kernel
theorem dX8_copyFrom_136 : decode cX8_copyFrom 136 = .ok (.getfield 42, 3) := by decide +kernel
theorem dX8_copyFrom_139 : decode cX8_copyFrom 139 = .ok (.iconst 0, 1) := by decide +kernel
theorem dX8_copyFrom_140 : decode cX8_copyFrom 140 = .ok (.aload_n 0, 1) := by decide +kernel
theorem dX8_copyFrom_141 : decode cX8_copyFrom 141 = .ok (.getfield 42, 3) := by decide +kernel
theorem dX8_copyFrom_144 : decode cX8_copyFrom 144 = .ok (.iconst 0, 1) := by decide +kernel
theorem dX8_copyFrom_145 : decode cX8_copyFrom 145 = .ok (.bipush 10, 2) := by decide +kernel
theorem dX8_copyFrom_147 : decode cX8_copyFrom 147 = .ok (.invokestatic 61, 3) := by decide +kernel
theorem dX8_copyFrom_150 : decode cX8_copyFrom 150 = .ok (.aload_n 1, 1) := by decide +kernel
theorem dX8_copyFrom_151 : decode cX8_copyFrom 151 = .ok (.getfield 45, 3) := by decide +kernel
theorem dX8_copyFrom_154 : decode cX8_copyFrom 154 = .ok (.iconst 0, 1) := by decide +kernel
theorem dX8_copyFrom_155 : decode cX8_copyFrom 155 = .ok (.aload_n 0, 1) := by decide +kernel
theorem dX8_copyFrom_156 : decode cX8_copyFrom 156 = .ok (.getfield 45, 3) := by decide +kernel
theorem dX8_copyFrom_159 : decode cX8_copyFrom 159 = .ok (.iconst 0, 1) := by decide +kernel
theorem dX8_copyFrom_160 : decode cX8_copyFrom 160 = .ok (.bipush 10, 2) := by decide +kernel
theorem dX8_copyFrom_162 : decode cX8_copyFrom 162 = .ok (.invokestatic 61, 3) := by decide +kernel
theorem dX8_copyFrom_165 : decode cX8_copyFrom 165 = .ok (.aload_n 1, 1) := by decide +kernel
theorem dX8_copyFrom_166 : decode cX8_copyFrom 166 = .ok (.getfield 48, 3) := by decide +kernel
theorem dX8_copyFrom_169 : decode cX8_copyFrom 169 = .ok (.iconst 0, 1) := by decide +kernel
theorem dX8_copyFrom_170 : decode cX8_copyFrom 170 = .ok (.aload_n 0, 1) := by decide +kernel
theorem dX8_copyFrom_171 : decode cX8_copyFrom 171 = .ok (.getfield 48, 3) := by decide +kernel
theorem dX8_copyFrom_174 : decode cX8_copyFrom 174 = .ok (.iconst 0, 1) := by decide +kernel
theorem dX8_copyFrom_175 : decode cX8_copyFrom 175 = .ok (.bipush 64, 2) := by decide +kernel
theorem dX8_copyFrom_177 : decode cX8_copyFrom 177 = .ok (.invokestatic 61, 3) := by decide +kernel
theorem dX8_copyFrom_180 : decode cX8_copyFrom 180 = .ok (.aload_n 1, 1) := by decide +kernel
theorem dX8_copyFrom_181 : decode cX8_copyFrom 181 = .ok (.getfield 51, 3) := by decide +kernel
theorem dX8_copyFrom_184 : decode cX8_copyFrom 184 = .ok (.iconst 0, 1) := by decide +kernel
theorem dX8_copyFrom_185 : decode cX8_copyFrom 185 = .ok (.aload_n 0, 1) := by decide +kernel
theorem dX8_copyFrom_186 : decode cX8_copyFrom 186 = .ok (.getfield 51, 3) := by decide +kernel
theorem dX8_copyFrom_189 : decode cX8_copyFrom 189 = .ok (.iconst 0, 1) := by decide +kernel
theorem dX8_copyFrom_190 : decode cX8_copyFrom 190 = .ok (.bipush 18, 2) := by decide +kernel
theorem dX8_copyFrom_192 : decode cX8_copyFrom 192 = .ok (.invokestatic 61, 3) := by decide +kernel
theorem dX8_copyFrom_195 : decode cX8_copyFrom 195 = .ok (.aload_n 1, 1) := by decide +kernel
theorem dX8_copyFrom_196 : decode cX8_copyFrom 196 = .ok (.getfield 54, 3) := by decide +kernel
theorem dX8_copyFrom_199 : decode cX8_copyFrom 199 = .ok (.iconst 0, 1) := by decide +kernel
theorem dX8_copyFrom_200 : decode cX8_copyFrom 200 = .ok (.aload_n 0, 1) := by decide +kernel
theorem dX8_copyFrom_201 : decode cX8_copyFrom 201 = .ok (.getfield 54, 3) := by decide +kernel
theorem dX8_copyFrom_204 : decode cX8_copyFrom 204 = .ok (.iconst 0, 1) := by decide +kernel
theorem dX8_copyFrom_205 : decode cX8_copyFrom 205 = .ok (.iconst 4, 1) := by decide +kernel
theorem dX8_copyFrom_206 : decode cX8_copyFrom 206 = .ok (.invokestatic 61, 3) := by decide +kernel
theorem dX8_copyFrom_209 : decode cX8_copyFrom 209 = .ok (.aload_n 0, 1) := by decide +kernel
theorem dX8_copyFrom_210 : decode cX8_copyFrom 210 = .ok (.aload_n 1, 1) := by decide +kernel
theorem dX8_copyFrom_211 : decode cX8_copyFrom 211 = .ok (.getfield 67, 3) := by decide +kernel
theorem dX8_copyFrom_214 : decode cX8_copyFrom 214 = .ok (.putfield 67, 3) := by decide +kernel
theorem dX8_copyFrom_217 : decode cX8_copyFrom 217 = .ok (.aload_n 0, 1) := by decide +kernel
theorem dX8_copyFrom_218 : decode cX8_copyFrom 218 = .ok (.aload_n 1, 1) := by decide +kernel
theorem dX8_copyFrom_219 : decode cX8_copyFrom 219 = .ok (.getfield 70, 3) := by decide +kernel
theorem dX8_copyFrom_222 : decode cX8_copyFrom 222 = .ok (.putfield 70, 3) := by decide +kernel
theorem dX8_copyFrom_225 : decode cX8_copyFrom 225 = .ok (.aload_n 0, 1) := by decide +kernel
theorem dX8_copyFrom_226 : decode cX8_copyFrom 226 = .ok (.aload_n 1, 1) := by decide +kernel
theorem dX8_copyFrom_227 : decode cX8_copyFrom 227 = .ok (.getfield 73, 3) := by decide +kernel
theorem dX8_copyFrom_230 : decode cX8_copyFrom 230 = .ok (.putfield 73, 3) := by decide +kernel
theorem dX8_copyFrom_233 : decode cX8_copyFrom 233 = .ok (.aload_n 0, 1) := by decide +kernel
theorem dX8_copyFrom_234 : decode cX8_copyFrom 234 = .ok (.aload_n 1, 1) := by decide +kernel
theorem dX8_copyFrom_235 : decode cX8_copyFrom 235 = .ok (.getfield 76, 3) := by decide +kernel
theorem dX8_copyFrom_238 : decode cX8_copyFrom 238 = .ok (.putfield 76, 3) := by decide +kernel
theorem dX8_copyFrom_241 : decode cX8_copyFrom 241 = .ok (.aload_n 0, 1) := by decide +kernel
theorem dX8_copyFrom_242 : decode cX8_copyFrom 242 = .ok (.aload_n 1, 1) := by decide +kernel
theorem dX8_copyFrom_243 : decode cX8_copyFrom 243 = .ok (.getfield 57, 3) := by decide +kernel
theorem dX8_copyFrom_246 : decode cX8_copyFrom 246 = .ok (.putfield 57, 3) := by decide +kernel
theorem dX8_copyFrom_249 : decode cX8_copyFrom 249 = .ok (.return_, 1) := by decide +kernel
theorem dX8_isPerson_0 : decode cX8_isPerson 0 = .ok (.iload_n 1, 1) := by decide +kernel
theorem dX8_isPerson_1 : decode cX8_isPerson 1 = .ok (.ifCond .lt 15, 3) := by decide +kernel
theorem dX8_isPerson_4 : decode cX8_isPerson 4 = .ok (.iload_n 1, 1) := by decide +kernel
theorem dX8_isPerson_5 : decode cX8_isPerson 5 = .ok (.aload_n 0, 1) := by decide +kernel
theorem dX8_isPerson_6 : decode cX8_isPerson 6 = .ok (.getfield 67, 3) := by decide +kernel
theorem dX8_isPerson_9 : decode cX8_isPerson 9 = .ok (.if_icmp .ge 7, 3) := by decide +kernel
theorem dX8_isPerson_12 : decode cX8_isPerson 12 = .ok (.iconst 1, 1) := by decide +kernel
theorem dX8_isPerson_13 : decode cX8_isPerson 13 = .ok (.goto 4, 3) := by decide +kernel
theorem dX8_isPerson_16 : decode cX8_isPerson 16 = .ok (.iconst 0, 1) := by decide +kernel
theorem dX8_isPerson_17 : decode cX8_isPerson 17 = .ok (.ireturn, 1) := by decide +kernel
theorem dX8_isDebt_0 : decode cX8_isDebt 0 = .ok (.iload_n 1, 1) := by decide +kernel
theorem dX8_isDebt_1 : decode cX8_isDebt 1 = .ok (.ifCond .lt 15, 3) := by decide +kernel
theorem dX8_isDebt_4 : decode cX8_isDebt 4 = .ok (.iload_n 1, 1) := by decide +kernel
theorem dX8_isDebt_5 : decode cX8_isDebt 5 = .ok (.aload_n 0, 1) := by decide +kernel
theorem dX8_isDebt_6 : decode cX8_isDebt 6 = .ok (.getfield 70, 3) := by decide +kernel
theorem dX8_isDebt_9 : decode cX8_isDebt 9 = .ok (.if_icmp .ge 7, 3) := by decide +kernel
theorem dX8_isDebt_12 : decode cX8_isDebt 12 = .ok (.iconst 1, 1) := by decide +kernel
theorem dX8_isDebt_13 : decode cX8_isDebt 13 = .ok (.goto 4, 3) := by decide +kernel
theorem dX8_isDebt_16 : decode cX8_isDebt 16 = .ok (.iconst 0, 1) := by decide +kernel
theorem dX8_isDebt_17 : decode cX8_isDebt 17 = .ok (.ireturn, 1) := by decide +kernel
theorem dX8_isOpen_0 : decode cX8_isOpen 0 = .ok (.aload_n 0, 1) := by decide +kernel
theorem dX8_isOpen_1 : decode cX8_isOpen 1 = .ok (.iload_n 1, 1) := by decide +kernel
theorem dX8_isOpen_2 : decode cX8_isOpen 2 = .ok (.invokevirtual 79, 3) := by decide +kernel
theorem dX8_isOpen_5 : decode cX8_isOpen 5 = .ok (.ifCond .eq 16, 3) := by decide +kernel
theorem dX8_isOpen_8 : decode cX8_isOpen 8 = .ok (.aload_n 0, 1) := by decide +kernel
theorem dX8_isOpen_9 : decode cX8_isOpen 9 = .ok (.getfield 42, 3) := by decide +kernel
theorem dX8_isOpen_12 : decode cX8_isOpen 12 = .ok (.iload_n 1, 1) := by decide +kernel
theorem dX8_isOpen_13 : decode cX8_isOpen 13 = .ok (.iaload, 1) := by decide +kernel
theorem dX8_isOpen_14 : decode cX8_isOpen 14 = .ok (.ifCond .ne 7, 3) := by decide +kernel
theorem dX8_isOpen_17 : decode cX8_isOpen 17 = .ok (.iconst 1, 1) := by decide +kernel
theorem dX8_isOpen_18 : decode cX8_isOpen 18 = .ok (.goto 4, 3) := by decide +kernel
theorem dX8_isOpen_21 : decode cX8_isOpen 21 = .ok (.iconst 0, 1) := by decide +kernel
theorem dX8_isOpen_22 : decode cX8_isOpen 22 = .ok (.ireturn, 1) := by decide +kernel
theorem dX8_addPerson_0 : decode cX8_addPerson 0 = .ok (.aload_n 0, 1) := by decide +kernel
theorem dX8_addPerson_1 : decode cX8_addPerson 1 = .ok (.getfield 67, 3) := by decide +kernel
theorem dX8_addPerson_4 : decode cX8_addPerson 4 = .ok (.bipush 8, 2) := by decide +kernel
theorem dX8_addPerson_6 : decode cX8_addPerson 6 = .ok (.if_icmp .lt 5, 3) := by decide +kernel
theorem dX8_addPerson_9 : decode cX8_addPerson 9 = .ok (.iconst 0, 1) := by decide +kernel
theorem dX8_addPerson_10 : decode cX8_addPerson 10 = .ok (.ireturn, 1) := by decide +kernel
theorem dX8_addPerson_11 : decode cX8_addPerson 11 = .ok (.aload_n 0, 1) := by decide +kernel
theorem dX8_addPerson_12 : decode cX8_addPerson 12 = .ok (.getfield 9, 3) := by decide +kernel
theorem dX8_addPerson_15 : decode cX8_addPerson 15 = .ok (.aload_n 0, 1) := by decide +kernel
theorem dX8_addPerson_16 : decode cX8_addPerson 16 = .ok (.getfield 67, 3) := by decide +kernel
theorem dX8_addPerson_19 : decode cX8_addPerson 19 = .ok (.iload_n 1, 1) := by decide +kernel
theorem dX8_addPerson_20 : decode cX8_addPerson 20 = .ok (.iastore, 1) := by decide +kernel
theorem dX8_addPerson_21 : decode cX8_addPerson 21 = .ok (.aload_n 0, 1) := by decide +kernel
theorem dX8_addPerson_22 : decode cX8_addPerson 22 = .ok (.getfield 15, 3) := by decide +kernel
theorem dX8_addPerson_25 : decode cX8_addPerson 25 = .ok (.aload_n 0, 1) := by decide +kernel
theorem dX8_addPerson_26 : decode cX8_addPerson 26 = .ok (.getfield 67, 3) := by decide +kernel
theorem dX8_addPerson_29 : decode cX8_addPerson 29 = .ok (.iload_n 2, 1) := by decide +kernel
theorem dX8_addPerson_30 : decode cX8_addPerson 30 = .ok (.iastore, 1) := by decide +kernel
theorem dX8_addPerson_31 : decode cX8_addPerson 31 = .ok (.aload_n 0, 1) := by decide +kernel
theorem dX8_addPerson_32 : decode cX8_addPerson 32 = .ok (.getfield 18, 3) := by decide +kernel
theorem dX8_addPerson_35 : decode cX8_addPerson 35 = .ok (.aload_n 0, 1) := by decide +kernel
theorem dX8_addPerson_36 : decode cX8_addPerson 36 = .ok (.getfield 67, 3) := by decide +kernel
theorem dX8_addPerson_39 : decode cX8_addPerson 39 = .ok (.iload_n 3, 1) := by decide +kernel
theorem dX8_addPerson_40 : decode cX8_addPerson 40 = .ok (.ifCond .eq 7, 3) := by decide +kernel
theorem dX8_addPerson_43 : decode cX8_addPerson 43 = .ok (.iconst 1, 1) := by decide +kernel
theorem dX8_addPerson_44 : decode cX8_addPerson 44 = .ok (.goto 4, 3) := by decide +kernel
theorem dX8_addPerson_47 : decode cX8_addPerson 47 = .ok (.iconst 0, 1) := by decide +kernel
theorem dX8_addPerson_48 : decode cX8_addPerson 48 = .ok (.iastore, 1) := by decide +kernel
theorem dX8_addPerson_49 : decode cX8_addPerson 49 = .ok (.aload_n 0, 1) := by decide +kernel
theorem dX8_addPerson_50 : decode cX8_addPerson 50 = .ok (.getfield 21, 3) := by decide +kernel
theorem dX8_addPerson_53 : decode cX8_addPerson 53 = .ok (.aload_n 0, 1) := by decide +kernel
theorem dX8_addPerson_54 : decode cX8_addPerson 54 = .ok (.getfield 67, 3) := by decide +kernel
theorem dX8_addPerson_57 : decode cX8_addPerson 57 = .ok (.iconst 0, 1) := by decide +kernel
theorem dX8_addPerson_58 : decode cX8_addPerson 58 = .ok (.iastore, 1) := by decide +kernel
theorem dX8_addPerson_59 : decode cX8_addPerson 59 = .ok (.aload_n 0, 1) := by decide +kernel
theorem dX8_addPerson_60 : decode cX8_addPerson 60 = .ok (.getfield 24, 3) := by decide +kernel
theorem dX8_addPerson_63 : decode cX8_addPerson 63 = .ok (.aload_n 0, 1) := by decide +kernel
theorem dX8_addPerson_64 : decode cX8_addPerson 64 = .ok (.getfield 67, 3) := by decide +kernel
theorem dX8_addPerson_67 : decode cX8_addPerson 67 = .ok (.iload_n 1, 1) := by decide +kernel
theorem dX8_addPerson_68 : decode cX8_addPerson 68 = .ok (.iastore, 1) := by decide +kernel
theorem dX8_addPerson_69 : decode cX8_addPerson 69 = .ok (.aload_n 0, 1) := by decide +kernel
theorem dX8_addPerson_70 : decode cX8_addPerson 70 = .ok (.dup, 1) := by decide +kernel
theorem dX8_addPerson_71 : decode cX8_addPerson 71 = .ok (.getfield 67, 3) := by decide +kernel
theorem dX8_addPerson_74 : decode cX8_addPerson 74 = .ok (.iconst 1, 1) := by decide +kernel
theorem dX8_addPerson_75 : decode cX8_addPerson 75 = .ok (.iadd, 1) := by decide +kernel
theorem dX8_addPerson_76 : decode cX8_addPerson 76 = .ok (.putfield 67, 3) := by decide +kernel
theorem dX8_addPerson_79 : decode cX8_addPerson 79 = .ok (.iconst 1, 1) := by decide +kernel
theorem dX8_addPerson_80 : decode cX8_addPerson 80 = .ok (.ireturn, 1) := by decide +kernel
theorem dX8_addDebt_0 : decode cX8_addDebt 0 = .ok (.aload_n 0, 1) := by decide +kernel
theorem dX8_addDebt_1 : decode cX8_addDebt 1 = .ok (.getfield 70, 3) := by decide +kernel
theorem dX8_addDebt_4 : decode cX8_addDebt 4 = .ok (.bipush 10, 2) := by decide +kernel
theorem dX8_addDebt_6 : decode cX8_addDebt 6 = .ok (.if_icmp .lt 5, 3) := by decide +kernel
theorem dX8_addDebt_9 : decode cX8_addDebt 9 = .ok (.iconst 0, 1) := by decide +kernel
theorem dX8_addDebt_10 : decode cX8_addDebt 10 = .ok (.ireturn, 1) := by decide +kernel
theorem dX8_addDebt_11 : decode cX8_addDebt 11 = .ok (.aload_n 0, 1) := by decide +kernel
theorem dX8_addDebt_12 : decode cX8_addDebt 12 = .ok (.getfield 30, 3) := by decide +kernel
theorem dX8_addDebt_15 : decode cX8_addDebt 15 = .ok (.aload_n 0, 1) := by decide +kernel
theorem dX8_addDebt_16 : decode cX8_addDebt 16 = .ok (.getfield 70, 3) := by decide +kernel
theorem dX8_addDebt_19 : decode cX8_addDebt 19 = .ok (.iload_n 1, 1) := by decide +kernel
theorem dX8_addDebt_20 : decode cX8_addDebt 20 = .ok (.iastore, 1) := by decide +kernel
theorem dX8_addDebt_21 : decode cX8_addDebt 21 = .ok (.aload_n 0, 1) := by decide +kernel
theorem dX8_addDebt_22 : decode cX8_addDebt 22 = .ok (.getfield 33, 3) := by decide +kernel
theorem dX8_addDebt_25 : decode cX8_addDebt 25 = .ok (.aload_n 0, 1) := by decide +kernel
theorem dX8_addDebt_26 : decode cX8_addDebt 26 = .ok (.getfield 70, 3) := by decide +kernel
theorem dX8_addDebt_29 : decode cX8_addDebt 29 = .ok (.iload_n 2, 1) := by decide +kernel
theorem dX8_addDebt_30 : decode cX8_addDebt 30 = .ok (.iastore, 1) := by decide +kernel
theorem dX8_addDebt_31 : decode cX8_addDebt 31 = .ok (.aload_n 0, 1) := by decide +kernel
theorem dX8_addDebt_32 : decode cX8_addDebt 32 = .ok (.getfield 36, 3) := by decide +kernel
theorem dX8_addDebt_35 : decode cX8_addDebt 35 = .ok (.aload_n 0, 1) := by decide +kernel
theorem dX8_addDebt_36 : decode cX8_addDebt 36 = .ok (.getfield 70, 3) := by decide +kernel
theorem dX8_addDebt_39 : decode cX8_addDebt 39 = .ok (.iload_n 3, 1) := by decide +kernel
theorem dX8_addDebt_40 : decode cX8_addDebt 40 = .ok (.iastore, 1) := by decide +kernel
theorem dX8_addDebt_41 : decode cX8_addDebt 41 = .ok (.aload_n 0, 1) := by decide +kernel
theorem dX8_addDebt_42 : decode cX8_addDebt 42 = .ok (.getfield 39, 3) := by decide +kernel
theorem dX8_addDebt_45 : decode cX8_addDebt 45 = .ok (.aload_n 0, 1) := by decide +kernel
theorem dX8_addDebt_46 : decode cX8_addDebt 46 = .ok (.getfield 70, 3) := by decide +kernel
theorem dX8_addDebt_49 : decode cX8_addDebt 49 = .ok (.iload 4, 2) := by decide +kernel
theorem dX8_addDebt_51 : decode cX8_addDebt 51 = .ok (.iastore, 1) := by decide +kernel
theorem dX8_addDebt_52 : decode cX8_addDebt 52 = .ok (.aload_n 0, 1) := by decide +kernel
theorem dX8_addDebt_53 : decode cX8_addDebt 53 = .ok (.getfield 42, 3) := by decide +kernel
theorem dX8_addDebt_56 : decode cX8_addDebt 56 = .ok (.aload_n 0, 1) := by decide +kernel
theorem dX8_addDebt_57 : decode cX8_addDebt 57 = .ok (.getfield 70, 3) := by decide +kernel
theorem dX8_addDebt_60 : decode cX8_addDebt 60 = .ok (.iconst 0, 1) := by decide +kernel
theorem dX8_addDebt_61 : decode cX8_addDebt 61 = .ok (.iastore, 1) := by decide +kernel
theorem dX8_addDebt_62 : decode cX8_addDebt 62 = .ok (.aload_n 0, 1) := by decide +kernel
theorem dX8_addDebt_63 : decode cX8_addDebt 63 = .ok (.getfield 45, 3) := by decide +kernel
theorem dX8_addDebt_66 : decode cX8_addDebt 66 = .ok (.aload_n 0, 1) := by decide +kernel
theorem dX8_addDebt_67 : decode cX8_addDebt 67 = .ok (.getfield 70, 3) := by decide +kernel
theorem dX8_addDebt_70 : decode cX8_addDebt 70 = .ok (.iconst (-1), 1) := by decide +kernel
theorem dX8_addDebt_71 : decode cX8_addDebt 71 = .ok (.iastore, 1) := by decide +kernel
theorem dX8_addDebt_72 : decode cX8_addDebt 72 = .ok (.aload_n 0, 1) := by decide +kernel
theorem dX8_addDebt_73 : decode cX8_addDebt 73 = .ok (.dup, 1) := by decide +kernel
theorem dX8_addDebt_74 : decode cX8_addDebt 74 = .ok (.getfield 70, 3) := by decide +kernel
theorem dX8_addDebt_77 : decode cX8_addDebt 77 = .ok (.iconst 1, 1) := by decide +kernel
theorem dX8_addDebt_78 : decode cX8_addDebt 78 = .ok (.iadd, 1) := by decide +kernel
theorem dX8_addDebt_79 : decode cX8_addDebt 79 = .ok (.putfield 70, 3) := by decide +kernel
theorem dX8_addDebt_82 : decode cX8_addDebt 82 = .ok (.iconst 1, 1) := by decide +kernel
theorem dX8_addDebt_83 : decode cX8_addDebt 83 = .ok (.ireturn, 1) := by decide +kernel
theorem dX8_everybody_0 : decode cX8_everybody 0 = .ok (.iconst 1, 1) := by decide +kernel
theorem dX8_everybody_1 : decode cX8_everybody 1 = .ok (.aload_n 0, 1) := by decide +kernel
theorem dX8_everybody_2 : decode cX8_everybody 2 = .ok (.getfield 67, 3) := by decide +kernel
theorem dX8_everybody_5 : decode cX8_everybody 5 = .ok (.ishl, 1) := by decide +kernel
theorem dX8_everybody_6 : decode cX8_everybody 6 = .ok (.iconst 1, 1) := by decide +kernel
theorem dX8_everybody_7 : decode cX8_everybody 7 = .ok (.isub, 1) := by decide +kernel
theorem dX8_everybody_8 : decode cX8_everybody 8 = .ok (.ireturn, 1) := by decide +kernel
theorem dX8_counted_0 : decode cX8_counted 0 = .ok (.aload_n 0, 1) := by decide +kernel
theorem dX8_counted_1 : decode cX8_counted 1 = .ok (.getfield 9, 3) := by decide +kernel
theorem dX8_counted_4 : decode cX8_counted 4 = .ok (.iload_n 1, 1) := by decide +kernel
theorem dX8_counted_5 : decode cX8_counted 5 = .ok (.iaload, 1) := by decide +kernel
theorem dX8_counted_6 : decode cX8_counted 6 = .ok (.aload_n 0, 1) := by decide +kernel
theorem dX8_counted_7 : decode cX8_counted 7 = .ok (.getfield 21, 3) := by decide +kernel
theorem dX8_counted_10 : decode cX8_counted 10 = .ok (.iload_n 1, 1) := by decide +kernel
theorem dX8_counted_11 : decode cX8_counted 11 = .ok (.iaload, 1) := by decide +kernel
theorem dX8_counted_12 : decode cX8_counted 12 = .ok (.isub, 1) := by decide +kernel
theorem dX8_counted_13 : decode cX8_counted 13 = .ok (.ireturn, 1) := by decide +kernel
theorem dX8_countList_0 : decode cX8_countList 0 = .ok (.iconst 0, 1) := by decide +kernel
theorem dX8_countList_1 : decode cX8_countList 1 = .ok (.istore_n 1, 1) := by decide +kernel
theorem dX8_countList_2 : decode cX8_countList 2 = .ok (.iconst 0, 1) := by decide +kernel
theorem dX8_countList_3 : decode cX8_countList 3 = .ok (.istore_n 2, 1) := by decide +kernel
theorem dX8_countList_4 : decode cX8_countList 4 = .ok (.iload_n 2, 1) := by decide +kernel
theorem dX8_countList_5 : decode cX8_countList 5 = .ok (.aload_n 0, 1) := by decide +kernel
theorem dX8_countList_6 : decode cX8_countList 6 = .ok (.getfield 67, 3) := by decide +kernel
theorem dX8_countList_9 : decode cX8_countList 9 = .ok (.if_icmp .ge 29, 3) := by decide +kernel
theorem dX8_countList_12 : decode cX8_countList 12 = .ok (.aload_n 0, 1) := by decide +kernel
theorem dX8_countList_13 : decode cX8_countList 13 = .ok (.getfield 24, 3) := by decide +kernel
theorem dX8_countList_16 : decode cX8_countList 16 = .ok (.iload_n 2, 1) := by decide +kernel
theorem dX8_countList_17 : decode cX8_countList 17 = .ok (.aload_n 0, 1) := by decide +kernel
theorem dX8_countList_18 : decode cX8_countList 18 = .ok (.iload_n 2, 1) := by decide +kernel
theorem dX8_countList_19 : decode cX8_countList 19 = .ok (.invokevirtual 83, 3) := by decide +kernel
theorem dX8_countList_22 : decode cX8_countList 22 = .ok (.iastore, 1) := by decide +kernel
theorem dX8_countList_23 : decode cX8_countList 23 = .ok (.iload_n 1, 1) := by decide +kernel
theorem dX8_countList_24 : decode cX8_countList 24 = .ok (.aload_n 0, 1) := by decide +kernel
theorem dX8_countList_25 : decode cX8_countList 25 = .ok (.getfield 24, 3) := by decide +kernel
theorem dX8_countList_28 : decode cX8_countList 28 = .ok (.iload_n 2, 1) := by decide +kernel
theorem dX8_countList_29 : decode cX8_countList 29 = .ok (.iaload, 1) := by decide +kernel
theorem dX8_countList_30 : decode cX8_countList 30 = .ok (.iadd, 1) := by decide +kernel
theorem dX8_countList_31 : decode cX8_countList 31 = .ok (.istore_n 1, 1) := by decide +kernel
theorem dX8_countList_32 : decode cX8_countList 32 = .ok (.iinc 2 1, 3) := by decide +kernel
theorem dX8_countList_35 : decode cX8_countList 35 = .ok (.goto (-31), 3) := by decide +kernel
theorem dX8_countList_38 : decode cX8_countList 38 = .ok (.iload_n 1, 1) := by decide +kernel
theorem dX8_countList_39 : decode cX8_countList 39 = .ok (.ireturn, 1) := by decide +kernel
theorem dX8_makeList_0 : decode cX8_makeList 0 = .ok (.iconst 0, 1) := by decide +kernel
theorem dX8_makeList_1 : decode cX8_makeList 1 = .ok (.istore_n 1, 1) := by decide +kernel
theorem dX8_makeList_2 : decode cX8_makeList 2 = .ok (.iload_n 1, 1) := by decide +kernel
theorem dX8_makeList_3 : decode cX8_makeList 3 = .ok (.aload_n 0, 1) := by decide +kernel
theorem dX8_makeList_4 : decode cX8_makeList 4 = .ok (.getfield 67, 3) := by decide +kernel
theorem dX8_makeList_7 : decode cX8_makeList 7 = .ok (.if_icmp .ge 39, 3) := by decide +kernel
theorem dX8_makeList_10 : decode cX8_makeList 10 = .ok (.aload_n 0, 1) := by decide +kernel
theorem dX8_makeList_11 : decode cX8_makeList 11 = .ok (.getfield 27, 3) := by decide +kernel
theorem dX8_makeList_14 : decode cX8_makeList 14 = .ok (.iload_n 1, 1) := by decide +kernel
theorem dX8_makeList_15 : decode cX8_makeList 15 = .ok (.aload_n 0, 1) := by decide +kernel
theorem dX8_makeList_16 : decode cX8_makeList 16 = .ok (.getfield 54, 3) := by decide +kernel
theorem dX8_makeList_19 : decode cX8_makeList 19 = .ok (.iconst 2, 1) := by decide +kernel
theorem dX8_makeList_20 : decode cX8_makeList 20 = .ok (.iaload, 1) := by decide +kernel
theorem dX8_makeList_21 : decode cX8_makeList 21 = .ok (.iconst 1, 1) := by decide +kernel
theorem dX8_makeList_22 : decode cX8_makeList 22 = .ok (.if_icmp .ne 12, 3) := by decide +kernel
theorem dX8_makeList_25 : decode cX8_makeList 25 = .ok (.aload_n 0, 1) := by decide +kernel
theorem dX8_makeList_26 : decode cX8_makeList 26 = .ok (.getfield 24, 3) := by decide +kernel
theorem dX8_makeList_29 : decode cX8_makeList 29 = .ok (.iload_n 1, 1) := by decide +kernel
theorem dX8_makeList_30 : decode cX8_makeList 30 = .ok (.iaload, 1) := by decide +kernel
theorem dX8_makeList_31 : decode cX8_makeList 31 = .ok (.goto 8, 3) := by decide +kernel
theorem dX8_makeList_34 : decode cX8_makeList 34 = .ok (.aload_n 0, 1) := by decide +kernel
theorem dX8_makeList_35 : decode cX8_makeList 35 = .ok (.iload_n 1, 1) := by decide +kernel
theorem dX8_makeList_36 : decode cX8_makeList 36 = .ok (.invokevirtual 83, 3) := by decide +kernel
theorem dX8_makeList_39 : decode cX8_makeList 39 = .ok (.iastore, 1) := by decide +kernel
theorem dX8_makeList_40 : decode cX8_makeList 40 = .ok (.iinc 1 1, 3) := by decide +kernel
theorem dX8_makeList_43 : decode cX8_makeList 43 = .ok (.goto (-41), 3) := by decide +kernel
theorem dX8_makeList_46 : decode cX8_makeList 46 = .ok (.return_, 1) := by decide +kernel
theorem dX8_belowBits_0 : decode cX8_belowBits 0 = .ok (.aload_n 0, 1) := by decide +kernel
theorem dX8_belowBits_1 : decode cX8_belowBits 1 = .ok (.getfield 27, 3) := by decide +kernel
theorem dX8_belowBits_4 : decode cX8_belowBits 4 = .ok (.iload_n 1, 1) := by decide +kernel
theorem dX8_belowBits_5 : decode cX8_belowBits 5 = .ok (.iaload, 1) := by decide +kernel
theorem dX8_belowBits_6 : decode cX8_belowBits 6 = .ok (.istore_n 2, 1) := by decide +kernel
theorem dX8_belowBits_7 : decode cX8_belowBits 7 = .ok (.ldc 87, 2) := by decide +kernel
theorem dX8_belowBits_9 : decode cX8_belowBits 9 = .ok (.istore_n 3, 1) := by decide +kernel
theorem dX8_belowBits_10 : decode cX8_belowBits 10 = .ok (.iload_n 2, 1) := by decide +kernel
theorem dX8_belowBits_11 : decode cX8_belowBits 11 = .ok (.iconst 1, 1) := by decide +kernel
theorem dX8_belowBits_12 : decode cX8_belowBits 12 = .ok (.isub, 1) := by decide +kernel
theorem dX8_belowBits_13 : decode cX8_belowBits 13 = .ok (.istore 4, 2) := by decide +kernel
theorem dX8_belowBits_15 : decode cX8_belowBits 15 = .ok (.aload_n 0, 1) := by decide +kernel
theorem dX8_belowBits_16 : decode cX8_belowBits 16 = .ok (.getfield 54, 3) := by decide +kernel
theorem dX8_belowBits_19 : decode cX8_belowBits 19 = .ok (.iconst 0, 1) := by decide +kernel
theorem dX8_belowBits_20 : decode cX8_belowBits 20 = .ok (.iaload, 1) := by decide +kernel
theorem dX8_belowBits_21 : decode cX8_belowBits 21 = .ok (.iconst 1, 1) := by decide +kernel
theorem dX8_belowBits_22 : decode cX8_belowBits 22 = .ok (.if_icmp .ne 12, 3) := by decide +kernel
theorem dX8_belowBits_25 : decode cX8_belowBits 25 = .ok (.aload_n 0, 1) := by decide +kernel
theorem dX8_belowBits_26 : decode cX8_belowBits 26 = .ok (.iload_n 2, 1) := by decide +kernel
theorem dX8_belowBits_27 : decode cX8_belowBits 27 = .ok (.invokevirtual 88, 3) := by decide +kernel
theorem dX8_belowBits_30 : decode cX8_belowBits 30 = .ok (.istore_n 3, 1) := by decide +kernel
theorem dX8_belowBits_31 : decode cX8_belowBits 31 = .ok (.goto 44, 3) := by decide +kernel
theorem dX8_belowBits_34 : decode cX8_belowBits 34 = .ok (.aload_n 0, 1) := by decide +kernel
theorem dX8_belowBits_35 : decode cX8_belowBits 35 = .ok (.getfield 54, 3) := by decide +kernel
theorem dX8_belowBits_38 : decode cX8_belowBits 38 = .ok (.iconst 0, 1) := by decide +kernel
theorem dX8_belowBits_39 : decode cX8_belowBits 39 = .ok (.iaload, 1) := by decide +kernel
theorem dX8_belowBits_40 : decode cX8_belowBits 40 = .ok (.iconst 2, 1) := by decide +kernel
theorem dX8_belowBits_41 : decode cX8_belowBits 41 = .ok (.if_icmp .ne 14, 3) := by decide +kernel
theorem dX8_belowBits_44 : decode cX8_belowBits 44 = .ok (.iload_n 2, 1) := by decide +kernel
theorem dX8_belowBits_45 : decode cX8_belowBits 45 = .ok (.iconst 1, 1) := by decide +kernel
theorem dX8_belowBits_46 : decode cX8_belowBits 46 = .ok (.iadd, 1) := by decide +kernel
theorem dX8_belowBits_47 : decode cX8_belowBits 47 = .ok (.istore_n 3, 1) := by decide +kernel
theorem dX8_belowBits_48 : decode cX8_belowBits 48 = .ok (.ldc 91, 2) := by decide +kernel
theorem dX8_belowBits_50 : decode cX8_belowBits 50 = .ok (.istore 4, 2) := by decide +kernel
theorem dX8_belowBits_52 : decode cX8_belowBits 52 = .ok (.goto 23, 3) := by decide +kernel
theorem dX8_belowBits_55 : decode cX8_belowBits 55 = .ok (.aload_n 0, 1) := by decide +kernel
theorem dX8_belowBits_56 : decode cX8_belowBits 56 = .ok (.getfield 54, 3) := by decide +kernel
theorem dX8_belowBits_59 : decode cX8_belowBits 59 = .ok (.iconst 0, 1) := by decide +kernel
theorem dX8_belowBits_60 : decode cX8_belowBits 60 = .ok (.iaload, 1) := by decide +kernel
theorem dX8_belowBits_61 : decode cX8_belowBits 61 = .ok (.iconst 3, 1) := by decide +kernel
theorem dX8_belowBits_62 : decode cX8_belowBits 62 = .ok (.if_icmp .ne 13, 3) := by decide +kernel
theorem dX8_belowBits_65 : decode cX8_belowBits 65 = .ok (.iload_n 2, 1) := by decide +kernel
theorem dX8_belowBits_66 : decode cX8_belowBits 66 = .ok (.aload_n 0, 1) := by decide +kernel
theorem dX8_belowBits_67 : decode cX8_belowBits 67 = .ok (.getfield 54, 3) := by decide +kernel
theorem dX8_belowBits_70 : decode cX8_belowBits 70 = .ok (.iconst 1, 1) := by decide +kernel
theorem dX8_belowBits_71 : decode cX8_belowBits 71 = .ok (.iaload, 1) := by decide +kernel
theorem dX8_belowBits_72 : decode cX8_belowBits 72 = .ok (.isub, 1) := by decide +kernel
theorem dX8_belowBits_73 : decode cX8_belowBits 73 = .ok (.istore 4, 2) := by decide +kernel
theorem dX8_belowBits_75 : decode cX8_belowBits 75 = .ok (.iconst 0, 1) := by decide +kernel
theorem dX8_belowBits_76 : decode cX8_belowBits 76 = .ok (.istore 5, 2) := by decide +kernel
theorem dX8_belowBits_78 : decode cX8_belowBits 78 = .ok (.iconst 0, 1) := by decide +kernel
theorem dX8_belowBits_79 : decode cX8_belowBits 79 = .ok (.istore 6, 2) := by decide +kernel
theorem dX8_belowBits_81 : decode cX8_belowBits 81 = .ok (.iload 6, 2) := by decide +kernel
theorem dX8_belowBits_83 : decode cX8_belowBits 83 = .ok (.aload_n 0, 1) := by decide +kernel
theorem dX8_belowBits_84 : decode cX8_belowBits 84 = .ok (.getfield 67, 3) := by decide +kernel
theorem dX8_belowBits_87 : decode cX8_belowBits 87 = .ok (.if_icmp .ge 47, 3) := by decide +kernel
theorem dX8_belowBits_90 : decode cX8_belowBits 90 = .ok (.iload 6, 2) := by decide +kernel
theorem dX8_belowBits_92 : decode cX8_belowBits 92 = .ok (.iload_n 1, 1) := by decide +kernel
theorem dX8_belowBits_93 : decode cX8_belowBits 93 = .ok (.if_icmp .eq 35, 3) := by decide +kernel
theorem dX8_belowBits_96 : decode cX8_belowBits 96 = .ok (.aload_n 0, 1) := by decide +kernel
theorem dX8_belowBits_97 : decode cX8_belowBits 97 = .ok (.getfield 27, 3) := by decide +kernel
theorem dX8_belowBits_100 : decode cX8_belowBits 100 = .ok (.iload 6, 2) := by decide +kernel
theorem dX8_belowBits_102 : decode cX8_belowBits 102 = .ok (.iaload, 1) := by decide +kernel
theorem dX8_belowBits_103 : decode cX8_belowBits 103 = .ok (.iload_n 3, 1) := by decide +kernel
theorem dX8_belowBits_104 : decode cX8_belowBits 104 = .ok (.if_icmp .lt 24, 3) := by decide +kernel
theorem dX8_belowBits_107 : decode cX8_belowBits 107 = .ok (.aload_n 0, 1) := by decide +kernel
theorem dX8_belowBits_108 : decode cX8_belowBits 108 = .ok (.getfield 27, 3) := by decide +kernel
theorem dX8_belowBits_111 : decode cX8_belowBits 111 = .ok (.iload 6, 2) := by decide +kernel
theorem dX8_belowBits_113 : decode cX8_belowBits 113 = .ok (.iaload, 1) := by decide +kernel
theorem dX8_belowBits_114 : decode cX8_belowBits 114 = .ok (.iload 4, 2) := by decide +kernel
theorem dX8_belowBits_116 : decode cX8_belowBits 116 = .ok (.if_icmp .gt 12, 3) := by decide +kernel
theorem dX8_belowBits_119 : decode cX8_belowBits 119 = .ok (.iload 5, 2) := by decide +kernel
theorem dX8_belowBits_121 : decode cX8_belowBits 121 = .ok (.iconst 1, 1) := by decide +kernel
theorem dX8_belowBits_122 : decode cX8_belowBits 122 = .ok (.iload 6, 2) := by decide +kernel
theorem dX8_belowBits_124 : decode cX8_belowBits 124 = .ok (.ishl, 1) := by decide +kernel
theorem dX8_belowBits_125 : decode cX8_belowBits 125 = .ok (.ior, 1) := by decide +kernel
theorem dX8_belowBits_126 : decode cX8_belowBits 126 = .ok (.istore 5, 2) := by decide +kernel
theorem dX8_belowBits_128 : decode cX8_belowBits 128 = .ok (.iinc 6 1, 3) := by decide +kernel
theorem dX8_belowBits_131 : decode cX8_belowBits 131 = .ok (.goto (-50), 3) := by decide +kernel
theorem dX8_belowBits_134 : decode cX8_belowBits 134 = .ok (.iload 5, 2) := by decide +kernel
theorem dX8_belowBits_136 : decode cX8_belowBits 136 = .ok (.ireturn, 1) := by decide +kernel
theorem dX8_greatestUnder_0 : decode cX8_greatestUnder 0 = .ok (.ldc 87, 2) := by decide +kernel
theorem dX8_greatestUnder_2 : decode cX8_greatestUnder 2 = .ok (.istore_n 2, 1) := by decide +kernel
theorem dX8_greatestUnder_3 : decode cX8_greatestUnder 3 = .ok (.iconst 0, 1) := by decide +kernel
theorem dX8_greatestUnder_4 : decode cX8_greatestUnder 4 = .ok (.istore_n 3, 1) := by decide +kernel
theorem dX8_greatestUnder_5 : decode cX8_greatestUnder 5 = .ok (.iload_n 3, 1) := by decide +kernel
theorem dX8_greatestUnder_6 : decode cX8_greatestUnder 6 = .ok (.aload_n 0, 1) := by decide +kernel
theorem dX8_greatestUnder_7 : decode cX8_greatestUnder 7 = .ok (.getfield 67, 3) := by decide +kernel
theorem dX8_greatestUnder_10 : decode cX8_greatestUnder 10 = .ok (.if_icmp .ge 36, 3) := by decide +kernel
theorem dX8_greatestUnder_13 : decode cX8_greatestUnder 13 = .ok (.aload_n 0, 1) := by decide +kernel
theorem dX8_greatestUnder_14 : decode cX8_greatestUnder 14 = .ok (.getfield 27, 3) := by decide +kernel
theorem dX8_greatestUnder_17 : decode cX8_greatestUnder 17 = .ok (.iload_n 3, 1) := by decide +kernel
theorem dX8_greatestUnder_18 : decode cX8_greatestUnder 18 = .ok (.iaload, 1) := by decide +kernel
theorem dX8_greatestUnder_19 : decode cX8_greatestUnder 19 = .ok (.iload_n 1, 1) := by decide +kernel
theorem dX8_greatestUnder_20 : decode cX8_greatestUnder 20 = .ok (.if_icmp .ge 20, 3) := by decide +kernel
theorem dX8_greatestUnder_23 : decode cX8_greatestUnder 23 = .ok (.aload_n 0, 1) := by decide +kernel
theorem dX8_greatestUnder_24 : decode cX8_greatestUnder 24 = .ok (.getfield 27, 3) := by decide +kernel
theorem dX8_greatestUnder_27 : decode cX8_greatestUnder 27 = .ok (.iload_n 3, 1) := by decide +kernel
theorem dX8_greatestUnder_28 : decode cX8_greatestUnder 28 = .ok (.iaload, 1) := by decide +kernel
theorem dX8_greatestUnder_29 : decode cX8_greatestUnder 29 = .ok (.iload_n 2, 1) := by decide +kernel
theorem dX8_greatestUnder_30 : decode cX8_greatestUnder 30 = .ok (.if_icmp .le 10, 3) := by decide +kernel
theorem dX8_greatestUnder_33 : decode cX8_greatestUnder 33 = .ok (.aload_n 0, 1) := by decide +kernel
theorem dX8_greatestUnder_34 : decode cX8_greatestUnder 34 = .ok (.getfield 27, 3) := by decide +kernel
theorem dX8_greatestUnder_37 : decode cX8_greatestUnder 37 = .ok (.iload_n 3, 1) := by decide +kernel
theorem dX8_greatestUnder_38 : decode cX8_greatestUnder 38 = .ok (.iaload, 1) := by decide +kernel
theorem dX8_greatestUnder_39 : decode cX8_greatestUnder 39 = .ok (.istore_n 2, 1) := by decide +kernel
theorem dX8_greatestUnder_40 : decode cX8_greatestUnder 40 = .ok (.iinc 3 1, 3) := by decide +kernel
theorem dX8_greatestUnder_43 : decode cX8_greatestUnder 43 = .ok (.goto (-38), 3) := by decide +kernel
theorem dX8_greatestUnder_46 : decode cX8_greatestUnder 46 = .ok (.iload_n 2, 1) := by decide +kernel
theorem dX8_greatestUnder_47 : decode cX8_greatestUnder 47 = .ok (.ireturn, 1) := by decide +kernel
theorem dX8_outsiders_0 : decode cX8_outsiders 0 = .ok (.aload_n 0, 1) := by decide +kernel
theorem dX8_outsiders_1 : decode cX8_outsiders 1 = .ok (.invokevirtual 92, 3) := by decide +kernel
theorem dX8_outsiders_4 : decode cX8_outsiders 4 = .ok (.iconst 1, 1) := by decide +kernel
theorem dX8_outsiders_5 : decode cX8_outsiders 5 = .ok (.aload_n 0, 1) := by decide +kernel
theorem dX8_outsiders_6 : decode cX8_outsiders 6 = .ok (.getfield 30, 3) := by decide +kernel
theorem dX8_outsiders_9 : decode cX8_outsiders 9 = .ok (.iload_n 1, 1) := by decide +kernel
theorem dX8_outsiders_10 : decode cX8_outsiders 10 = .ok (.iaload, 1) := by decide +kernel
theorem dX8_outsiders_11 : decode cX8_outsiders 11 = .ok (.ishl, 1) := by decide +kernel
theorem dX8_outsiders_12 : decode cX8_outsiders 12 = .ok (.iconst 1, 1) := by decide +kernel
theorem dX8_outsiders_13 : decode cX8_outsiders 13 = .ok (.aload_n 0, 1) := by decide +kernel
theorem dX8_outsiders_14 : decode cX8_outsiders 14 = .ok (.getfield 33, 3) := by decide +kernel
theorem dX8_outsiders_17 : decode cX8_outsiders 17 = .ok (.iload_n 1, 1) := by decide +kernel
theorem dX8_outsiders_18 : decode cX8_outsiders 18 = .ok (.iaload, 1) := by decide +kernel
theorem dX8_outsiders_19 : decode cX8_outsiders 19 = .ok (.ishl, 1) := by decide +kernel
theorem dX8_outsiders_20 : decode cX8_outsiders 20 = .ok (.ior, 1) := by decide +kernel
theorem dX8_outsiders_21 : decode cX8_outsiders 21 = .ok (.iconst (-1), 1) := by decide +kernel
theorem dX8_outsiders_22 : decode cX8_outsiders 22 = .ok (.ixor, 1) := by decide +kernel
theorem dX8_outsiders_23 : decode cX8_outsiders 23 = .ok (.iand, 1) := by decide +kernel
theorem dX8_outsiders_24 : decode cX8_outsiders 24 = .ok (.ireturn, 1) := by decide +kernel
theorem dX8_payers_0 : decode cX8_payers 0 = .ok (.aload_n 0, 1) := by decide +kernel
theorem dX8_payers_1 : decode cX8_payers 1 = .ok (.iload_n 1, 1) := by decide +kernel
theorem dX8_payers_2 : decode cX8_payers 2 = .ok (.invokevirtual 96, 3) := by decide +kernel
theorem dX8_payers_5 : decode cX8_payers 5 = .ok (.ifCond .ne 5, 3) := by decide +kernel
theorem dX8_payers_8 : decode cX8_payers 8 = .ok (.iconst 0, 1) := by decide +kernel
theorem dX8_payers_9 : decode cX8_payers 9 = .ok (.ireturn, 1) := by decide +kernel
theorem dX8_payers_10 : decode cX8_payers 10 = .ok (.aload_n 0, 1) := by decide +kernel
theorem dX8_payers_11 : decode cX8_payers 11 = .ok (.aload_n 0, 1) := by decide +kernel
theorem dX8_payers_12 : decode cX8_payers 12 = .ok (.getfield 30, 3) := by decide +kernel
theorem dX8_payers_15 : decode cX8_payers 15 = .ok (.iload_n 1, 1) := by decide +kernel
theorem dX8_payers_16 : decode cX8_payers 16 = .ok (.iaload, 1) := by decide +kernel
theorem dX8_payers_17 : decode cX8_payers 17 = .ok (.invokevirtual 99, 3) := by decide +kernel
theorem dX8_payers_20 : decode cX8_payers 20 = .ok (.aload_n 0, 1) := by decide +kernel
theorem dX8_payers_21 : decode cX8_payers 21 = .ok (.iload_n 1, 1) := by decide +kernel
theorem dX8_payers_22 : decode cX8_payers 22 = .ok (.invokevirtual 102, 3) := by decide +kernel
theorem dX8_payers_25 : decode cX8_payers 25 = .ok (.iand, 1) := by decide +kernel
theorem dX8_payers_26 : decode cX8_payers 26 = .ok (.istore_n 2, 1) := by decide +kernel
theorem dX8_payers_27 : decode cX8_payers 27 = .ok (.iconst 0, 1) := by decide +kernel
theorem dX8_payers_28 : decode cX8_payers 28 = .ok (.istore_n 3, 1) := by decide +kernel
theorem dX8_payers_29 : decode cX8_payers 29 = .ok (.iload_n 3, 1) := by decide +kernel
theorem dX8_payers_30 : decode cX8_payers 30 = .ok (.aload_n 0, 1) := by decide +kernel
theorem dX8_payers_31 : decode cX8_payers 31 = .ok (.getfield 67, 3) := by decide +kernel
theorem dX8_payers_34 : decode cX8_payers 34 = .ok (.if_icmp .ge 31, 3) := by decide +kernel
theorem dX8_payers_37 : decode cX8_payers 37 = .ok (.aload_n 0, 1) := by decide +kernel
theorem dX8_payers_38 : decode cX8_payers 38 = .ok (.iload_n 3, 1) := by decide +kernel
theorem dX8_payers_39 : decode cX8_payers 39 = .ok (.invokevirtual 83, 3) := by decide +kernel
theorem dX8_payers_42 : decode cX8_payers 42 = .ok (.aload_n 0, 1) := by decide +kernel
theorem dX8_payers_43 : decode cX8_payers 43 = .ok (.getfield 36, 3) := by decide +kernel
theorem dX8_payers_46 : decode cX8_payers 46 = .ok (.iload_n 1, 1) := by decide +kernel
theorem dX8_payers_47 : decode cX8_payers 47 = .ok (.iaload, 1) := by decide +kernel
theorem dX8_payers_48 : decode cX8_payers 48 = .ok (.if_icmp .ge 11, 3) := by decide +kernel
theorem dX8_payers_51 : decode cX8_payers 51 = .ok (.iload_n 2, 1) := by decide +kernel
theorem dX8_payers_52 : decode cX8_payers 52 = .ok (.iconst 1, 1) := by decide +kernel
theorem dX8_payers_53 : decode cX8_payers 53 = .ok (.iload_n 3, 1) := by decide +kernel
theorem dX8_payers_54 : decode cX8_payers 54 = .ok (.ishl, 1) := by decide +kernel
theorem dX8_payers_55 : decode cX8_payers 55 = .ok (.iconst (-1), 1) := by decide +kernel
theorem dX8_payers_56 : decode cX8_payers 56 = .ok (.ixor, 1) := by decide +kernel
theorem dX8_payers_57 : decode cX8_payers 57 = .ok (.iand, 1) := by decide +kernel
theorem dX8_payers_58 : decode cX8_payers 58 = .ok (.istore_n 2, 1) := by decide +kernel
theorem dX8_payers_59 : decode cX8_payers 59 = .ok (.iinc 3 1, 3) := by decide +kernel
theorem dX8_payers_62 : decode cX8_payers 62 = .ok (.goto (-33), 3) := by decide +kernel
theorem dX8_payers_65 : decode cX8_payers 65 = .ok (.iload_n 2, 1) := by decide +kernel
theorem dX8_payers_66 : decode cX8_payers 66 = .ok (.ireturn, 1) := by decide +kernel
theorem dX8_canPay_0 : decode cX8_canPay 0 = .ok (.aload_n 0, 1) := by decide +kernel
theorem dX8_canPay_1 : decode cX8_canPay 1 = .ok (.iload_n 1, 1) := by decide +kernel
theorem dX8_canPay_2 : decode cX8_canPay 2 = .ok (.invokevirtual 105, 3) := by decide +kernel
theorem dX8_canPay_5 : decode cX8_canPay 5 = .ok (.ifCond .eq 11, 3) := by decide +kernel
theorem dX8_canPay_8 : decode cX8_canPay 8 = .ok (.aload_n 0, 1) := by decide +kernel
theorem dX8_canPay_9 : decode cX8_canPay 9 = .ok (.iload_n 2, 1) := by decide +kernel
theorem dX8_canPay_10 : decode cX8_canPay 10 = .ok (.invokevirtual 96, 3) := by decide +kernel
theorem dX8_canPay_13 : decode cX8_canPay 13 = .ok (.ifCond .ne 5, 3) := by decide +kernel
theorem dX8_canPay_16 : decode cX8_canPay 16 = .ok (.iconst 0, 1) := by decide +kernel
theorem dX8_canPay_17 : decode cX8_canPay 17 = .ok (.ireturn, 1) := by decide +kernel
theorem dX8_canPay_18 : decode cX8_canPay 18 = .ok (.aload_n 0, 1) := by decide +kernel
theorem dX8_canPay_19 : decode cX8_canPay 19 = .ok (.invokevirtual 108, 3) := by decide +kernel
theorem dX8_canPay_22 : decode cX8_canPay 22 = .ok (.aload_n 0, 1) := by decide +kernel
theorem dX8_canPay_23 : decode cX8_canPay 23 = .ok (.iload_n 2, 1) := by decide +kernel
theorem dX8_canPay_24 : decode cX8_canPay 24 = .ok (.invokevirtual 111, 3) := by decide +kernel
theorem dX8_canPay_27 : decode cX8_canPay 27 = .ok (.iconst 1, 1) := by decide +kernel
theorem dX8_canPay_28 : decode cX8_canPay 28 = .ok (.iload_n 1, 1) := by decide +kernel
theorem dX8_canPay_29 : decode cX8_canPay 29 = .ok (.ishl, 1) := by decide +kernel
theorem dX8_canPay_30 : decode cX8_canPay 30 = .ok (.iand, 1) := by decide +kernel
theorem dX8_canPay_31 : decode cX8_canPay 31 = .ok (.ifCond .eq 7, 3) := by decide +kernel
theorem dX8_canPay_34 : decode cX8_canPay 34 = .ok (.iconst 1, 1) := by decide +kernel
theorem dX8_canPay_35 : decode cX8_canPay 35 = .ok (.goto 4, 3) := by decide +kernel
theorem dX8_canPay_38 : decode cX8_canPay 38 = .ok (.iconst 0, 1) := by decide +kernel
theorem dX8_canPay_39 : decode cX8_canPay 39 = .ok (.ireturn, 1) := by decide +kernel
theorem dX8_price_0 : decode cX8_price 0 = .ok (.aload_n 0, 1) := by decide +kernel
theorem dX8_price_1 : decode cX8_price 1 = .ok (.getfield 18, 3) := by decide +kernel
theorem dX8_price_4 : decode cX8_price 4 = .ok (.iload_n 1, 1) := by decide +kernel
theorem dX8_price_5 : decode cX8_price 5 = .ok (.iaload, 1) := by decide +kernel
theorem dX8_price_6 : decode cX8_price 6 = .ok (.iconst 1, 1) := by decide +kernel
theorem dX8_price_7 : decode cX8_price 7 = .ok (.if_icmp .ne 7, 3) := by decide +kernel
theorem dX8_price_10 : decode cX8_price 10 = .ok (.iconst 0, 1) := by decide +kernel
theorem dX8_price_11 : decode cX8_price 11 = .ok (.goto 26, 3) := by decide +kernel
theorem dX8_price_14 : decode cX8_price 14 = .ok (.aload_n 0, 1) := by decide +kernel
theorem dX8_price_15 : decode cX8_price 15 = .ok (.getfield 36, 3) := by decide +kernel
theorem dX8_price_18 : decode cX8_price 18 = .ok (.iload_n 2, 1) := by decide +kernel
theorem dX8_price_19 : decode cX8_price 19 = .ok (.iaload, 1) := by decide +kernel
theorem dX8_price_20 : decode cX8_price 20 = .ok (.aload_n 0, 1) := by decide +kernel
theorem dX8_price_21 : decode cX8_price 21 = .ok (.getfield 36, 3) := by decide +kernel
theorem dX8_price_24 : decode cX8_price 24 = .ok (.iload_n 2, 1) := by decide +kernel
theorem dX8_price_25 : decode cX8_price 25 = .ok (.iaload, 1) := by decide +kernel
theorem dX8_price_26 : decode cX8_price 26 = .ok (.aload_n 0, 1) := by decide +kernel
theorem dX8_price_27 : decode cX8_price 27 = .ok (.getfield 15, 3) := by decide +kernel
theorem dX8_price_30 : decode cX8_price 30 = .ok (.iload_n 1, 1) := by decide +kernel
theorem dX8_price_31 : decode cX8_price 31 = .ok (.iaload, 1) := by decide +kernel
theorem dX8_price_32 : decode cX8_price 32 = .ok (.imul, 1) := by decide +kernel
theorem dX8_price_33 : decode cX8_price 33 = .ok (.bipush 100, 2) := by decide +kernel
theorem dX8_price_35 : decode cX8_price 35 = .ok (.idiv, 1) := by decide +kernel
theorem dX8_price_36 : decode cX8_price 36 = .ok (.iadd, 1) := by decide +kernel
theorem dX8_price_37 : decode cX8_price 37 = .ok (.ireturn, 1) := by decide +kernel
theorem dX8_shift_0 : decode cX8_shift 0 = .ok (.aload_n 0, 1) := by decide +kernel
theorem dX8_shift_1 : decode cX8_shift 1 = .ok (.getfield 9, 3) := by decide +kernel
theorem dX8_shift_4 : decode cX8_shift 4 = .ok (.iload_n 1, 1) := by decide +kernel
theorem dX8_shift_5 : decode cX8_shift 5 = .ok (.dup2, 1) := by decide +kernel
theorem dX8_shift_6 : decode cX8_shift 6 = .ok (.iaload, 1) := by decide +kernel
theorem dX8_shift_7 : decode cX8_shift 7 = .ok (.iload_n 3, 1) := by decide +kernel
theorem dX8_shift_8 : decode cX8_shift 8 = .ok (.isub, 1) := by decide +kernel
theorem dX8_shift_9 : decode cX8_shift 9 = .ok (.iastore, 1) := by decide +kernel
theorem dX8_shift_10 : decode cX8_shift 10 = .ok (.aload_n 0, 1) := by decide +kernel
theorem dX8_shift_11 : decode cX8_shift 11 = .ok (.getfield 9, 3) := by decide +kernel
theorem dX8_shift_14 : decode cX8_shift 14 = .ok (.iload_n 2, 1) := by decide +kernel
theorem dX8_shift_15 : decode cX8_shift 15 = .ok (.dup2, 1) := by decide +kernel
theorem dX8_shift_16 : decode cX8_shift 16 = .ok (.iaload, 1) := by decide +kernel
theorem dX8_shift_17 : decode cX8_shift 17 = .ok (.iload_n 3, 1) := by decide +kernel
theorem dX8_shift_18 : decode cX8_shift 18 = .ok (.iadd, 1) := by decide +kernel
theorem dX8_shift_19 : decode cX8_shift 19 = .ok (.iastore, 1) := by decide +kernel
theorem dX8_shift_20 : decode cX8_shift 20 = .ok (.return_, 1) := by decide +kernel
theorem dX8_makePayment_0 : decode cX8_makePayment 0 = .ok (.aload_n 0, 1) := by decide +kernel
theorem dX8_makePayment_1 : decode cX8_makePayment 1 = .ok (.iload_n 1, 1) := by decide +kernel
theorem dX8_makePayment_2 : decode cX8_makePayment 2 = .ok (.iload_n 2, 1) := by decide +kernel
theorem dX8_makePayment_3 : decode cX8_makePayment 3 = .ok (.invokevirtual 114, 3) := by decide +kernel
theorem dX8_makePayment_6 : decode cX8_makePayment 6 = .ok (.istore_n 3, 1) := by decide +kernel
theorem dX8_makePayment_7 : decode cX8_makePayment 7 = .ok (.aload_n 0, 1) := by decide +kernel
theorem dX8_makePayment_8 : decode cX8_makePayment 8 = .ok (.iload_n 1, 1) := by decide +kernel
theorem dX8_makePayment_9 : decode cX8_makePayment 9 = .ok (.aload_n 0, 1) := by decide +kernel
theorem dX8_makePayment_10 : decode cX8_makePayment 10 = .ok (.getfield 33, 3) := by decide +kernel
theorem dX8_makePayment_13 : decode cX8_makePayment 13 = .ok (.iload_n 2, 1) := by decide +kernel
theorem dX8_makePayment_14 : decode cX8_makePayment 14 = .ok (.iaload, 1) := by decide +kernel
theorem dX8_makePayment_15 : decode cX8_makePayment 15 = .ok (.aload_n 0, 1) := by decide +kernel
theorem dX8_makePayment_16 : decode cX8_makePayment 16 = .ok (.getfield 36, 3) := by decide +kernel
theorem dX8_makePayment_19 : decode cX8_makePayment 19 = .ok (.iload_n 2, 1) := by decide +kernel
theorem dX8_makePayment_20 : decode cX8_makePayment 20 = .ok (.iaload, 1) := by decide +kernel
theorem dX8_makePayment_21 : decode cX8_makePayment 21 = .ok (.invokevirtual 118, 3) := by decide +kernel
theorem dX8_makePayment_24 : decode cX8_makePayment 24 = .ok (.aload_n 0, 1) := by decide +kernel
theorem dX8_makePayment_25 : decode cX8_makePayment 25 = .ok (.getfield 48, 3) := by decide +kernel
theorem dX8_makePayment_28 : decode cX8_makePayment 28 = .ok (.aload_n 0, 1) := by decide +kernel
theorem dX8_makePayment_29 : decode cX8_makePayment 29 = .ok (.getfield 30, 3) := by decide +kernel
theorem dX8_makePayment_32 : decode cX8_makePayment 32 = .ok (.iload_n 2, 1) := by decide +kernel
theorem dX8_makePayment_33 : decode cX8_makePayment 33 = .ok (.iaload, 1) := by decide +kernel
theorem dX8_makePayment_34 : decode cX8_makePayment 34 = .ok (.bipush 8, 2) := by decide +kernel
theorem dX8_makePayment_36 : decode cX8_makePayment 36 = .ok (.imul, 1) := by decide +kernel
theorem dX8_makePayment_37 : decode cX8_makePayment 37 = .ok (.iload_n 1, 1) := by decide +kernel
theorem dX8_makePayment_38 : decode cX8_makePayment 38 = .ok (.iadd, 1) := by decide +kernel
theorem dX8_makePayment_39 : decode cX8_makePayment 39 = .ok (.dup2, 1) := by decide +kernel
theorem dX8_makePayment_40 : decode cX8_makePayment 40 = .ok (.iaload, 1) := by decide +kernel
theorem dX8_makePayment_41 : decode cX8_makePayment 41 = .ok (.iload_n 3, 1) := by decide +kernel
theorem dX8_makePayment_42 : decode cX8_makePayment 42 = .ok (.iadd, 1) := by decide +kernel
theorem dX8_makePayment_43 : decode cX8_makePayment 43 = .ok (.iastore, 1) := by decide +kernel
theorem dX8_makePayment_44 : decode cX8_makePayment 44 = .ok (.aload_n 0, 1) := by decide +kernel
theorem dX8_makePayment_45 : decode cX8_makePayment 45 = .ok (.getfield 42, 3) := by decide +kernel
theorem dX8_makePayment_48 : decode cX8_makePayment 48 = .ok (.iload_n 2, 1) := by decide +kernel
theorem dX8_makePayment_49 : decode cX8_makePayment 49 = .ok (.iconst 1, 1) := by decide +kernel
theorem dX8_makePayment_50 : decode cX8_makePayment 50 = .ok (.iastore, 1) := by decide +kernel
theorem dX8_makePayment_51 : decode cX8_makePayment 51 = .ok (.aload_n 0, 1) := by decide +kernel
theorem dX8_makePayment_52 : decode cX8_makePayment 52 = .ok (.getfield 45, 3) := by decide +kernel
theorem dX8_makePayment_55 : decode cX8_makePayment 55 = .ok (.iload_n 2, 1) := by decide +kernel
theorem dX8_makePayment_56 : decode cX8_makePayment 56 = .ok (.iload_n 1, 1) := by decide +kernel
theorem dX8_makePayment_57 : decode cX8_makePayment 57 = .ok (.iastore, 1) := by decide +kernel
theorem dX8_makePayment_58 : decode cX8_makePayment 58 = .ok (.iload_n 3, 1) := by decide +kernel
theorem dX8_makePayment_59 : decode cX8_makePayment 59 = .ok (.ireturn, 1) := by decide +kernel
theorem dX8_unmakePayment_0 : decode cX8_unmakePayment 0 = .ok (.aload_n 0, 1) := by decide +kernel
theorem dX8_unmakePayment_1 : decode cX8_unmakePayment 1 = .ok (.iload_n 1, 1) := by decide +kernel
theorem dX8_unmakePayment_2 : decode cX8_unmakePayment 2 = .ok (.invokevirtual 79, 3) := by decide +kernel
theorem dX8_unmakePayment_5 : decode cX8_unmakePayment 5 = .ok (.ifCond .eq 16, 3) := by decide +kernel
theorem dX8_unmakePayment_8 : decode cX8_unmakePayment 8 = .ok (.aload_n 0, 1) := by decide +kernel
theorem dX8_unmakePayment_9 : decode cX8_unmakePayment 9 = .ok (.aload_n 0, 1) := by decide +kernel
theorem dX8_unmakePayment_10 : decode cX8_unmakePayment 10 = .ok (.getfield 45, 3) := by decide +kernel
theorem dX8_unmakePayment_13 : decode cX8_unmakePayment 13 = .ok (.iload_n 1, 1) := by decide +kernel
theorem dX8_unmakePayment_14 : decode cX8_unmakePayment 14 = .ok (.iaload, 1) := by decide +kernel
theorem dX8_unmakePayment_15 : decode cX8_unmakePayment 15 = .ok (.invokevirtual 105, 3) := by decide +kernel
theorem dX8_unmakePayment_18 : decode cX8_unmakePayment 18 = .ok (.ifCond .ne 4, 3) := by decide +kernel
theorem dX8_unmakePayment_21 : decode cX8_unmakePayment 21 = .ok (.return_, 1) := by decide +kernel
theorem dX8_unmakePayment_22 : decode cX8_unmakePayment 22 = .ok (.aload_n 0, 1) := by decide +kernel
theorem dX8_unmakePayment_23 : decode cX8_unmakePayment 23 = .ok (.getfield 45, 3) := by decide +kernel
theorem dX8_unmakePayment_26 : decode cX8_unmakePayment 26 = .ok (.iload_n 1, 1) := by decide +kernel
theorem dX8_unmakePayment_27 : decode cX8_unmakePayment 27 = .ok (.iaload, 1) := by decide +kernel
theorem dX8_unmakePayment_28 : decode cX8_unmakePayment 28 = .ok (.istore_n 2, 1) := by decide +kernel
theorem dX8_unmakePayment_29 : decode cX8_unmakePayment 29 = .ok (.aload_n 0, 1) := by decide +kernel
theorem dX8_unmakePayment_30 : decode cX8_unmakePayment 30 = .ok (.aload_n 0, 1) := by decide +kernel
theorem dX8_unmakePayment_31 : decode cX8_unmakePayment 31 = .ok (.getfield 33, 3) := by decide +kernel
theorem dX8_unmakePayment_34 : decode cX8_unmakePayment 34 = .ok (.iload_n 1, 1) := by decide +kernel
theorem dX8_unmakePayment_35 : decode cX8_unmakePayment 35 = .ok (.iaload, 1) := by decide +kernel
theorem dX8_unmakePayment_36 : decode cX8_unmakePayment 36 = .ok (.iload_n 2, 1) := by decide +kernel
theorem dX8_unmakePayment_37 : decode cX8_unmakePayment 37 = .ok (.aload_n 0, 1) := by decide +kernel
theorem dX8_unmakePayment_38 : decode cX8_unmakePayment 38 = .ok (.getfield 36, 3) := by decide +kernel
theorem dX8_unmakePayment_41 : decode cX8_unmakePayment 41 = .ok (.iload_n 1, 1) := by decide +kernel
theorem dX8_unmakePayment_42 : decode cX8_unmakePayment 42 = .ok (.iaload, 1) := by decide +kernel
theorem dX8_unmakePayment_43 : decode cX8_unmakePayment 43 = .ok (.invokevirtual 118, 3) := by decide +kernel
theorem dX8_unmakePayment_46 : decode cX8_unmakePayment 46 = .ok (.aload_n 0, 1) := by decide +kernel
theorem dX8_unmakePayment_47 : decode cX8_unmakePayment 47 = .ok (.getfield 48, 3) := by decide +kernel
theorem dX8_unmakePayment_50 : decode cX8_unmakePayment 50 = .ok (.aload_n 0, 1) := by decide +kernel
theorem dX8_unmakePayment_51 : decode cX8_unmakePayment 51 = .ok (.getfield 30, 3) := by decide +kernel
theorem dX8_unmakePayment_54 : decode cX8_unmakePayment 54 = .ok (.iload_n 1, 1) := by decide +kernel
theorem dX8_unmakePayment_55 : decode cX8_unmakePayment 55 = .ok (.iaload, 1) := by decide +kernel
theorem dX8_unmakePayment_56 : decode cX8_unmakePayment 56 = .ok (.bipush 8, 2) := by decide +kernel
theorem dX8_unmakePayment_58 : decode cX8_unmakePayment 58 = .ok (.imul, 1) := by decide +kernel
theorem dX8_unmakePayment_59 : decode cX8_unmakePayment 59 = .ok (.iload_n 2, 1) := by decide +kernel
theorem dX8_unmakePayment_60 : decode cX8_unmakePayment 60 = .ok (.iadd, 1) := by decide +kernel
theorem dX8_unmakePayment_61 : decode cX8_unmakePayment 61 = .ok (.dup2, 1) := by decide +kernel
theorem dX8_unmakePayment_62 : decode cX8_unmakePayment 62 = .ok (.iaload, 1) := by decide +kernel
theorem dX8_unmakePayment_63 : decode cX8_unmakePayment 63 = .ok (.aload_n 0, 1) := by decide +kernel
theorem dX8_unmakePayment_64 : decode cX8_unmakePayment 64 = .ok (.iload_n 2, 1) := by decide +kernel
theorem dX8_unmakePayment_65 : decode cX8_unmakePayment 65 = .ok (.iload_n 1, 1) := by decide +kernel
theorem dX8_unmakePayment_66 : decode cX8_unmakePayment 66 = .ok (.invokevirtual 114, 3) := by decide +kernel
theorem dX8_unmakePayment_69 : decode cX8_unmakePayment 69 = .ok (.isub, 1) := by decide +kernel
theorem dX8_unmakePayment_70 : decode cX8_unmakePayment 70 = .ok (.iastore, 1) := by decide +kernel
theorem dX8_unmakePayment_71 : decode cX8_unmakePayment 71 = .ok (.aload_n 0, 1) := by decide +kernel
theorem dX8_unmakePayment_72 : decode cX8_unmakePayment 72 = .ok (.getfield 42, 3) := by decide +kernel
theorem dX8_unmakePayment_75 : decode cX8_unmakePayment 75 = .ok (.iload_n 1, 1) := by decide +kernel
theorem dX8_unmakePayment_76 : decode cX8_unmakePayment 76 = .ok (.iconst 0, 1) := by decide +kernel
theorem dX8_unmakePayment_77 : decode cX8_unmakePayment 77 = .ok (.iastore, 1) := by decide +kernel
theorem dX8_unmakePayment_78 : decode cX8_unmakePayment 78 = .ok (.aload_n 0, 1) := by decide +kernel
theorem dX8_unmakePayment_79 : decode cX8_unmakePayment 79 = .ok (.getfield 45, 3) := by decide +kernel
theorem dX8_unmakePayment_82 : decode cX8_unmakePayment 82 = .ok (.iload_n 1, 1) := by decide +kernel
theorem dX8_unmakePayment_83 : decode cX8_unmakePayment 83 = .ok (.iconst (-1), 1) := by decide +kernel
theorem dX8_unmakePayment_84 : decode cX8_unmakePayment 84 = .ok (.iastore, 1) := by decide +kernel
theorem dX8_unmakePayment_85 : decode cX8_unmakePayment 85 = .ok (.return_, 1) := by decide +kernel
theorem dX8_setOff_0 : decode cX8_setOff 0 = .ok (.aload_n 0, 1) := by decide +kernel
theorem dX8_setOff_1 : decode cX8_setOff 1 = .ok (.getfield 48, 3) := by decide +kernel
theorem dX8_setOff_4 : decode cX8_setOff 4 = .ok (.iload_n 1, 1) := by decide +kernel
theorem dX8_setOff_5 : decode cX8_setOff 5 = .ok (.iaload, 1) := by decide +kernel
theorem dX8_setOff_6 : decode cX8_setOff 6 = .ok (.aload_n 0, 1) := by decide +kernel
theorem dX8_setOff_7 : decode cX8_setOff 7 = .ok (.getfield 48, 3) := by decide +kernel
theorem dX8_setOff_10 : decode cX8_setOff 10 = .ok (.iload_n 2, 1) := by decide +kernel
theorem dX8_setOff_11 : decode cX8_setOff 11 = .ok (.iaload, 1) := by decide +kernel
theorem dX8_setOff_12 : decode cX8_setOff 12 = .ok (.invokestatic 122, 3) := by decide +kernel
theorem dX8_setOff_15 : decode cX8_setOff 15 = .ok (.istore_n 3, 1) := by decide +kernel
theorem dX8_setOff_16 : decode cX8_setOff 16 = .ok (.aload_n 0, 1) := by decide +kernel
theorem dX8_setOff_17 : decode cX8_setOff 17 = .ok (.getfield 48, 3) := by decide +kernel
theorem dX8_setOff_20 : decode cX8_setOff 20 = .ok (.iload_n 1, 1) := by decide +kernel
theorem dX8_setOff_21 : decode cX8_setOff 21 = .ok (.dup2, 1) := by decide +kernel
theorem dX8_setOff_22 : decode cX8_setOff 22 = .ok (.iaload, 1) := by decide +kernel
theorem dX8_setOff_23 : decode cX8_setOff 23 = .ok (.iload_n 3, 1) := by decide +kernel
theorem dX8_setOff_24 : decode cX8_setOff 24 = .ok (.isub, 1) := by decide +kernel
theorem dX8_setOff_25 : decode cX8_setOff 25 = .ok (.iastore, 1) := by decide +kernel
theorem dX8_setOff_26 : decode cX8_setOff 26 = .ok (.aload_n 0, 1) := by decide +kernel
theorem dX8_setOff_27 : decode cX8_setOff 27 = .ok (.getfield 48, 3) := by decide +kernel
theorem dX8_setOff_30 : decode cX8_setOff 30 = .ok (.iload_n 2, 1) := by decide +kernel
theorem dX8_setOff_31 : decode cX8_setOff 31 = .ok (.dup2, 1) := by decide +kernel
theorem dX8_setOff_32 : decode cX8_setOff 32 = .ok (.iaload, 1) := by decide +kernel
theorem dX8_setOff_33 : decode cX8_setOff 33 = .ok (.iload_n 3, 1) := by decide +kernel
theorem dX8_setOff_34 : decode cX8_setOff 34 = .ok (.isub, 1) := by decide +kernel
theorem dX8_setOff_35 : decode cX8_setOff 35 = .ok (.iastore, 1) := by decide +kernel
theorem dX8_setOff_36 : decode cX8_setOff 36 = .ok (.iconst 2, 1) := by decide +kernel
theorem dX8_setOff_37 : decode cX8_setOff 37 = .ok (.iload_n 3, 1) := by decide +kernel
theorem dX8_setOff_38 : decode cX8_setOff 38 = .ok (.imul, 1) := by decide +kernel
theorem dX8_setOff_39 : decode cX8_setOff 39 = .ok (.ireturn, 1) := by decide +kernel
theorem dX8_canGive_0 : decode cX8_canGive 0 = .ok (.aload_n 0, 1) := by decide +kernel
theorem dX8_canGive_1 : decode cX8_canGive 1 = .ok (.iload_n 1, 1) := by decide +kernel
theorem dX8_canGive_2 : decode cX8_canGive 2 = .ok (.invokevirtual 105, 3) := by decide +kernel
theorem dX8_canGive_5 : decode cX8_canGive 5 = .ok (.ifCond .eq 34, 3) := by decide +kernel
theorem dX8_canGive_8 : decode cX8_canGive 8 = .ok (.aload_n 0, 1) := by decide +kernel
theorem dX8_canGive_9 : decode cX8_canGive 9 = .ok (.iload_n 2, 1) := by decide +kernel
theorem dX8_canGive_10 : decode cX8_canGive 10 = .ok (.invokevirtual 105, 3) := by decide +kernel
theorem dX8_canGive_13 : decode cX8_canGive 13 = .ok (.ifCond .eq 26, 3) := by decide +kernel
theorem dX8_canGive_16 : decode cX8_canGive 16 = .ok (.iload_n 1, 1) := by decide +kernel
theorem dX8_canGive_17 : decode cX8_canGive 17 = .ok (.iload_n 2, 1) := by decide +kernel
theorem dX8_canGive_18 : decode cX8_canGive 18 = .ok (.if_icmp .eq 21, 3) := by decide +kernel
theorem dX8_canGive_21 : decode cX8_canGive 21 = .ok (.iload_n 3, 1) := by decide +kernel
theorem dX8_canGive_22 : decode cX8_canGive 22 = .ok (.iconst 1, 1) := by decide +kernel
theorem dX8_canGive_23 : decode cX8_canGive 23 = .ok (.if_icmp .lt 16, 3) := by decide +kernel
theorem dX8_canGive_26 : decode cX8_canGive 26 = .ok (.iload_n 3, 1) := by decide +kernel
theorem dX8_canGive_27 : decode cX8_canGive 27 = .ok (.aload_n 0, 1) := by decide +kernel
theorem dX8_canGive_28 : decode cX8_canGive 28 = .ok (.iload_n 1, 1) := by decide +kernel
theorem dX8_canGive_29 : decode cX8_canGive 29 = .ok (.invokevirtual 83, 3) := by decide +kernel
theorem dX8_canGive_32 : decode cX8_canGive 32 = .ok (.if_icmp .gt 7, 3) := by decide +kernel
theorem dX8_canGive_35 : decode cX8_canGive 35 = .ok (.iconst 1, 1) := by decide +kernel
theorem dX8_canGive_36 : decode cX8_canGive 36 = .ok (.goto 4, 3) := by decide +kernel
theorem dX8_canGive_39 : decode cX8_canGive 39 = .ok (.iconst 0, 1) := by decide +kernel
theorem dX8_canGive_40 : decode cX8_canGive 40 = .ok (.ireturn, 1) := by decide +kernel
theorem dX8_noteLent_0 : decode cX8_noteLent 0 = .ok (.aload_n 0, 1) := by decide +kernel
theorem dX8_noteLent_1 : decode cX8_noteLent 1 = .ok (.getfield 73, 3) := by decide +kernel
theorem dX8_noteLent_4 : decode cX8_noteLent 4 = .ok (.bipush 6, 2) := by decide +kernel
theorem dX8_noteLent_6 : decode cX8_noteLent 6 = .ok (.if_icmp .ge 53, 3) := by decide +kernel
theorem dX8_noteLent_9 : decode cX8_noteLent 9 = .ok (.aload_n 0, 1) := by decide +kernel
theorem dX8_noteLent_10 : decode cX8_noteLent 10 = .ok (.getfield 51, 3) := by decide +kernel
theorem dX8_noteLent_13 : decode cX8_noteLent 13 = .ok (.iconst 3, 1) := by decide +kernel
theorem dX8_noteLent_14 : decode cX8_noteLent 14 = .ok (.aload_n 0, 1) := by decide +kernel
theorem dX8_noteLent_15 : decode cX8_noteLent 15 = .ok (.getfield 73, 3) := by decide +kernel
theorem dX8_noteLent_18 : decode cX8_noteLent 18 = .ok (.imul, 1) := by decide +kernel
theorem dX8_noteLent_19 : decode cX8_noteLent 19 = .ok (.iload_n 1, 1) := by decide +kernel
theorem dX8_noteLent_20 : decode cX8_noteLent 20 = .ok (.iastore, 1) := by decide +kernel
theorem dX8_noteLent_21 : decode cX8_noteLent 21 = .ok (.aload_n 0, 1) := by decide +kernel
theorem dX8_noteLent_22 : decode cX8_noteLent 22 = .ok (.getfield 51, 3) := by decide +kernel
theorem dX8_noteLent_25 : decode cX8_noteLent 25 = .ok (.iconst 3, 1) := by decide +kernel
theorem dX8_noteLent_26 : decode cX8_noteLent 26 = .ok (.aload_n 0, 1) := by decide +kernel
theorem dX8_noteLent_27 : decode cX8_noteLent 27 = .ok (.getfield 73, 3) := by decide +kernel
theorem dX8_noteLent_30 : decode cX8_noteLent 30 = .ok (.imul, 1) := by decide +kernel
theorem dX8_noteLent_31 : decode cX8_noteLent 31 = .ok (.iconst 1, 1) := by decide +kernel
theorem dX8_noteLent_32 : decode cX8_noteLent 32 = .ok (.iadd, 1) := by decide +kernel
theorem dX8_noteLent_33 : decode cX8_noteLent 33 = .ok (.iload_n 2, 1) := by decide +kernel
theorem dX8_noteLent_34 : decode cX8_noteLent 34 = .ok (.iastore, 1) := by decide +kernel
theorem dX8_noteLent_35 : decode cX8_noteLent 35 = .ok (.aload_n 0, 1) := by decide +kernel
theorem dX8_noteLent_36 : decode cX8_noteLent 36 = .ok (.getfield 51, 3) := by decide +kernel
theorem dX8_noteLent_39 : decode cX8_noteLent 39 = .ok (.iconst 3, 1) := by decide +kernel
theorem dX8_noteLent_40 : decode cX8_noteLent 40 = .ok (.aload_n 0, 1) := by decide +kernel
theorem dX8_noteLent_41 : decode cX8_noteLent 41 = .ok (.getfield 73, 3) := by decide +kernel
theorem dX8_noteLent_44 : decode cX8_noteLent 44 = .ok (.imul, 1) := by decide +kernel
theorem dX8_noteLent_45 : decode cX8_noteLent 45 = .ok (.iconst 2, 1) := by decide +kernel
theorem dX8_noteLent_46 : decode cX8_noteLent 46 = .ok (.iadd, 1) := by decide +kernel
theorem dX8_noteLent_47 : decode cX8_noteLent 47 = .ok (.iload_n 3, 1) := by decide +kernel
theorem dX8_noteLent_48 : decode cX8_noteLent 48 = .ok (.iastore, 1) := by decide +kernel
theorem dX8_noteLent_49 : decode cX8_noteLent 49 = .ok (.aload_n 0, 1) := by decide +kernel
theorem dX8_noteLent_50 : decode cX8_noteLent 50 = .ok (.dup, 1) := by decide +kernel
theorem dX8_noteLent_51 : decode cX8_noteLent 51 = .ok (.getfield 73, 3) := by decide +kernel
theorem dX8_noteLent_54 : decode cX8_noteLent 54 = .ok (.iconst 1, 1) := by decide +kernel
theorem dX8_noteLent_55 : decode cX8_noteLent 55 = .ok (.iadd, 1) := by decide +kernel
theorem dX8_noteLent_56 : decode cX8_noteLent 56 = .ok (.putfield 73, 3) := by decide +kernel
theorem dX8_noteLent_59 : decode cX8_noteLent 59 = .ok (.return_, 1) := by decide +kernel
theorem dX8_giveLastBack_0 : decode cX8_giveLastBack 0 = .ok (.aload_n 0, 1) := by decide +kernel
theorem dX8_giveLastBack_1 : decode cX8_giveLastBack 1 = .ok (.getfield 73, 3) := by decide +kernel
theorem dX8_giveLastBack_4 : decode cX8_giveLastBack 4 = .ok (.iconst 1, 1) := by decide +kernel
theorem dX8_giveLastBack_5 : decode cX8_giveLastBack 5 = .ok (.if_icmp .ge 5, 3) := by decide +kernel
theorem dX8_giveLastBack_8 : decode cX8_giveLastBack 8 = .ok (.iconst 0, 1) := by decide +kernel
theorem dX8_giveLastBack_9 : decode cX8_giveLastBack 9 = .ok (.ireturn, 1) := by decide +kernel
theorem dX8_giveLastBack_10 : decode cX8_giveLastBack 10 = .ok (.aload_n 0, 1) := by decide +kernel
theorem dX8_giveLastBack_11 : decode cX8_giveLastBack 11 = .ok (.getfield 51, 3) := by decide +kernel
theorem dX8_giveLastBack_14 : decode cX8_giveLastBack 14 = .ok (.iconst 3, 1) := by decide +kernel
theorem dX8_giveLastBack_15 : decode cX8_giveLastBack 15 = .ok (.aload_n 0, 1) := by decide +kernel
theorem dX8_giveLastBack_16 : decode cX8_giveLastBack 16 = .ok (.getfield 73, 3) := by decide +kernel
theorem dX8_giveLastBack_19 : decode cX8_giveLastBack 19 = .ok (.imul, 1) := by decide +kernel
theorem dX8_giveLastBack_20 : decode cX8_giveLastBack 20 = .ok (.iconst 3, 1) := by decide +kernel
theorem dX8_giveLastBack_21 : decode cX8_giveLastBack 21 = .ok (.isub, 1) := by decide +kernel
theorem dX8_giveLastBack_22 : decode cX8_giveLastBack 22 = .ok (.iaload, 1) := by decide +kernel
theorem dX8_giveLastBack_23 : decode cX8_giveLastBack 23 = .ok (.istore_n 1, 1) := by decide +kernel
theorem dX8_giveLastBack_24 : decode cX8_giveLastBack 24 = .ok (.aload_n 0, 1) := by decide +kernel
theorem dX8_giveLastBack_25 : decode cX8_giveLastBack 25 = .ok (.getfield 51, 3) := by decide +kernel
theorem dX8_giveLastBack_28 : decode cX8_giveLastBack 28 = .ok (.iconst 3, 1) := by decide +kernel
theorem dX8_giveLastBack_29 : decode cX8_giveLastBack 29 = .ok (.aload_n 0, 1) := by decide +kernel
theorem dX8_giveLastBack_30 : decode cX8_giveLastBack 30 = .ok (.getfield 73, 3) := by decide +kernel
theorem dX8_giveLastBack_33 : decode cX8_giveLastBack 33 = .ok (.imul, 1) := by decide +kernel
theorem dX8_giveLastBack_34 : decode cX8_giveLastBack 34 = .ok (.iconst 2, 1) := by decide +kernel
theorem dX8_giveLastBack_35 : decode cX8_giveLastBack 35 = .ok (.isub, 1) := by decide +kernel
theorem dX8_giveLastBack_36 : decode cX8_giveLastBack 36 = .ok (.iaload, 1) := by decide +kernel
theorem dX8_giveLastBack_37 : decode cX8_giveLastBack 37 = .ok (.istore_n 2, 1) := by decide +kernel
theorem dX8_giveLastBack_38 : decode cX8_giveLastBack 38 = .ok (.aload_n 0, 1) := by decide +kernel
theorem dX8_giveLastBack_39 : decode cX8_giveLastBack 39 = .ok (.getfield 51, 3) := by decide +kernel
theorem dX8_giveLastBack_42 : decode cX8_giveLastBack 42 = .ok (.iconst 3, 1) := by decide +kernel
theorem dX8_giveLastBack_43 : decode cX8_giveLastBack 43 = .ok (.aload_n 0, 1) := by decide +kernel
theorem dX8_giveLastBack_44 : decode cX8_giveLastBack 44 = .ok (.getfield 73, 3) := by decide +kernel
theorem dX8_giveLastBack_47 : decode cX8_giveLastBack 47 = .ok (.imul, 1) := by decide +kernel
theorem dX8_giveLastBack_48 : decode cX8_giveLastBack 48 = .ok (.iconst 1, 1) := by decide +kernel
theorem dX8_giveLastBack_49 : decode cX8_giveLastBack 49 = .ok (.isub, 1) := by decide +kernel
theorem dX8_giveLastBack_50 : decode cX8_giveLastBack 50 = .ok (.iaload, 1) := by decide +kernel
theorem dX8_giveLastBack_51 : decode cX8_giveLastBack 51 = .ok (.istore_n 3, 1) := by decide +kernel
theorem dX8_giveLastBack_52 : decode cX8_giveLastBack 52 = .ok (.aload_n 0, 1) := by decide +kernel
theorem dX8_giveLastBack_53 : decode cX8_giveLastBack 53 = .ok (.iload_n 2, 1) := by decide +kernel
theorem dX8_giveLastBack_54 : decode cX8_giveLastBack 54 = .ok (.iload_n 1, 1) := by decide +kernel
theorem dX8_giveLastBack_55 : decode cX8_giveLastBack 55 = .ok (.iload_n 3, 1) := by decide +kernel
theorem dX8_giveLastBack_56 : decode cX8_giveLastBack 56 = .ok (.invokevirtual 127, 3) := by decide +kernel
theorem dX8_giveLastBack_59 : decode cX8_giveLastBack 59 = .ok (.ifCond .ne 5, 3) := by decide +kernel
theorem dX8_giveLastBack_62 : decode cX8_giveLastBack 62 = .ok (.iconst 0, 1) := by decide +kernel
theorem dX8_giveLastBack_63 : decode cX8_giveLastBack 63 = .ok (.ireturn, 1) := by decide +kernel
theorem dX8_giveLastBack_64 : decode cX8_giveLastBack 64 = .ok (.aload_n 0, 1) := by decide +kernel
theorem dX8_giveLastBack_65 : decode cX8_giveLastBack 65 = .ok (.iload_n 2, 1) := by decide +kernel
theorem dX8_giveLastBack_66 : decode cX8_giveLastBack 66 = .ok (.iload_n 1, 1) := by decide +kernel
theorem dX8_giveLastBack_67 : decode cX8_giveLastBack 67 = .ok (.iload_n 3, 1) := by decide +kernel
theorem dX8_giveLastBack_68 : decode cX8_giveLastBack 68 = .ok (.invokevirtual 118, 3) := by decide +kernel
theorem dX8_giveLastBack_71 : decode cX8_giveLastBack 71 = .ok (.aload_n 0, 1) := by decide +kernel
theorem dX8_giveLastBack_72 : decode cX8_giveLastBack 72 = .ok (.dup, 1) := by decide +kernel
theorem dX8_giveLastBack_73 : decode cX8_giveLastBack 73 = .ok (.getfield 73, 3) := by decide +kernel
theorem dX8_giveLastBack_76 : decode cX8_giveLastBack 76 = .ok (.iconst 1, 1) := by decide +kernel
theorem dX8_giveLastBack_77 : decode cX8_giveLastBack 77 = .ok (.isub, 1) := by decide +kernel
theorem dX8_giveLastBack_78 : decode cX8_giveLastBack 78 = .ok (.putfield 73, 3) := by decide +kernel
theorem dX8_giveLastBack_81 : decode cX8_giveLastBack 81 = .ok (.iconst 1, 1) := by decide +kernel
theorem dX8_giveLastBack_82 : decode cX8_giveLastBack 82 = .ok (.ireturn, 1) := by decide +kernel
theorem dX8_draw_0 : decode cX8_draw 0 = .ok (.aload_n 0, 1) := by decide +kernel
theorem dX8_draw_1 : decode cX8_draw 1 = .ok (.aload_n 0, 1) := by decide +kernel
theorem dX8_draw_2 : decode cX8_draw 2 = .ok (.getfield 57, 3) := by decide +kernel
theorem dX8_draw_5 : decode cX8_draw 5 = .ok (.ldc 131, 2) := by decide +kernel
theorem dX8_draw_7 : decode cX8_draw 7 = .ok (.imul, 1) := by decide +kernel
theorem dX8_draw_8 : decode cX8_draw 8 = .ok (.sipush 12345, 3) := by decide +kernel
theorem dX8_draw_11 : decode cX8_draw 11 = .ok (.iadd, 1) := by decide +kernel
theorem dX8_draw_12 : decode cX8_draw 12 = .ok (.putfield 57, 3) := by decide +kernel
theorem dX8_draw_15 : decode cX8_draw 15 = .ok (.iload_n 1, 1) := by decide +kernel
theorem dX8_draw_16 : decode cX8_draw 16 = .ok (.ifCond .le 15, 3) := by decide +kernel
theorem dX8_draw_19 : decode cX8_draw 19 = .ok (.aload_n 0, 1) := by decide +kernel
theorem dX8_draw_20 : decode cX8_draw 20 = .ok (.getfield 57, 3) := by decide +kernel
theorem dX8_draw_23 : decode cX8_draw 23 = .ok (.bipush 16, 2) := by decide +kernel
theorem dX8_draw_25 : decode cX8_draw 25 = .ok (.iushr, 1) := by decide +kernel
theorem dX8_draw_26 : decode cX8_draw 26 = .ok (.iload_n 1, 1) := by decide +kernel
theorem dX8_draw_27 : decode cX8_draw 27 = .ok (.irem, 1) := by decide +kernel
theorem dX8_draw_28 : decode cX8_draw 28 = .ok (.goto 4, 3) := by decide +kernel
theorem dX8_draw_31 : decode cX8_draw 31 = .ok (.iconst 0, 1) := by decide +kernel
theorem dX8_draw_32 : decode cX8_draw 32 = .ok (.ireturn, 1) := by decide +kernel
theorem dX8_openOwedBy_0 : decode cX8_openOwedBy 0 = .ok (.aload_n 0, 1) := by decide +kernel
theorem dX8_openOwedBy_1 : decode cX8_openOwedBy 1 = .ok (.aload_n 0, 1) := by decide +kernel
theorem dX8_openOwedBy_2 : decode cX8_openOwedBy 2 = .ok (.iconst 1, 1) := by decide +kernel
theorem dX8_openOwedBy_3 : decode cX8_openOwedBy 3 = .ok (.iload_n 1, 1) := by decide +kernel
theorem dX8_openOwedBy_4 : decode cX8_openOwedBy 4 = .ok (.ishl, 1) := by decide +kernel
theorem dX8_openOwedBy_5 : decode cX8_openOwedBy 5 = .ok (.invokevirtual 132, 3) := by decide +kernel
theorem dX8_openOwedBy_8 : decode cX8_openOwedBy 8 = .ok (.invokevirtual 135, 3) := by decide +kernel
theorem dX8_openOwedBy_11 : decode cX8_openOwedBy 11 = .ok (.ireturn, 1) := by decide +kernel
theorem dX8_openOwedTo_0 : decode cX8_openOwedTo 0 = .ok (.iconst 0, 1) := by decide +kernel
theorem dX8_openOwedTo_1 : decode cX8_openOwedTo 1 = .ok (.istore_n 2, 1) := by decide +kernel
theorem dX8_openOwedTo_2 : decode cX8_openOwedTo 2 = .ok (.iconst 0, 1) := by decide +kernel
theorem dX8_openOwedTo_3 : decode cX8_openOwedTo 3 = .ok (.istore_n 3, 1) := by decide +kernel
theorem dX8_openOwedTo_4 : decode cX8_openOwedTo 4 = .ok (.iload_n 3, 1) := by decide +kernel
theorem dX8_openOwedTo_5 : decode cX8_openOwedTo 5 = .ok (.aload_n 0, 1) := by decide +kernel
theorem dX8_openOwedTo_6 : decode cX8_openOwedTo 6 = .ok (.getfield 70, 3) := by decide +kernel
theorem dX8_openOwedTo_9 : decode cX8_openOwedTo 9 = .ok (.if_icmp .ge 37, 3) := by decide +kernel
theorem dX8_openOwedTo_12 : decode cX8_openOwedTo 12 = .ok (.aload_n 0, 1) := by decide +kernel
theorem dX8_openOwedTo_13 : decode cX8_openOwedTo 13 = .ok (.getfield 42, 3) := by decide +kernel
theorem dX8_openOwedTo_16 : decode cX8_openOwedTo 16 = .ok (.iload_n 3, 1) := by decide +kernel
theorem dX8_openOwedTo_17 : decode cX8_openOwedTo 17 = .ok (.iaload, 1) := by decide +kernel
theorem dX8_openOwedTo_18 : decode cX8_openOwedTo 18 = .ok (.ifCond .ne 22, 3) := by decide +kernel
theorem dX8_openOwedTo_21 : decode cX8_openOwedTo 21 = .ok (.aload_n 0, 1) := by decide +kernel
theorem dX8_openOwedTo_22 : decode cX8_openOwedTo 22 = .ok (.getfield 33, 3) := by decide +kernel
theorem dX8_openOwedTo_25 : decode cX8_openOwedTo 25 = .ok (.iload_n 3, 1) := by decide +kernel
theorem dX8_openOwedTo_26 : decode cX8_openOwedTo 26 = .ok (.iaload, 1) := by decide +kernel
theorem dX8_openOwedTo_27 : decode cX8_openOwedTo 27 = .ok (.iload_n 1, 1) := by decide +kernel
theorem dX8_openOwedTo_28 : decode cX8_openOwedTo 28 = .ok (.if_icmp .ne 12, 3) := by decide +kernel
theorem dX8_openOwedTo_31 : decode cX8_openOwedTo 31 = .ok (.iload_n 2, 1) := by decide +kernel
theorem dX8_openOwedTo_32 : decode cX8_openOwedTo 32 = .ok (.aload_n 0, 1) := by decide +kernel
theorem dX8_openOwedTo_33 : decode cX8_openOwedTo 33 = .ok (.getfield 36, 3) := by decide +kernel
theorem dX8_openOwedTo_36 : decode cX8_openOwedTo 36 = .ok (.iload_n 3, 1) := by decide +kernel
theorem dX8_openOwedTo_37 : decode cX8_openOwedTo 37 = .ok (.iaload, 1) := by decide +kernel
theorem dX8_openOwedTo_38 : decode cX8_openOwedTo 38 = .ok (.iadd, 1) := by decide +kernel
theorem dX8_openOwedTo_39 : decode cX8_openOwedTo 39 = .ok (.istore_n 2, 1) := by decide +kernel
theorem dX8_openOwedTo_40 : decode cX8_openOwedTo 40 = .ok (.iinc 3 1, 3) := by decide +kernel
theorem dX8_openOwedTo_43 : decode cX8_openOwedTo 43 = .ok (.goto (-39), 3) := by decide +kernel
theorem dX8_openOwedTo_46 : decode cX8_openOwedTo 46 = .ok (.iload_n 2, 1) := by decide +kernel
theorem dX8_openOwedTo_47 : decode cX8_openOwedTo 47 = .ok (.ireturn, 1) := by decide +kernel
theorem dX8_openDebtsOf_0 : decode cX8_openDebtsOf 0 = .ok (.iconst 0, 1) := by decide +kernel
theorem dX8_openDebtsOf_1 : decode cX8_openDebtsOf 1 = .ok (.istore_n 2, 1) := by decide +kernel
theorem dX8_openDebtsOf_2 : decode cX8_openDebtsOf 2 = .ok (.iconst 0, 1) := by decide +kernel
theorem dX8_openDebtsOf_3 : decode cX8_openDebtsOf 3 = .ok (.istore_n 3, 1) := by decide +kernel
theorem dX8_openDebtsOf_4 : decode cX8_openDebtsOf 4 = .ok (.iload_n 3, 1) := by decide +kernel
theorem dX8_openDebtsOf_5 : decode cX8_openDebtsOf 5 = .ok (.aload_n 0, 1) := by decide +kernel
theorem dX8_openDebtsOf_6 : decode cX8_openDebtsOf 6 = .ok (.getfield 70, 3) := by decide +kernel
theorem dX8_openDebtsOf_9 : decode cX8_openDebtsOf 9 = .ok (.if_icmp .ge 37, 3) := by decide +kernel
theorem dX8_openDebtsOf_12 : decode cX8_openDebtsOf 12 = .ok (.aload_n 0, 1) := by decide +kernel
theorem dX8_openDebtsOf_13 : decode cX8_openDebtsOf 13 = .ok (.getfield 42, 3) := by decide +kernel
theorem dX8_openDebtsOf_16 : decode cX8_openDebtsOf 16 = .ok (.iload_n 3, 1) := by decide +kernel
theorem dX8_openDebtsOf_17 : decode cX8_openDebtsOf 17 = .ok (.iaload, 1) := by decide +kernel
theorem dX8_openDebtsOf_18 : decode cX8_openDebtsOf 18 = .ok (.ifCond .ne 22, 3) := by decide +kernel
theorem dX8_openDebtsOf_21 : decode cX8_openDebtsOf 21 = .ok (.iload_n 1, 1) := by decide +kernel
theorem dX8_openDebtsOf_22 : decode cX8_openDebtsOf 22 = .ok (.iconst 1, 1) := by decide +kernel
theorem dX8_openDebtsOf_23 : decode cX8_openDebtsOf 23 = .ok (.aload_n 0, 1) := by decide +kernel
theorem dX8_openDebtsOf_24 : decode cX8_openDebtsOf 24 = .ok (.getfield 30, 3) := by decide +kernel
theorem dX8_openDebtsOf_27 : decode cX8_openDebtsOf 27 = .ok (.iload_n 3, 1) := by decide +kernel
theorem dX8_openDebtsOf_28 : decode cX8_openDebtsOf 28 = .ok (.iaload, 1) := by decide +kernel
theorem dX8_openDebtsOf_29 : decode cX8_openDebtsOf 29 = .ok (.ishl, 1) := by decide +kernel
theorem dX8_openDebtsOf_30 : decode cX8_openDebtsOf 30 = .ok (.iand, 1) := by decide +kernel
theorem dX8_openDebtsOf_31 : decode cX8_openDebtsOf 31 = .ok (.ifCond .eq 9, 3) := by decide +kernel
theorem dX8_openDebtsOf_34 : decode cX8_openDebtsOf 34 = .ok (.iload_n 2, 1) := by decide +kernel
theorem dX8_openDebtsOf_35 : decode cX8_openDebtsOf 35 = .ok (.iconst 1, 1) := by decide +kernel
theorem dX8_openDebtsOf_36 : decode cX8_openDebtsOf 36 = .ok (.iload_n 3, 1) := by decide +kernel
theorem dX8_openDebtsOf_37 : decode cX8_openDebtsOf 37 = .ok (.ishl, 1) := by decide +kernel
theorem dX8_openDebtsOf_38 : decode cX8_openDebtsOf 38 = .ok (.ior, 1) := by decide +kernel
theorem dX8_openDebtsOf_39 : decode cX8_openDebtsOf 39 = .ok (.istore_n 2, 1) := by decide +kernel
theorem dX8_openDebtsOf_40 : decode cX8_openDebtsOf 40 = .ok (.iinc 3 1, 3) := by decide +kernel
theorem dX8_openDebtsOf_43 : decode cX8_openDebtsOf 43 = .ok (.goto (-39), 3) := by decide +kernel
theorem dX8_openDebtsOf_46 : decode cX8_openDebtsOf 46 = .ok (.iload_n 2, 1) := by decide +kernel
theorem dX8_openDebtsOf_47 : decode cX8_openDebtsOf 47 = .ok (.ireturn, 1) := by decide +kernel
theorem dX8_openDebts_0 : decode cX8_openDebts 0 = .ok (.aload_n 0, 1) := by decide +kernel
theorem dX8_openDebts_1 : decode cX8_openDebts 1 = .ok (.aload_n 0, 1) := by decide +kernel
theorem dX8_openDebts_2 : decode cX8_openDebts 2 = .ok (.invokevirtual 92, 3) := by decide +kernel
theorem dX8_openDebts_5 : decode cX8_openDebts 5 = .ok (.invokevirtual 132, 3) := by decide +kernel
theorem dX8_openDebts_8 : decode cX8_openDebts 8 = .ok (.ireturn, 1) := by decide +kernel
theorem dX8_openDueBy_0 : decode cX8_openDueBy 0 = .ok (.aload_n 0, 1) := by decide +kernel
theorem dX8_openDueBy_1 : decode cX8_openDueBy 1 = .ok (.invokevirtual 138, 3) := by decide +kernel
theorem dX8_openDueBy_4 : decode cX8_openDueBy 4 = .ok (.istore_n 2, 1) := by decide +kernel
theorem dX8_openDueBy_5 : decode cX8_openDueBy 5 = .ok (.iconst 0, 1) := by decide +kernel
theorem dX8_openDueBy_6 : decode cX8_openDueBy 6 = .ok (.istore_n 3, 1) := by decide +kernel
theorem dX8_openDueBy_7 : decode cX8_openDueBy 7 = .ok (.iload_n 3, 1) := by decide +kernel
theorem dX8_openDueBy_8 : decode cX8_openDueBy 8 = .ok (.aload_n 0, 1) := by decide +kernel
theorem dX8_openDueBy_9 : decode cX8_openDueBy 9 = .ok (.getfield 70, 3) := by decide +kernel
theorem dX8_openDueBy_12 : decode cX8_openDueBy 12 = .ok (.if_icmp .ge 27, 3) := by decide +kernel
theorem dX8_openDueBy_15 : decode cX8_openDueBy 15 = .ok (.aload_n 0, 1) := by decide +kernel
theorem dX8_openDueBy_16 : decode cX8_openDueBy 16 = .ok (.getfield 39, 3) := by decide +kernel
theorem dX8_openDueBy_19 : decode cX8_openDueBy 19 = .ok (.iload_n 3, 1) := by decide +kernel
theorem dX8_openDueBy_20 : decode cX8_openDueBy 20 = .ok (.iaload, 1) := by decide +kernel
theorem dX8_openDueBy_21 : decode cX8_openDueBy 21 = .ok (.iload_n 1, 1) := by decide +kernel
theorem dX8_openDueBy_22 : decode cX8_openDueBy 22 = .ok (.if_icmp .le 11, 3) := by decide +kernel
theorem dX8_openDueBy_25 : decode cX8_openDueBy 25 = .ok (.iload_n 2, 1) := by decide +kernel
theorem dX8_openDueBy_26 : decode cX8_openDueBy 26 = .ok (.iconst 1, 1) := by decide +kernel
theorem dX8_openDueBy_27 : decode cX8_openDueBy 27 = .ok (.iload_n 3, 1) := by decide +kernel
theorem dX8_openDueBy_28 : decode cX8_openDueBy 28 = .ok (.ishl, 1) := by decide +kernel
theorem dX8_openDueBy_29 : decode cX8_openDueBy 29 = .ok (.iconst (-1), 1) := by decide +kernel
theorem dX8_openDueBy_30 : decode cX8_openDueBy 30 = .ok (.ixor, 1) := by decide +kernel
theorem dX8_openDueBy_31 : decode cX8_openDueBy 31 = .ok (.iand, 1) := by decide +kernel
theorem dX8_openDueBy_32 : decode cX8_openDueBy 32 = .ok (.istore_n 2, 1) := by decide +kernel
theorem dX8_openDueBy_33 : decode cX8_openDueBy 33 = .ok (.iinc 3 1, 3) := by decide +kernel
theorem dX8_openDueBy_36 : decode cX8_openDueBy 36 = .ok (.goto (-29), 3) := by decide +kernel
theorem dX8_openDueBy_39 : decode cX8_openDueBy 39 = .ok (.iload_n 2, 1) := by decide +kernel
theorem dX8_openDueBy_40 : decode cX8_openDueBy 40 = .ok (.ireturn, 1) := by decide +kernel
theorem dX8_hasOpenDebt_0 : decode cX8_hasOpenDebt 0 = .ok (.iconst 0, 1) := by decide +kernel
theorem dX8_hasOpenDebt_1 : decode cX8_hasOpenDebt 1 = .ok (.istore_n 3, 1) := by decide +kernel
theorem dX8_hasOpenDebt_2 : decode cX8_hasOpenDebt 2 = .ok (.iload_n 3, 1) := by decide +kernel
theorem dX8_hasOpenDebt_3 : decode cX8_hasOpenDebt 3 = .ok (.aload_n 0, 1) := by decide +kernel
theorem dX8_hasOpenDebt_4 : decode cX8_hasOpenDebt 4 = .ok (.getfield 70, 3) := by decide +kernel
theorem dX8_hasOpenDebt_7 : decode cX8_hasOpenDebt 7 = .ok (.if_icmp .ge 40, 3) := by decide +kernel
theorem dX8_hasOpenDebt_10 : decode cX8_hasOpenDebt 10 = .ok (.aload_n 0, 1) := by decide +kernel
theorem dX8_hasOpenDebt_11 : decode cX8_hasOpenDebt 11 = .ok (.getfield 42, 3) := by decide +kernel
theorem dX8_hasOpenDebt_14 : decode cX8_hasOpenDebt 14 = .ok (.iload_n 3, 1) := by decide +kernel
theorem dX8_hasOpenDebt_15 : decode cX8_hasOpenDebt 15 = .ok (.iaload, 1) := by decide +kernel
theorem dX8_hasOpenDebt_16 : decode cX8_hasOpenDebt 16 = .ok (.ifCond .ne 25, 3) := by decide +kernel
theorem dX8_hasOpenDebt_19 : decode cX8_hasOpenDebt 19 = .ok (.aload_n 0, 1) := by decide +kernel
theorem dX8_hasOpenDebt_20 : decode cX8_hasOpenDebt 20 = .ok (.getfield 30, 3) := by decide +kernel
theorem dX8_hasOpenDebt_23 : decode cX8_hasOpenDebt 23 = .ok (.iload_n 3, 1) := by decide +kernel
theorem dX8_hasOpenDebt_24 : decode cX8_hasOpenDebt 24 = .ok (.iaload, 1) := by decide +kernel
theorem dX8_hasOpenDebt_25 : decode cX8_hasOpenDebt 25 = .ok (.iload_n 1, 1) := by decide +kernel
theorem dX8_hasOpenDebt_26 : decode cX8_hasOpenDebt 26 = .ok (.if_icmp .ne 15, 3) := by decide +kernel
theorem dX8_hasOpenDebt_29 : decode cX8_hasOpenDebt 29 = .ok (.aload_n 0, 1) := by decide +kernel
theorem dX8_hasOpenDebt_30 : decode cX8_hasOpenDebt 30 = .ok (.getfield 33, 3) := by decide +kernel
theorem dX8_hasOpenDebt_33 : decode cX8_hasOpenDebt 33 = .ok (.iload_n 3, 1) := by decide +kernel
theorem dX8_hasOpenDebt_34 : decode cX8_hasOpenDebt 34 = .ok (.iaload, 1) := by decide +kernel
theorem dX8_hasOpenDebt_35 : decode cX8_hasOpenDebt 35 = .ok (.iload_n 2, 1) := by decide +kernel
theorem dX8_hasOpenDebt_36 : decode cX8_hasOpenDebt 36 = .ok (.if_icmp .ne 5, 3) := by decide +kernel
theorem dX8_hasOpenDebt_39 : decode cX8_hasOpenDebt 39 = .ok (.iconst 1, 1) := by decide +kernel
theorem dX8_hasOpenDebt_40 : decode cX8_hasOpenDebt 40 = .ok (.ireturn, 1) := by decide +kernel
theorem dX8_hasOpenDebt_41 : decode cX8_hasOpenDebt 41 = .ok (.iinc 3 1, 3) := by decide +kernel
theorem dX8_hasOpenDebt_44 : decode cX8_hasOpenDebt 44 = .ok (.goto (-42), 3) := by decide +kernel
theorem dX8_hasOpenDebt_47 : decode cX8_hasOpenDebt 47 = .ok (.iconst 0, 1) := by decide +kernel
theorem dX8_hasOpenDebt_48 : decode cX8_hasOpenDebt 48 = .ok (.ireturn, 1) := by decide +kernel
theorem dX8_sumOf_0 : decode cX8_sumOf 0 = .ok (.iconst 0, 1) := by decide +kernel
theorem dX8_sumOf_1 : decode cX8_sumOf 1 = .ok (.istore_n 2, 1) := by decide +kernel
theorem dX8_sumOf_2 : decode cX8_sumOf 2 = .ok (.iconst 0, 1) := by decide +kernel
theorem dX8_sumOf_3 : decode cX8_sumOf 3 = .ok (.istore_n 3, 1) := by decide +kernel
theorem dX8_sumOf_4 : decode cX8_sumOf 4 = .ok (.iload_n 3, 1) := by decide +kernel
theorem dX8_sumOf_5 : decode cX8_sumOf 5 = .ok (.aload_n 0, 1) := by decide +kernel
theorem dX8_sumOf_6 : decode cX8_sumOf 6 = .ok (.getfield 70, 3) := by decide +kernel
theorem dX8_sumOf_9 : decode cX8_sumOf 9 = .ok (.if_icmp .ge 26, 3) := by decide +kernel
theorem dX8_sumOf_12 : decode cX8_sumOf 12 = .ok (.iload_n 1, 1) := by decide +kernel
theorem dX8_sumOf_13 : decode cX8_sumOf 13 = .ok (.iconst 1, 1) := by decide +kernel
theorem dX8_sumOf_14 : decode cX8_sumOf 14 = .ok (.iload_n 3, 1) := by decide +kernel
theorem dX8_sumOf_15 : decode cX8_sumOf 15 = .ok (.ishl, 1) := by decide +kernel
theorem dX8_sumOf_16 : decode cX8_sumOf 16 = .ok (.iand, 1) := by decide +kernel
theorem dX8_sumOf_17 : decode cX8_sumOf 17 = .ok (.ifCond .eq 12, 3) := by decide +kernel
theorem dX8_sumOf_20 : decode cX8_sumOf 20 = .ok (.iload_n 2, 1) := by decide +kernel
theorem dX8_sumOf_21 : decode cX8_sumOf 21 = .ok (.aload_n 0, 1) := by decide +kernel
theorem dX8_sumOf_22 : decode cX8_sumOf 22 = .ok (.getfield 36, 3) := by decide +kernel
theorem dX8_sumOf_25 : decode cX8_sumOf 25 = .ok (.iload_n 3, 1) := by decide +kernel
theorem dX8_sumOf_26 : decode cX8_sumOf 26 = .ok (.iaload, 1) := by decide +kernel
theorem dX8_sumOf_27 : decode cX8_sumOf 27 = .ok (.iadd, 1) := by decide +kernel
theorem dX8_sumOf_28 : decode cX8_sumOf 28 = .ok (.istore_n 2, 1) := by decide +kernel
theorem dX8_sumOf_29 : decode cX8_sumOf 29 = .ok (.iinc 3 1, 3) := by decide +kernel
theorem dX8_sumOf_32 : decode cX8_sumOf 32 = .ok (.goto (-28), 3) := by decide +kernel
theorem dX8_sumOf_35 : decode cX8_sumOf 35 = .ok (.iload_n 2, 1) := by decide +kernel
theorem dX8_sumOf_36 : decode cX8_sumOf 36 = .ok (.ireturn, 1) := by decide +kernel
theorem dX8_favoursOwedBy_0 : decode cX8_favoursOwedBy 0 = .ok (.iconst 0, 1) := by decide +kernel
theorem dX8_favoursOwedBy_1 : decode cX8_favoursOwedBy 1 = .ok (.istore_n 2, 1) := by decide +kernel
theorem dX8_favoursOwedBy_2 : decode cX8_favoursOwedBy 2 = .ok (.iconst 0, 1) := by decide +kernel
theorem dX8_favoursOwedBy_3 : decode cX8_favoursOwedBy 3 = .ok (.istore_n 3, 1) := by decide +kernel
theorem dX8_favoursOwedBy_4 : decode cX8_favoursOwedBy 4 = .ok (.iload_n 3, 1) := by decide +kernel
theorem dX8_favoursOwedBy_5 : decode cX8_favoursOwedBy 5 = .ok (.aload_n 0, 1) := by decide +kernel
theorem dX8_favoursOwedBy_6 : decode cX8_favoursOwedBy 6 = .ok (.getfield 67, 3) := by decide +kernel
theorem dX8_favoursOwedBy_9 : decode cX8_favoursOwedBy 9 = .ok (.if_icmp .ge 23, 3) := by decide +kernel
theorem dX8_favoursOwedBy_12 : decode cX8_favoursOwedBy 12 = .ok (.iload_n 2, 1) := by decide +kernel
theorem dX8_favoursOwedBy_13 : decode cX8_favoursOwedBy 13 = .ok (.aload_n 0, 1) := by decide +kernel
theorem dX8_favoursOwedBy_14 : decode cX8_favoursOwedBy 14 = .ok (.getfield 48, 3) := by decide +kernel
theorem dX8_favoursOwedBy_17 : decode cX8_favoursOwedBy 17 = .ok (.iload_n 1, 1) := by decide +kernel
theorem dX8_favoursOwedBy_18 : decode cX8_favoursOwedBy 18 = .ok (.bipush 8, 2) := by decide +kernel
theorem dX8_favoursOwedBy_20 : decode cX8_favoursOwedBy 20 = .ok (.imul, 1) := by decide +kernel
theorem dX8_favoursOwedBy_21 : decode cX8_favoursOwedBy 21 = .ok (.iload_n 3, 1) := by decide +kernel
theorem dX8_favoursOwedBy_22 : decode cX8_favoursOwedBy 22 = .ok (.iadd, 1) := by decide +kernel
theorem dX8_favoursOwedBy_23 : decode cX8_favoursOwedBy 23 = .ok (.iaload, 1) := by decide +kernel
theorem dX8_favoursOwedBy_24 : decode cX8_favoursOwedBy 24 = .ok (.iadd, 1) := by decide +kernel
theorem dX8_favoursOwedBy_25 : decode cX8_favoursOwedBy 25 = .ok (.istore_n 2, 1) := by decide +kernel
theorem dX8_favoursOwedBy_26 : decode cX8_favoursOwedBy 26 = .ok (.iinc 3 1, 3) := by decide +kernel
theorem dX8_favoursOwedBy_29 : decode cX8_favoursOwedBy 29 = .ok (.goto (-25), 3) := by decide +kernel
theorem dX8_favoursOwedBy_32 : decode cX8_favoursOwedBy 32 = .ok (.iload_n 2, 1) := by decide +kernel
theorem dX8_favoursOwedBy_33 : decode cX8_favoursOwedBy 33 = .ok (.ireturn, 1) := by decide +kernel
theorem dX8_favoursOwedTo_0 : decode cX8_favoursOwedTo 0 = .ok (.iconst 0, 1) := by decide +kernel
theorem dX8_favoursOwedTo_1 : decode cX8_favoursOwedTo 1 = .ok (.istore_n 2, 1) := by decide +kernel
theorem dX8_favoursOwedTo_2 : decode cX8_favoursOwedTo 2 = .ok (.iconst 0, 1) := by decide +kernel
theorem dX8_favoursOwedTo_3 : decode cX8_favoursOwedTo 3 = .ok (.istore_n 3, 1) := by decide +kernel
theorem dX8_favoursOwedTo_4 : decode cX8_favoursOwedTo 4 = .ok (.iload_n 3, 1) := by decide +kernel
theorem dX8_favoursOwedTo_5 : decode cX8_favoursOwedTo 5 = .ok (.aload_n 0, 1) := by decide +kernel
theorem dX8_favoursOwedTo_6 : decode cX8_favoursOwedTo 6 = .ok (.getfield 67, 3) := by decide +kernel
theorem dX8_favoursOwedTo_9 : decode cX8_favoursOwedTo 9 = .ok (.if_icmp .ge 23, 3) := by decide +kernel
theorem dX8_favoursOwedTo_12 : decode cX8_favoursOwedTo 12 = .ok (.iload_n 2, 1) := by decide +kernel
theorem dX8_favoursOwedTo_13 : decode cX8_favoursOwedTo 13 = .ok (.aload_n 0, 1) := by decide +kernel
theorem dX8_favoursOwedTo_14 : decode cX8_favoursOwedTo 14 = .ok (.getfield 48, 3) := by decide +kernel
theorem dX8_favoursOwedTo_17 : decode cX8_favoursOwedTo 17 = .ok (.iload_n 3, 1) := by decide +kernel
theorem dX8_favoursOwedTo_18 : decode cX8_favoursOwedTo 18 = .ok (.bipush 8, 2) := by decide +kernel
theorem dX8_favoursOwedTo_20 : decode cX8_favoursOwedTo 20 = .ok (.imul, 1) := by decide +kernel
theorem dX8_favoursOwedTo_21 : decode cX8_favoursOwedTo 21 = .ok (.iload_n 1, 1) := by decide +kernel
theorem dX8_favoursOwedTo_22 : decode cX8_favoursOwedTo 22 = .ok (.iadd, 1) := by decide +kernel
theorem dX8_favoursOwedTo_23 : decode cX8_favoursOwedTo 23 = .ok (.iaload, 1) := by decide +kernel
theorem dX8_favoursOwedTo_24 : decode cX8_favoursOwedTo 24 = .ok (.iadd, 1) := by decide +kernel
theorem dX8_favoursOwedTo_25 : decode cX8_favoursOwedTo 25 = .ok (.istore_n 2, 1) := by decide +kernel
theorem dX8_favoursOwedTo_26 : decode cX8_favoursOwedTo 26 = .ok (.iinc 3 1, 3) := by decide +kernel
theorem dX8_favoursOwedTo_29 : decode cX8_favoursOwedTo 29 = .ok (.goto (-25), 3) := by decide +kernel
theorem dX8_favoursOwedTo_32 : decode cX8_favoursOwedTo 32 = .ok (.iload_n 2, 1) := by decide +kernel
theorem dX8_favoursOwedTo_33 : decode cX8_favoursOwedTo 33 = .ok (.ireturn, 1) := by decide +kernel
theorem dX8_allCoin_0 : decode cX8_allCoin 0 = .ok (.iconst 0, 1) := by decide +kernel
theorem dX8_allCoin_1 : decode cX8_allCoin 1 = .ok (.istore_n 1, 1) := by decide +kernel
theorem dX8_allCoin_2 : decode cX8_allCoin 2 = .ok (.iconst 0, 1) := by decide +kernel
theorem dX8_allCoin_3 : decode cX8_allCoin 3 = .ok (.istore_n 2, 1) := by decide +kernel
theorem dX8_allCoin_4 : decode cX8_allCoin 4 = .ok (.iload_n 2, 1) := by decide +kernel
theorem dX8_allCoin_5 : decode cX8_allCoin 5 = .ok (.aload_n 0, 1) := by decide +kernel
theorem dX8_allCoin_6 : decode cX8_allCoin 6 = .ok (.getfield 67, 3) := by decide +kernel
theorem dX8_allCoin_9 : decode cX8_allCoin 9 = .ok (.if_icmp .ge 18, 3) := by decide +kernel
theorem dX8_allCoin_12 : decode cX8_allCoin 12 = .ok (.iload_n 1, 1) := by decide +kernel
theorem dX8_allCoin_13 : decode cX8_allCoin 13 = .ok (.aload_n 0, 1) := by decide +kernel
theorem dX8_allCoin_14 : decode cX8_allCoin 14 = .ok (.getfield 9, 3) := by decide +kernel
theorem dX8_allCoin_17 : decode cX8_allCoin 17 = .ok (.iload_n 2, 1) := by decide +kernel
theorem dX8_allCoin_18 : decode cX8_allCoin 18 = .ok (.iaload, 1) := by decide +kernel
theorem dX8_allCoin_19 : decode cX8_allCoin 19 = .ok (.iadd, 1) := by decide +kernel
theorem dX8_allCoin_20 : decode cX8_allCoin 20 = .ok (.istore_n 1, 1) := by decide +kernel
theorem dX8_allCoin_21 : decode cX8_allCoin 21 = .ok (.iinc 2 1, 3) := by decide +kernel
theorem dX8_allCoin_24 : decode cX8_allCoin 24 = .ok (.goto (-20), 3) := by decide +kernel
theorem dX8_allCoin_27 : decode cX8_allCoin 27 = .ok (.iload_n 1, 1) := by decide +kernel
theorem dX8_allCoin_28 : decode cX8_allCoin 28 = .ok (.ireturn, 1) := by decide +kernel
theorem dX8_isLike_0 : decode cX8_isLike 0 = .ok (.aload_n 0, 1) := by decide +kernel
theorem dX8_isLike_1 : decode cX8_isLike 1 = .ok (.getfield 67, 3) := by decide +kernel
theorem dX8_isLike_4 : decode cX8_isLike 4 = .ok (.aload_n 1, 1) := by decide +kernel
theorem dX8_isLike_5 : decode cX8_isLike 5 = .ok (.getfield 67, 3) := by decide +kernel
theorem dX8_isLike_8 : decode cX8_isLike 8 = .ok (.if_icmp .ne 18, 3) := by decide +kernel
theorem dX8_isLike_11 : decode cX8_isLike 11 = .ok (.aload_n 0, 1) := by decide +kernel
theorem dX8_isLike_12 : decode cX8_isLike 12 = .ok (.getfield 70, 3) := by decide +kernel
theorem dX8_isLike_15 : decode cX8_isLike 15 = .ok (.aload_n 1, 1) := by decide +kernel
theorem dX8_isLike_16 : decode cX8_isLike 16 = .ok (.getfield 70, 3) := by decide +kernel
theorem dX8_isLike_19 : decode cX8_isLike 19 = .ok (.if_icmp .ne 7, 3) := by decide +kernel
theorem dX8_isLike_22 : decode cX8_isLike 22 = .ok (.iconst 1, 1) := by decide +kernel
theorem dX8_isLike_23 : decode cX8_isLike 23 = .ok (.goto 4, 3) := by decide +kernel
theorem dX8_isLike_26 : decode cX8_isLike 26 = .ok (.iconst 0, 1) := by decide +kernel
theorem dX8_isLike_27 : decode cX8_isLike 27 = .ok (.istore_n 2, 1) := by decide +kernel
theorem dX8_isLike_28 : decode cX8_isLike 28 = .ok (.iconst 1, 1) := by decide +kernel
theorem dX8_isLike_29 : decode cX8_isLike 29 = .ok (.istore_n 3, 1) := by decide +kernel
theorem dX8_isLike_30 : decode cX8_isLike 30 = .ok (.iload_n 3, 1) := by decide +kernel
theorem dX8_isLike_31 : decode cX8_isLike 31 = .ok (.iconst 2, 1) := by decide +kernel
theorem dX8_isLike_32 : decode cX8_isLike 32 = .ok (.if_icmp .gt 34, 3) := by decide +kernel
theorem dX8_isLike_35 : decode cX8_isLike 35 = .ok (.iload_n 2, 1) := by decide +kernel
theorem dX8_isLike_36 : decode cX8_isLike 36 = .ok (.ifCond .eq 22, 3) := by decide +kernel
theorem dX8_isLike_39 : decode cX8_isLike 39 = .ok (.aload_n 0, 1) := by decide +kernel
theorem dX8_isLike_40 : decode cX8_isLike 40 = .ok (.getfield 54, 3) := by decide +kernel
theorem dX8_isLike_43 : decode cX8_isLike 43 = .ok (.iload_n 3, 1) := by decide +kernel
theorem dX8_isLike_44 : decode cX8_isLike 44 = .ok (.iaload, 1) := by decide +kernel
theorem dX8_isLike_45 : decode cX8_isLike 45 = .ok (.aload_n 1, 1) := by decide +kernel
theorem dX8_isLike_46 : decode cX8_isLike 46 = .ok (.getfield 54, 3) := by decide +kernel
theorem dX8_isLike_49 : decode cX8_isLike 49 = .ok (.iload_n 3, 1) := by decide +kernel
theorem dX8_isLike_50 : decode cX8_isLike 50 = .ok (.iaload, 1) := by decide +kernel
theorem dX8_isLike_51 : decode cX8_isLike 51 = .ok (.if_icmp .ne 7, 3) := by decide +kernel
theorem dX8_isLike_54 : decode cX8_isLike 54 = .ok (.iconst 1, 1) := by decide +kernel
theorem dX8_isLike_55 : decode cX8_isLike 55 = .ok (.goto 4, 3) := by decide +kernel
theorem dX8_isLike_58 : decode cX8_isLike 58 = .ok (.iconst 0, 1) := by decide +kernel
theorem dX8_isLike_59 : decode cX8_isLike 59 = .ok (.istore_n 2, 1) := by decide +kernel
theorem dX8_isLike_60 : decode cX8_isLike 60 = .ok (.iinc 3 1, 3) := by decide +kernel
theorem dX8_isLike_63 : decode cX8_isLike 63 = .ok (.goto (-33), 3) := by decide +kernel
theorem dX8_isLike_66 : decode cX8_isLike 66 = .ok (.iconst 0, 1) := by decide +kernel
theorem dX8_isLike_67 : decode cX8_isLike 67 = .ok (.istore_n 3, 1) := by decide +kernel
theorem dX8_isLike_68 : decode cX8_isLike 68 = .ok (.iload_n 3, 1) := by decide +kernel
theorem dX8_isLike_69 : decode cX8_isLike 69 = .ok (.aload_n 0, 1) := by decide +kernel
theorem dX8_isLike_70 : decode cX8_isLike 70 = .ok (.getfield 67, 3) := by decide +kernel
theorem dX8_isLike_73 : decode cX8_isLike 73 = .ok (.if_icmp .ge 64, 3) := by decide +kernel
theorem dX8_isLike_76 : decode cX8_isLike 76 = .ok (.iload_n 2, 1) := by decide +kernel
theorem dX8_isLike_77 : decode cX8_isLike 77 = .ok (.ifCond .eq 60, 3) := by decide +kernel
theorem dX8_isLike_80 : decode cX8_isLike 80 = .ok (.aload_n 0, 1) := by decide +kernel
theorem dX8_isLike_81 : decode cX8_isLike 81 = .ok (.getfield 9, 3) := by decide +kernel
theorem dX8_isLike_84 : decode cX8_isLike 84 = .ok (.iload_n 3, 1) := by decide +kernel
theorem dX8_isLike_85 : decode cX8_isLike 85 = .ok (.iaload, 1) := by decide +kernel
theorem dX8_isLike_86 : decode cX8_isLike 86 = .ok (.aload_n 1, 1) := by decide +kernel
theorem dX8_isLike_87 : decode cX8_isLike 87 = .ok (.getfield 9, 3) := by decide +kernel
theorem dX8_isLike_90 : decode cX8_isLike 90 = .ok (.iload_n 3, 1) := by decide +kernel
theorem dX8_isLike_91 : decode cX8_isLike 91 = .ok (.iaload, 1) := by decide +kernel
theorem dX8_isLike_92 : decode cX8_isLike 92 = .ok (.if_icmp .ne 37, 3) := by decide +kernel
theorem dX8_isLike_95 : decode cX8_isLike 95 = .ok (.aload_n 0, 1) := by decide +kernel
theorem dX8_isLike_96 : decode cX8_isLike 96 = .ok (.getfield 21, 3) := by decide +kernel
theorem dX8_isLike_99 : decode cX8_isLike 99 = .ok (.iload_n 3, 1) := by decide +kernel
theorem dX8_isLike_100 : decode cX8_isLike 100 = .ok (.iaload, 1) := by decide +kernel
theorem dX8_isLike_101 : decode cX8_isLike 101 = .ok (.aload_n 1, 1) := by decide +kernel
theorem dX8_isLike_102 : decode cX8_isLike 102 = .ok (.getfield 21, 3) := by decide +kernel
theorem dX8_isLike_105 : decode cX8_isLike 105 = .ok (.iload_n 3, 1) := by decide +kernel
theorem dX8_isLike_106 : decode cX8_isLike 106 = .ok (.iaload, 1) := by decide +kernel
theorem dX8_isLike_107 : decode cX8_isLike 107 = .ok (.if_icmp .ne 22, 3) := by decide +kernel
theorem dX8_isLike_110 : decode cX8_isLike 110 = .ok (.aload_n 0, 1) := by decide +kernel
theorem dX8_isLike_111 : decode cX8_isLike 111 = .ok (.getfield 24, 3) := by decide +kernel
theorem dX8_isLike_114 : decode cX8_isLike 114 = .ok (.iload_n 3, 1) := by decide +kernel
theorem dX8_isLike_115 : decode cX8_isLike 115 = .ok (.iaload, 1) := by decide +kernel
theorem dX8_isLike_116 : decode cX8_isLike 116 = .ok (.aload_n 1, 1) := by decide +kernel
theorem dX8_isLike_117 : decode cX8_isLike 117 = .ok (.getfield 24, 3) := by decide +kernel
theorem dX8_isLike_120 : decode cX8_isLike 120 = .ok (.iload_n 3, 1) := by decide +kernel
theorem dX8_isLike_121 : decode cX8_isLike 121 = .ok (.iaload, 1) := by decide +kernel
theorem dX8_isLike_122 : decode cX8_isLike 122 = .ok (.if_icmp .ne 7, 3) := by decide +kernel
theorem dX8_isLike_125 : decode cX8_isLike 125 = .ok (.iconst 1, 1) := by decide +kernel
theorem dX8_isLike_126 : decode cX8_isLike 126 = .ok (.goto 4, 3) := by decide +kernel
theorem dX8_isLike_129 : decode cX8_isLike 129 = .ok (.iconst 0, 1) := by decide +kernel
theorem dX8_isLike_130 : decode cX8_isLike 130 = .ok (.istore_n 2, 1) := by decide +kernel
theorem dX8_isLike_131 : decode cX8_isLike 131 = .ok (.iinc 3 1, 3) := by decide +kernel
theorem dX8_isLike_134 : decode cX8_isLike 134 = .ok (.goto (-66), 3) := by decide +kernel
theorem dX8_isLike_137 : decode cX8_isLike 137 = .ok (.iconst 0, 1) := by decide +kernel
theorem dX8_isLike_138 : decode cX8_isLike 138 = .ok (.istore_n 3, 1) := by decide +kernel
theorem dX8_isLike_139 : decode cX8_isLike 139 = .ok (.iload_n 3, 1) := by decide +kernel
theorem dX8_isLike_140 : decode cX8_isLike 140 = .ok (.aload_n 0, 1) := by decide +kernel
theorem dX8_isLike_141 : decode cX8_isLike 141 = .ok (.getfield 70, 3) := by decide +kernel
theorem dX8_isLike_144 : decode cX8_isLike 144 = .ok (.if_icmp .ge 34, 3) := by decide +kernel
theorem dX8_isLike_147 : decode cX8_isLike 147 = .ok (.iload_n 2, 1) := by decide +kernel
theorem dX8_isLike_148 : decode cX8_isLike 148 = .ok (.ifCond .eq 30, 3) := by decide +kernel
theorem dX8_isLike_151 : decode cX8_isLike 151 = .ok (.aload_n 0, 1) := by decide +kernel
theorem dX8_isLike_152 : decode cX8_isLike 152 = .ok (.getfield 42, 3) := by decide +kernel
theorem dX8_isLike_155 : decode cX8_isLike 155 = .ok (.iload_n 3, 1) := by decide +kernel
theorem dX8_isLike_156 : decode cX8_isLike 156 = .ok (.iaload, 1) := by decide +kernel
theorem dX8_isLike_157 : decode cX8_isLike 157 = .ok (.aload_n 1, 1) := by decide +kernel
theorem dX8_isLike_158 : decode cX8_isLike 158 = .ok (.getfield 42, 3) := by decide +kernel
theorem dX8_isLike_161 : decode cX8_isLike 161 = .ok (.iload_n 3, 1) := by decide +kernel
theorem dX8_isLike_162 : decode cX8_isLike 162 = .ok (.iaload, 1) := by decide +kernel
theorem dX8_isLike_163 : decode cX8_isLike 163 = .ok (.if_icmp .ne 7, 3) := by decide +kernel
theorem dX8_isLike_166 : decode cX8_isLike 166 = .ok (.iconst 1, 1) := by decide +kernel
theorem dX8_isLike_167 : decode cX8_isLike 167 = .ok (.goto 4, 3) := by decide +kernel
theorem dX8_isLike_170 : decode cX8_isLike 170 = .ok (.iconst 0, 1) := by decide +kernel
theorem dX8_isLike_171 : decode cX8_isLike 171 = .ok (.istore_n 2, 1) := by decide +kernel
theorem dX8_isLike_172 : decode cX8_isLike 172 = .ok (.iinc 3 1, 3) := by decide +kernel
theorem dX8_isLike_175 : decode cX8_isLike 175 = .ok (.goto (-36), 3) := by decide +kernel
theorem dX8_isLike_178 : decode cX8_isLike 178 = .ok (.iload_n 2, 1) := by decide +kernel
theorem dX8_isLike_179 : decode cX8_isLike 179 = .ok (.ireturn, 1) := by decide +kernel
theorem dX9_init_0 : decode cX9_init 0 = .ok (.aload_n 0, 1) := by decide +kernel
theorem dX9_init_1 : decode cX9_init 1 = .ok (.invokespecial 3, 3) := by decide +kernel
theorem dX9_init_4 : decode cX9_init 4 = .ok (.return_, 1) := by decide +kernel
theorem dX9_read_0 : decode cX9_read 0 = .ok (.aload_n 1, 1) := by decide +kernel
theorem dX9_read_1 : decode cX9_read 1 = .ok (.invokevirtual 9, 3) := by decide +kernel
theorem dX9_read_4 : decode cX9_read 4 = .ok (.ifCond .ne 5, 3) := by decide +kernel
theorem dX9_read_7 : decode cX9_read 7 = .ok (.iconst 0, 1) := by decide +kernel
theorem dX9_read_8 : decode cX9_read 8 = .ok (.ireturn, 1) := by decide +kernel
theorem dX9_read_9 : decode cX9_read 9 = .ok (.aload_n 0, 1) := by decide +kernel
theorem dX9_read_10 : decode cX9_read 10 = .ok (.bipush 76, 2) := by decide +kernel
theorem dX9_read_12 : decode cX9_read 12 = .ok (.aload_n 1, 1) := by decide +kernel
theorem dX9_read_13 : decode cX9_read 13 = .ok (.invokevirtual 9, 3) := by decide +kernel
theorem dX9_read_16 : decode cX9_read 16 = .ok (.invokestatic 17, 3) := by decide +kernel
theorem dX9_read_19 : decode cX9_read 19 = .ok (.putfield 23, 3) := by decide +kernel
theorem dX9_read_22 : decode cX9_read 22 = .ok (.aload_n 0, 1) := by decide +kernel
theorem dX9_read_23 : decode cX9_read 23 = .ok (.iconst 0, 1) := by decide +kernel
theorem dX9_read_24 : decode cX9_read 24 = .ok (.putfield 27, 3) := by decide +kernel
theorem dX9_read_27 : decode cX9_read 27 = .ok (.aload_n 2, 1) := by decide +kernel
theorem dX9_read_28 : decode cX9_read 28 = .ok (.getfield 30, 3) := by decide +kernel
theorem dX9_read_31 : decode cX9_read 31 = .ok (.istore_n 3, 1) := by decide +kernel
theorem dX9_read_32 : decode cX9_read 32 = .ok (.aload_n 2, 1) := by decide +kernel
theorem dX9_read_33 : decode cX9_read 33 = .ok (.getfield 35, 3) := by decide +kernel
theorem dX9_read_36 : decode cX9_read 36 = .ok (.istore 4, 2) := by decide +kernel
theorem dX9_read_38 : decode cX9_read 38 = .ok (.iconst 0, 1) := by decide +kernel
theorem dX9_read_39 : decode cX9_read 39 = .ok (.istore 5, 2) := by decide +kernel
theorem dX9_read_41 : decode cX9_read 41 = .ok (.iconst 1, 1) := by decide +kernel
theorem dX9_read_42 : decode cX9_read 42 = .ok (.istore 6, 2) := by decide +kernel
theorem dX9_read_44 : decode cX9_read 44 = .ok (.iload 6, 2) := by decide +kernel
theorem dX9_read_46 : decode cX9_read 46 = .ok (.ifCond .eq 54, 3) := by decide +kernel
theorem dX9_read_49 : decode cX9_read 49 = .ok (.iload 5, 2) := by decide +kernel
theorem dX9_read_51 : decode cX9_read 51 = .ok (.bipush 76, 2) := by decide +kernel
theorem dX9_read_53 : decode cX9_read 53 = .ok (.if_icmp .gt 47, 3) := by decide +kernel
theorem dX9_read_56 : decode cX9_read 56 = .ok (.aload_n 0, 1) := by decide +kernel
theorem dX9_read_57 : decode cX9_read 57 = .ok (.aload_n 1, 1) := by decide +kernel
theorem dX9_read_58 : decode cX9_read 58 = .ok (.aload_n 2, 1) := by decide +kernel
theorem dX9_read_59 : decode cX9_read 59 = .ok (.invokevirtual 38, 3) := by decide +kernel
theorem dX9_read_62 : decode cX9_read 62 = .ok (.istore 6, 2) := by decide +kernel
theorem dX9_read_64 : decode cX9_read 64 = .ok (.iload 6, 2) := by decide +kernel
theorem dX9_read_66 : decode cX9_read 66 = .ok (.ifCond .eq (-22), 3) := by decide +kernel
theorem dX9_read_69 : decode cX9_read 69 = .ok (.iinc 5 1, 3) := by decide +kernel
theorem dX9_read_72 : decode cX9_read 72 = .ok (.aload_n 0, 1) := by decide +kernel
theorem dX9_read_73 : decode cX9_read 73 = .ok (.aload_n 1, 1) := by decide +kernel
theorem dX9_read_74 : decode cX9_read 74 = .ok (.bipush 59, 2) := by decide +kernel
theorem dX9_read_76 : decode cX9_read 76 = .ok (.invokevirtual 42, 3) := by decide +kernel
theorem dX9_read_79 : decode cX9_read 79 = .ok (.istore 6, 2) := by decide +kernel
theorem dX9_read_81 : decode cX9_read 81 = .ok (.iload 6, 2) := by decide +kernel
theorem dX9_read_83 : decode cX9_read 83 = .ok (.ifCond .ne (-39), 3) := by decide +kernel
theorem dX9_read_86 : decode cX9_read 86 = .ok (.aload_n 0, 1) := by decide +kernel
theorem dX9_read_87 : decode cX9_read 87 = .ok (.getfield 27, 3) := by decide +kernel
theorem dX9_read_90 : decode cX9_read 90 = .ok (.aload_n 1, 1) := by decide +kernel
theorem dX9_read_91 : decode cX9_read 91 = .ok (.invokevirtual 9, 3) := by decide +kernel
theorem dX9_read_94 : decode cX9_read 94 = .ok (.if_icmp .ne (-50), 3) := by decide +kernel
theorem dX9_read_97 : decode cX9_read 97 = .ok (.iload 5, 2) := by decide +kernel
theorem dX9_read_99 : decode cX9_read 99 = .ok (.ireturn, 1) := by decide +kernel
theorem dX9_read_100 : decode cX9_read 100 = .ok (.aload_n 2, 1) := by decide +kernel
theorem dX9_read_101 : decode cX9_read 101 = .ok (.iload_n 3, 1) := by decide +kernel
theorem dX9_read_102 : decode cX9_read 102 = .ok (.putfield 30, 3) := by decide +kernel
theorem dX9_read_105 : decode cX9_read 105 = .ok (.aload_n 2, 1) := by decide +kernel
theorem dX9_read_106 : decode cX9_read 106 = .ok (.iload 4, 2) := by decide +kernel
theorem dX9_read_108 : decode cX9_read 108 = .ok (.putfield 35, 3) := by decide +kernel
theorem dX9_read_111 : decode cX9_read 111 = .ok (.iconst (-1), 1) := by decide +kernel
theorem dX9_read_112 : decode cX9_read 112 = .ok (.aload_n 0, 1) := by decide +kernel
theorem dX9_read_113 : decode cX9_read 113 = .ok (.getfield 27, 3) := by decide +kernel
theorem dX9_read_116 : decode cX9_read 116 = .ok (.isub, 1) := by decide +kernel
theorem dX9_read_117 : decode cX9_read 117 = .ok (.ireturn, 1) := by decide +kernel
theorem dX9_peek_0 : decode cX9_peek 0 = .ok (.aload_n 0, 1) := by decide +kernel
theorem dX9_peek_1 : decode cX9_peek 1 = .ok (.getfield 27, 3) := by decide +kernel
theorem dX9_peek_4 : decode cX9_peek 4 = .ok (.aload_n 0, 1) := by decide +kernel
theorem dX9_peek_5 : decode cX9_peek 5 = .ok (.getfield 23, 3) := by decide +kernel
theorem dX9_peek_8 : decode cX9_peek 8 = .ok (.if_icmp .ge 14, 3) := by decide +kernel
theorem dX9_peek_11 : decode cX9_peek 11 = .ok (.aload_n 1, 1) := by decide +kernel
theorem dX9_peek_12 : decode cX9_peek 12 = .ok (.aload_n 0, 1) := by decide +kernel
theorem dX9_peek_13 : decode cX9_peek 13 = .ok (.getfield 27, 3) := by decide +kernel
theorem dX9_peek_16 : decode cX9_peek 16 = .ok (.invokevirtual 46, 3) := by decide +kernel
theorem dX9_peek_19 : decode cX9_peek 19 = .ok (.goto 4, 3) := by decide +kernel
theorem dX9_peek_22 : decode cX9_peek 22 = .ok (.iconst (-1), 1) := by decide +kernel
theorem dX9_peek_23 : decode cX9_peek 23 = .ok (.ireturn, 1) := by decide +kernel
theorem dX9_takes_0 : decode cX9_takes 0 = .ok (.aload_n 0, 1) := by decide +kernel
theorem dX9_takes_1 : decode cX9_takes 1 = .ok (.aload_n 1, 1) := by decide +kernel
theorem dX9_takes_2 : decode cX9_takes 2 = .ok (.invokevirtual 50, 3) := by decide +kernel
theorem dX9_takes_5 : decode cX9_takes 5 = .ok (.iload_n 2, 1) := by decide +kernel
theorem dX9_takes_6 : decode cX9_takes 6 = .ok (.if_icmp .eq 5, 3) := by decide +kernel
theorem dX9_takes_9 : decode cX9_takes 9 = .ok (.iconst 0, 1) := by decide +kernel
theorem dX9_takes_10 : decode cX9_takes 10 = .ok (.ireturn, 1) := by decide +kernel
theorem dX9_takes_11 : decode cX9_takes 11 = .ok (.aload_n 0, 1) := by decide +kernel
theorem dX9_takes_12 : decode cX9_takes 12 = .ok (.dup, 1) := by decide +kernel
theorem dX9_takes_13 : decode cX9_takes 13 = .ok (.getfield 27, 3) := by decide +kernel
theorem dX9_takes_16 : decode cX9_takes 16 = .ok (.iconst 1, 1) := by decide +kernel
theorem dX9_takes_17 : decode cX9_takes 17 = .ok (.iadd, 1) := by decide +kernel
theorem dX9_takes_18 : decode cX9_takes 18 = .ok (.putfield 27, 3) := by decide +kernel
theorem dX9_takes_21 : decode cX9_takes 21 = .ok (.iconst 1, 1) := by decide +kernel
theorem dX9_takes_22 : decode cX9_takes 22 = .ok (.ireturn, 1) := by decide +kernel
theorem dX9_isDigit_0 : decode cX9_isDigit 0 = .ok (.iload_n 0, 1) := by decide +kernel
theorem dX9_isDigit_1 : decode cX9_isDigit 1 = .ok (.bipush 48, 2) := by decide +kernel
theorem dX9_isDigit_3 : decode cX9_isDigit 3 = .ok (.if_icmp .lt 13, 3) := by decide +kernel
theorem dX9_isDigit_6 : decode cX9_isDigit 6 = .ok (.iload_n 0, 1) := by decide +kernel
theorem dX9_isDigit_7 : decode cX9_isDigit 7 = .ok (.bipush 57, 2) := by decide +kernel
theorem dX9_isDigit_9 : decode cX9_isDigit 9 = .ok (.if_icmp .gt 7, 3) := by decide +kernel
theorem dX9_isDigit_12 : decode cX9_isDigit 12 = .ok (.iconst 1, 1) := by decide +kernel
theorem dX9_isDigit_13 : decode cX9_isDigit 13 = .ok (.goto 4, 3) := by decide +kernel
theorem dX9_isDigit_16 : decode cX9_isDigit 16 = .ok (.iconst 0, 1) := by decide +kernel
theorem dX9_isDigit_17 : decode cX9_isDigit 17 = .ok (.ireturn, 1) := by decide +kernel
theorem dX9_readLine_0 : decode cX9_readLine 0 = .ok (.aload_n 0, 1) := by decide +kernel
theorem dX9_readLine_1 : decode cX9_readLine 1 = .ok (.aload_n 1, 1) := by decide +kernel
theorem dX9_readLine_2 : decode cX9_readLine 2 = .ok (.invokevirtual 50, 3) := by decide +kernel
theorem dX9_readLine_5 : decode cX9_readLine 5 = .ok (.invokestatic 54, 3) := by decide +kernel
theorem dX9_readLine_8 : decode cX9_readLine 8 = .ok (.ifCond .eq 27, 3) := by decide +kernel
theorem dX9_readLine_11 : decode cX9_readLine 11 = .ok (.aload_n 2, 1) := by decide +kernel
theorem dX9_readLine_12 : decode cX9_readLine 12 = .ok (.getfield 30, 3) := by decide +kernel
theorem dX9_readLine_15 : decode cX9_readLine 15 = .ok (.bipush 8, 2) := by decide +kernel
theorem dX9_readLine_17 : decode cX9_readLine 17 = .ok (.if_icmp .ge 16, 3) := by decide +kernel
theorem dX9_readLine_20 : decode cX9_readLine 20 = .ok (.aload_n 0, 1) := by decide +kernel
theorem dX9_readLine_21 : decode cX9_readLine 21 = .ok (.aload_n 1, 1) := by decide +kernel
theorem dX9_readLine_22 : decode cX9_readLine 22 = .ok (.aload_n 2, 1) := by decide +kernel
theorem dX9_readLine_23 : decode cX9_readLine 23 = .ok (.invokevirtual 58, 3) := by decide +kernel
theorem dX9_readLine_26 : decode cX9_readLine 26 = .ok (.ifCond .eq 7, 3) := by decide +kernel
theorem dX9_readLine_29 : decode cX9_readLine 29 = .ok (.iconst 1, 1) := by decide +kernel
theorem dX9_readLine_30 : decode cX9_readLine 30 = .ok (.goto 4, 3) := by decide +kernel
theorem dX9_readLine_33 : decode cX9_readLine 33 = .ok (.iconst 0, 1) := by decide +kernel
theorem dX9_readLine_34 : decode cX9_readLine 34 = .ok (.ireturn, 1) := by decide +kernel
theorem dX9_readLine_35 : decode cX9_readLine 35 = .ok (.aload_n 0, 1) := by decide +kernel
theorem dX9_readLine_36 : decode cX9_readLine 36 = .ok (.aload_n 1, 1) := by decide +kernel
theorem dX9_readLine_37 : decode cX9_readLine 37 = .ok (.invokevirtual 50, 3) := by decide +kernel
theorem dX9_readLine_40 : decode cX9_readLine 40 = .ok (.bipush 100, 2) := by decide +kernel
theorem dX9_readLine_42 : decode cX9_readLine 42 = .ok (.if_icmp .ne 25, 3) := by decide +kernel
theorem dX9_readLine_45 : decode cX9_readLine 45 = .ok (.aload_n 2, 1) := by decide +kernel
theorem dX9_readLine_46 : decode cX9_readLine 46 = .ok (.getfield 35, 3) := by decide +kernel
theorem dX9_readLine_49 : decode cX9_readLine 49 = .ok (.bipush 10, 2) := by decide +kernel
theorem dX9_readLine_51 : decode cX9_readLine 51 = .ok (.if_icmp .ge 16, 3) := by decide +kernel
theorem dX9_readLine_54 : decode cX9_readLine 54 = .ok (.aload_n 0, 1) := by decide +kernel
theorem dX9_readLine_55 : decode cX9_readLine 55 = .ok (.aload_n 1, 1) := by decide +kernel
theorem dX9_readLine_56 : decode cX9_readLine 56 = .ok (.aload_n 2, 1) := by decide +kernel
theorem dX9_readLine_57 : decode cX9_readLine 57 = .ok (.invokevirtual 61, 3) := by decide +kernel
theorem dX9_readLine_60 : decode cX9_readLine 60 = .ok (.ifCond .eq 7, 3) := by decide +kernel
theorem dX9_readLine_63 : decode cX9_readLine 63 = .ok (.iconst 1, 1) := by decide +kernel
theorem dX9_readLine_64 : decode cX9_readLine 64 = .ok (.goto 4, 3) := by decide +kernel
theorem dX9_readLine_67 : decode cX9_readLine 67 = .ok (.iconst 0, 1) := by decide +kernel
theorem dX9_readLine_68 : decode cX9_readLine 68 = .ok (.ireturn, 1) := by decide +kernel
theorem dX9_readPerson_0 : decode cX9_readPerson 0 = .ok (.aload_n 0, 1) := by decide +kernel
theorem dX9_readPerson_1 : decode cX9_readPerson 1 = .ok (.aload_n 1, 1) := by decide +kernel
theorem dX9_readPerson_2 : decode cX9_readPerson 2 = .ok (.iconst 3, 1) := by decide +kernel
theorem dX9_readPerson_3 : decode cX9_readPerson 3 = .ok (.invokevirtual 64, 3) := by decide +kernel
theorem dX9_readPerson_6 : decode cX9_readPerson 6 = .ok (.istore_n 3, 1) := by decide +kernel
theorem dX9_readPerson_7 : decode cX9_readPerson 7 = .ok (.aload_n 0, 1) := by decide +kernel
theorem dX9_readPerson_8 : decode cX9_readPerson 8 = .ok (.aload_n 1, 1) := by decide +kernel
theorem dX9_readPerson_9 : decode cX9_readPerson 9 = .ok (.bipush 44, 2) := by decide +kernel
theorem dX9_readPerson_11 : decode cX9_readPerson 11 = .ok (.invokevirtual 42, 3) := by decide +kernel
theorem dX9_readPerson_14 : decode cX9_readPerson 14 = .ok (.ifCond .ne 5, 3) := by decide +kernel
theorem dX9_readPerson_17 : decode cX9_readPerson 17 = .ok (.iconst 0, 1) := by decide +kernel
theorem dX9_readPerson_18 : decode cX9_readPerson 18 = .ok (.ireturn, 1) := by decide +kernel
theorem dX9_readPerson_19 : decode cX9_readPerson 19 = .ok (.aload_n 0, 1) := by decide +kernel
theorem dX9_readPerson_20 : decode cX9_readPerson 20 = .ok (.aload_n 1, 1) := by decide +kernel
theorem dX9_readPerson_21 : decode cX9_readPerson 21 = .ok (.iconst 2, 1) := by decide +kernel
theorem dX9_readPerson_22 : decode cX9_readPerson 22 = .ok (.invokevirtual 64, 3) := by decide +kernel
theorem dX9_readPerson_25 : decode cX9_readPerson 25 = .ok (.istore 4, 2) := by decide +kernel
theorem dX9_readPerson_27 : decode cX9_readPerson 27 = .ok (.iload 4, 2) := by decide +kernel
theorem dX9_readPerson_29 : decode cX9_readPerson 29 = .ok (.ifCond .ge 5, 3) := by decide +kernel
theorem dX9_readPerson_32 : decode cX9_readPerson 32 = .ok (.iconst 0, 1) := by decide +kernel
theorem dX9_readPerson_33 : decode cX9_readPerson 33 = .ok (.ireturn, 1) := by decide +kernel
theorem dX9_readPerson_34 : decode cX9_readPerson 34 = .ok (.aload_n 2, 1) := by decide +kernel
theorem dX9_readPerson_35 : decode cX9_readPerson 35 = .ok (.iload_n 3, 1) := by decide +kernel
theorem dX9_readPerson_36 : decode cX9_readPerson 36 = .ok (.iload 4, 2) := by decide +kernel
theorem dX9_readPerson_38 : decode cX9_readPerson 38 = .ok (.aload_n 0, 1) := by decide +kernel
theorem dX9_readPerson_39 : decode cX9_readPerson 39 = .ok (.aload_n 1, 1) := by decide +kernel
theorem dX9_readPerson_40 : decode cX9_readPerson 40 = .ok (.bipush 33, 2) := by decide +kernel
theorem dX9_readPerson_42 : decode cX9_readPerson 42 = .ok (.invokevirtual 42, 3) := by decide +kernel
theorem dX9_readPerson_45 : decode cX9_readPerson 45 = .ok (.invokevirtual 68, 3) := by decide +kernel
theorem dX9_readPerson_48 : decode cX9_readPerson 48 = .ok (.ireturn, 1) := by decide +kernel
theorem dX9_readDebt_0 : decode cX9_readDebt 0 = .ok (.aload_n 0, 1) := by decide +kernel
theorem dX9_readDebt_1 : decode cX9_readDebt 1 = .ok (.dup, 1) := by decide +kernel
theorem dX9_readDebt_2 : decode cX9_readDebt 2 = .ok (.getfield 27, 3) := by decide +kernel
theorem dX9_readDebt_5 : decode cX9_readDebt 5 = .ok (.iconst 1, 1) := by decide +kernel
theorem dX9_readDebt_6 : decode cX9_readDebt 6 = .ok (.iadd, 1) := by decide +kernel
theorem dX9_readDebt_7 : decode cX9_readDebt 7 = .ok (.putfield 27, 3) := by decide +kernel
theorem dX9_readDebt_10 : decode cX9_readDebt 10 = .ok (.aload_n 0, 1) := by decide +kernel
theorem dX9_readDebt_11 : decode cX9_readDebt 11 = .ok (.aload_n 1, 1) := by decide +kernel
theorem dX9_readDebt_12 : decode cX9_readDebt 12 = .ok (.aload_n 2, 1) := by decide +kernel
theorem dX9_readDebt_13 : decode cX9_readDebt 13 = .ok (.iconst (-1), 1) := by decide +kernel
theorem dX9_readDebt_14 : decode cX9_readDebt 14 = .ok (.invokevirtual 72, 3) := by decide +kernel
theorem dX9_readDebt_17 : decode cX9_readDebt 17 = .ok (.istore_n 3, 1) := by decide +kernel
theorem dX9_readDebt_18 : decode cX9_readDebt 18 = .ok (.iload_n 3, 1) := by decide +kernel
theorem dX9_readDebt_19 : decode cX9_readDebt 19 = .ok (.ifCond .lt 13, 3) := by decide +kernel
theorem dX9_readDebt_22 : decode cX9_readDebt 22 = .ok (.aload_n 0, 1) := by decide +kernel
theorem dX9_readDebt_23 : decode cX9_readDebt 23 = .ok (.aload_n 1, 1) := by decide +kernel
theorem dX9_readDebt_24 : decode cX9_readDebt 24 = .ok (.bipush 62, 2) := by decide +kernel
theorem dX9_readDebt_26 : decode cX9_readDebt 26 = .ok (.invokevirtual 42, 3) := by decide +kernel
theorem dX9_readDebt_29 : decode cX9_readDebt 29 = .ok (.ifCond .ne 5, 3) := by decide +kernel
theorem dX9_readDebt_32 : decode cX9_readDebt 32 = .ok (.iconst 0, 1) := by decide +kernel
theorem dX9_readDebt_33 : decode cX9_readDebt 33 = .ok (.ireturn, 1) := by decide +kernel
theorem dX9_readDebt_34 : decode cX9_readDebt 34 = .ok (.aload_n 0, 1) := by decide +kernel
theorem dX9_readDebt_35 : decode cX9_readDebt 35 = .ok (.aload_n 1, 1) := by decide +kernel
theorem dX9_readDebt_36 : decode cX9_readDebt 36 = .ok (.aload_n 2, 1) := by decide +kernel
theorem dX9_readDebt_37 : decode cX9_readDebt 37 = .ok (.iload_n 3, 1) := by decide +kernel
theorem dX9_readDebt_38 : decode cX9_readDebt 38 = .ok (.invokevirtual 72, 3) := by decide +kernel
theorem dX9_readDebt_41 : decode cX9_readDebt 41 = .ok (.istore 4, 2) := by decide +kernel
theorem dX9_readDebt_43 : decode cX9_readDebt 43 = .ok (.iload 4, 2) := by decide +kernel
theorem dX9_readDebt_45 : decode cX9_readDebt 45 = .ok (.ifCond .lt 13, 3) := by decide +kernel
theorem dX9_readDebt_48 : decode cX9_readDebt 48 = .ok (.aload_n 0, 1) := by decide +kernel
theorem dX9_readDebt_49 : decode cX9_readDebt 49 = .ok (.aload_n 1, 1) := by decide +kernel
theorem dX9_readDebt_50 : decode cX9_readDebt 50 = .ok (.bipush 42, 2) := by decide +kernel
theorem dX9_readDebt_52 : decode cX9_readDebt 52 = .ok (.invokevirtual 42, 3) := by decide +kernel
theorem dX9_readDebt_55 : decode cX9_readDebt 55 = .ok (.ifCond .ne 5, 3) := by decide +kernel
theorem dX9_readDebt_58 : decode cX9_readDebt 58 = .ok (.iconst 0, 1) := by decide +kernel
theorem dX9_readDebt_59 : decode cX9_readDebt 59 = .ok (.ireturn, 1) := by decide +kernel
theorem dX9_readDebt_60 : decode cX9_readDebt 60 = .ok (.aload_n 0, 1) := by decide +kernel
theorem dX9_readDebt_61 : decode cX9_readDebt 61 = .ok (.aload_n 1, 1) := by decide +kernel
theorem dX9_readDebt_62 : decode cX9_readDebt 62 = .ok (.iconst 2, 1) := by decide +kernel
theorem dX9_readDebt_63 : decode cX9_readDebt 63 = .ok (.invokevirtual 64, 3) := by decide +kernel
theorem dX9_readDebt_66 : decode cX9_readDebt 66 = .ok (.istore 5, 2) := by decide +kernel
theorem dX9_readDebt_68 : decode cX9_readDebt 68 = .ok (.iload 5, 2) := by decide +kernel
theorem dX9_readDebt_70 : decode cX9_readDebt 70 = .ok (.ifCond .ne 13, 3) := by decide +kernel
theorem dX9_readDebt_73 : decode cX9_readDebt 73 = .ok (.aload_n 0, 1) := by decide +kernel
theorem dX9_readDebt_74 : decode cX9_readDebt 74 = .ok (.dup, 1) := by decide +kernel
theorem dX9_readDebt_75 : decode cX9_readDebt 75 = .ok (.getfield 27, 3) := by decide +kernel
theorem dX9_readDebt_78 : decode cX9_readDebt 78 = .ok (.iconst 1, 1) := by decide +kernel
theorem dX9_readDebt_79 : decode cX9_readDebt 79 = .ok (.isub, 1) := by decide +kernel
theorem dX9_readDebt_80 : decode cX9_readDebt 80 = .ok (.putfield 27, 3) := by decide +kernel
theorem dX9_readDebt_83 : decode cX9_readDebt 83 = .ok (.iload 5, 2) := by decide +kernel
theorem dX9_readDebt_85 : decode cX9_readDebt 85 = .ok (.ifCond .le 13, 3) := by decide +kernel
theorem dX9_readDebt_88 : decode cX9_readDebt 88 = .ok (.aload_n 0, 1) := by decide +kernel
theorem dX9_readDebt_89 : decode cX9_readDebt 89 = .ok (.aload_n 1, 1) := by decide +kernel
theorem dX9_readDebt_90 : decode cX9_readDebt 90 = .ok (.bipush 64, 2) := by decide +kernel
theorem dX9_readDebt_92 : decode cX9_readDebt 92 = .ok (.invokevirtual 42, 3) := by decide +kernel
theorem dX9_readDebt_95 : decode cX9_readDebt 95 = .ok (.ifCond .ne 5, 3) := by decide +kernel
theorem dX9_readDebt_98 : decode cX9_readDebt 98 = .ok (.iconst 0, 1) := by decide +kernel
theorem dX9_readDebt_99 : decode cX9_readDebt 99 = .ok (.ireturn, 1) := by decide +kernel
theorem dX9_readDebt_100 : decode cX9_readDebt 100 = .ok (.aload_n 0, 1) := by decide +kernel
theorem dX9_readDebt_101 : decode cX9_readDebt 101 = .ok (.aload_n 1, 1) := by decide +kernel
theorem dX9_readDebt_102 : decode cX9_readDebt 102 = .ok (.iconst 2, 1) := by decide +kernel
theorem dX9_readDebt_103 : decode cX9_readDebt 103 = .ok (.invokevirtual 64, 3) := by decide +kernel
theorem dX9_readDebt_106 : decode cX9_readDebt 106 = .ok (.istore 6, 2) := by decide +kernel
theorem dX9_readDebt_108 : decode cX9_readDebt 108 = .ok (.iload 6, 2) := by decide +kernel
theorem dX9_readDebt_110 : decode cX9_readDebt 110 = .ok (.ifCond .lt 21, 3) := by decide +kernel
theorem dX9_readDebt_113 : decode cX9_readDebt 113 = .ok (.aload_n 2, 1) := by decide +kernel
theorem dX9_readDebt_114 : decode cX9_readDebt 114 = .ok (.iload_n 3, 1) := by decide +kernel
theorem dX9_readDebt_115 : decode cX9_readDebt 115 = .ok (.iload 4, 2) := by decide +kernel
theorem dX9_readDebt_117 : decode cX9_readDebt 117 = .ok (.iload 5, 2) := by decide +kernel
theorem dX9_readDebt_119 : decode cX9_readDebt 119 = .ok (.iload 6, 2) := by decide +kernel
theorem dX9_readDebt_121 : decode cX9_readDebt 121 = .ok (.invokevirtual 76, 3) := by decide +kernel
theorem dX9_readDebt_124 : decode cX9_readDebt 124 = .ok (.ifCond .eq 7, 3) := by decide +kernel
theorem dX9_readDebt_127 : decode cX9_readDebt 127 = .ok (.iconst 1, 1) := by decide +kernel
theorem dX9_readDebt_128 : decode cX9_readDebt 128 = .ok (.goto 4, 3) := by decide +kernel
theorem dX9_readDebt_131 : decode cX9_readDebt 131 = .ok (.iconst 0, 1) := by decide +kernel
theorem dX9_readDebt_132 : decode cX9_readDebt 132 = .ok (.ireturn, 1) := by decide +kernel
theorem dX9_person_0 : decode cX9_person 0 = .ok (.aload_n 0, 1) := by decide +kernel
theorem dX9_person_1 : decode cX9_person 1 = .ok (.aload_n 1, 1) := by decide +kernel
theorem dX9_person_2 : decode cX9_person 2 = .ok (.invokevirtual 50, 3) := by decide +kernel
theorem dX9_person_5 : decode cX9_person 5 = .ok (.invokestatic 54, 3) := by decide +kernel
theorem dX9_person_8 : decode cX9_person 8 = .ok (.ifCond .eq 14, 3) := by decide +kernel
theorem dX9_person_11 : decode cX9_person 11 = .ok (.aload_n 0, 1) := by decide +kernel
theorem dX9_person_12 : decode cX9_person 12 = .ok (.aload_n 1, 1) := by decide +kernel
theorem dX9_person_13 : decode cX9_person 13 = .ok (.invokevirtual 50, 3) := by decide +kernel
theorem dX9_person_16 : decode cX9_person 16 = .ok (.bipush 48, 2) := by decide +kernel
theorem dX9_person_18 : decode cX9_person 18 = .ok (.isub, 1) := by decide +kernel
theorem dX9_person_19 : decode cX9_person 19 = .ok (.goto 4, 3) := by decide +kernel
theorem dX9_person_22 : decode cX9_person 22 = .ok (.iconst (-1), 1) := by decide +kernel
theorem dX9_person_23 : decode cX9_person 23 = .ok (.istore 4, 2) := by decide +kernel
theorem dX9_person_25 : decode cX9_person 25 = .ok (.aload_n 2, 1) := by decide +kernel
theorem dX9_person_26 : decode cX9_person 26 = .ok (.iload 4, 2) := by decide +kernel
theorem dX9_person_28 : decode cX9_person 28 = .ok (.invokevirtual 80, 3) := by decide +kernel
theorem dX9_person_31 : decode cX9_person 31 = .ok (.ifCond .eq 9, 3) := by decide +kernel
theorem dX9_person_34 : decode cX9_person 34 = .ok (.iload 4, 2) := by decide +kernel
theorem dX9_person_36 : decode cX9_person 36 = .ok (.iload_n 3, 1) := by decide +kernel
theorem dX9_person_37 : decode cX9_person 37 = .ok (.if_icmp .ne 5, 3) := by decide +kernel
theorem dX9_person_40 : decode cX9_person 40 = .ok (.iconst (-1), 1) := by decide +kernel
theorem dX9_person_41 : decode cX9_person 41 = .ok (.ireturn, 1) := by decide +kernel
theorem dX9_person_42 : decode cX9_person 42 = .ok (.aload_n 0, 1) := by decide +kernel
theorem dX9_person_43 : decode cX9_person 43 = .ok (.dup, 1) := by decide +kernel
theorem dX9_person_44 : decode cX9_person 44 = .ok (.getfield 27, 3) := by decide +kernel
theorem dX9_person_47 : decode cX9_person 47 = .ok (.iconst 1, 1) := by decide +kernel
theorem dX9_person_48 : decode cX9_person 48 = .ok (.iadd, 1) := by decide +kernel
theorem dX9_person_49 : decode cX9_person 49 = .ok (.putfield 27, 3) := by decide +kernel
theorem dX9_person_52 : decode cX9_person 52 = .ok (.iload 4, 2) := by decide +kernel
theorem dX9_person_54 : decode cX9_person 54 = .ok (.ireturn, 1) := by decide +kernel
theorem dX9_number_0 : decode cX9_number 0 = .ok (.iconst (-1), 1) := by decide +kernel
theorem dX9_number_1 : decode cX9_number 1 = .ok (.istore_n 3, 1) := by decide +kernel
theorem dX9_number_2 : decode cX9_number 2 = .ok (.iconst 0, 1) := by decide +kernel
theorem dX9_number_3 : decode cX9_number 3 = .ok (.istore 4, 2) := by decide +kernel
theorem dX9_number_5 : decode cX9_number 5 = .ok (.iload 4, 2) := by decide +kernel
theorem dX9_number_7 : decode cX9_number 7 = .ok (.iload_n 2, 1) := by decide +kernel
theorem dX9_number_8 : decode cX9_number 8 = .ok (.if_icmp .ge 48, 3) := by decide +kernel
theorem dX9_number_11 : decode cX9_number 11 = .ok (.aload_n 0, 1) := by decide +kernel
theorem dX9_number_12 : decode cX9_number 12 = .ok (.aload_n 1, 1) := by decide +kernel
theorem dX9_number_13 : decode cX9_number 13 = .ok (.invokevirtual 50, 3) := by decide +kernel
theorem dX9_number_16 : decode cX9_number 16 = .ok (.invokestatic 54, 3) := by decide +kernel
theorem dX9_number_19 : decode cX9_number 19 = .ok (.ifCond .eq 37, 3) := by decide +kernel
theorem dX9_number_22 : decode cX9_number 22 = .ok (.iconst 0, 1) := by decide +kernel
theorem dX9_number_23 : decode cX9_number 23 = .ok (.iload_n 3, 1) := by decide +kernel
theorem dX9_number_24 : decode cX9_number 24 = .ok (.invokestatic 83, 3) := by decide +kernel
theorem dX9_number_27 : decode cX9_number 27 = .ok (.bipush 10, 2) := by decide +kernel
theorem dX9_number_29 : decode cX9_number 29 = .ok (.imul, 1) := by decide +kernel
theorem dX9_number_30 : decode cX9_number 30 = .ok (.aload_n 0, 1) := by decide +kernel
theorem dX9_number_31 : decode cX9_number 31 = .ok (.aload_n 1, 1) := by decide +kernel
theorem dX9_number_32 : decode cX9_number 32 = .ok (.invokevirtual 50, 3) := by decide +kernel
theorem dX9_number_35 : decode cX9_number 35 = .ok (.iadd, 1) := by decide +kernel
theorem dX9_number_36 : decode cX9_number 36 = .ok (.bipush 48, 2) := by decide +kernel
theorem dX9_number_38 : decode cX9_number 38 = .ok (.isub, 1) := by decide +kernel
theorem dX9_number_39 : decode cX9_number 39 = .ok (.istore_n 3, 1) := by decide +kernel
theorem dX9_number_40 : decode cX9_number 40 = .ok (.aload_n 0, 1) := by decide +kernel
theorem dX9_number_41 : decode cX9_number 41 = .ok (.dup, 1) := by decide +kernel
theorem dX9_number_42 : decode cX9_number 42 = .ok (.getfield 27, 3) := by decide +kernel
theorem dX9_number_45 : decode cX9_number 45 = .ok (.iconst 1, 1) := by decide +kernel
theorem dX9_number_46 : decode cX9_number 46 = .ok (.iadd, 1) := by decide +kernel
theorem dX9_number_47 : decode cX9_number 47 = .ok (.putfield 27, 3) := by decide +kernel
theorem dX9_number_50 : decode cX9_number 50 = .ok (.iinc 4 1, 3) := by decide +kernel
theorem dX9_number_53 : decode cX9_number 53 = .ok (.goto (-48), 3) := by decide +kernel
theorem dX9_number_56 : decode cX9_number 56 = .ok (.iload_n 3, 1) := by decide +kernel
theorem dX9_number_57 : decode cX9_number 57 = .ok (.ireturn, 1) := by decide +kernel
