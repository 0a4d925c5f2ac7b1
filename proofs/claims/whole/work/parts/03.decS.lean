theorem dX5_init_0 : decode cX5_init 0 = .ok (.aload_n 0, 1) := by decide +kernel
theorem dX5_init_1 : decode cX5_init 1 = .ok (.invokespecial 3, 3) := by decide +kernel
theorem dX5_init_4 : decode cX5_init 4 = .ok (.aload_n 0, 1) := by decide +kernel
theorem dX5_init_5 : decode cX5_init 5 = .ok (.new 9, 3) := by decide +kernel
theorem dX5_init_8 : decode cX5_init 8 = .ok (.dup, 1) := by decide +kernel
theorem dX5_init_9 : decode cX5_init 9 = .ok (.invokespecial 11, 3) := by decide +kernel
theorem dX5_init_12 : decode cX5_init 12 = .ok (.putfield 12, 3) := by decide +kernel
theorem dX5_init_15 : decode cX5_init 15 = .ok (.aload_n 0, 1) := by decide +kernel
theorem dX5_init_16 : decode cX5_init 16 = .ok (.sipush 3000, 3) := by decide +kernel
theorem dX5_init_19 : decode cX5_init 19 = .ok (.newarray .long, 2) := by decide +kernel
theorem dX5_init_21 : decode cX5_init 21 = .ok (.putfield 18, 3) := by decide +kernel
theorem dX5_init_24 : decode cX5_init 24 = .ok (.aload_n 0, 1) := by decide +kernel
theorem dX5_init_25 : decode cX5_init 25 = .ok (.sipush 3000, 3) := by decide +kernel
theorem dX5_init_28 : decode cX5_init 28 = .ok (.newarray .long, 2) := by decide +kernel
theorem dX5_init_30 : decode cX5_init 30 = .ok (.putfield 22, 3) := by decide +kernel
theorem dX5_init_33 : decode cX5_init 33 = .ok (.aload_n 0, 1) := by decide +kernel
theorem dX5_init_34 : decode cX5_init 34 = .ok (.sipush 3000, 3) := by decide +kernel
theorem dX5_init_37 : decode cX5_init 37 = .ok (.newarray .long, 2) := by decide +kernel
theorem dX5_init_39 : decode cX5_init 39 = .ok (.putfield 25, 3) := by decide +kernel
theorem dX5_init_42 : decode cX5_init 42 = .ok (.aload_n 0, 1) := by decide +kernel
theorem dX5_init_43 : decode cX5_init 43 = .ok (.sipush 3000, 3) := by decide +kernel
theorem dX5_init_46 : decode cX5_init 46 = .ok (.newarray .long, 2) := by decide +kernel
theorem dX5_init_48 : decode cX5_init 48 = .ok (.putfield 28, 3) := by decide +kernel
theorem dX5_init_51 : decode cX5_init 51 = .ok (.aload_n 0, 1) := by decide +kernel
theorem dX5_init_52 : decode cX5_init 52 = .ok (.sipush 3000, 3) := by decide +kernel
theorem dX5_init_55 : decode cX5_init 55 = .ok (.newarray .int, 2) := by decide +kernel
theorem dX5_init_57 : decode cX5_init 57 = .ok (.putfield 31, 3) := by decide +kernel
theorem dX5_init_60 : decode cX5_init 60 = .ok (.aload_n 0, 1) := by decide +kernel
theorem dX5_init_61 : decode cX5_init 61 = .ok (.sipush 3000, 3) := by decide +kernel
theorem dX5_init_64 : decode cX5_init 64 = .ok (.newarray .int, 2) := by decide +kernel
theorem dX5_init_66 : decode cX5_init 66 = .ok (.putfield 35, 3) := by decide +kernel
theorem dX5_init_69 : decode cX5_init 69 = .ok (.aload_n 0, 1) := by decide +kernel
theorem dX5_init_70 : decode cX5_init 70 = .ok (.sipush 8192, 3) := by decide +kernel
theorem dX5_init_73 : decode cX5_init 73 = .ok (.newarray .int, 2) := by decide +kernel
theorem dX5_init_75 : decode cX5_init 75 = .ok (.putfield 38, 3) := by decide +kernel
theorem dX5_init_78 : decode cX5_init 78 = .ok (.aload_n 0, 1) := by decide +kernel
theorem dX5_init_79 : decode cX5_init 79 = .ok (.bipush 10, 2) := by decide +kernel
theorem dX5_init_81 : decode cX5_init 81 = .ok (.newarray .int, 2) := by decide +kernel
theorem dX5_init_83 : decode cX5_init 83 = .ok (.putfield 41, 3) := by decide +kernel
theorem dX5_init_86 : decode cX5_init 86 = .ok (.return_, 1) := by decide +kernel
theorem dX5_visit_0 : decode cX5_visit 0 = .ok (.aload_n 0, 1) := by decide +kernel
theorem dX5_visit_1 : decode cX5_visit 1 = .ok (.getfield 44, 3) := by decide +kernel
theorem dX5_visit_4 : decode cX5_visit 4 = .ok (.ifCond .eq 48, 3) := by decide +kernel
theorem dX5_visit_7 : decode cX5_visit 7 = .ok (.aload_n 0, 1) := by decide +kernel
theorem dX5_visit_8 : decode cX5_visit 8 = .ok (.getfield 48, 3) := by decide +kernel
theorem dX5_visit_11 : decode cX5_visit 11 = .ok (.iload_n 3, 1) := by decide +kernel
theorem dX5_visit_12 : decode cX5_visit 12 = .ok (.if_icmp .ne 40, 3) := by decide +kernel
theorem dX5_visit_15 : decode cX5_visit 15 = .ok (.aload_n 0, 1) := by decide +kernel
theorem dX5_visit_16 : decode cX5_visit 16 = .ok (.getfield 12, 3) := by decide +kernel
theorem dX5_visit_19 : decode cX5_visit 19 = .ok (.getfield 52, 3) := by decide +kernel
theorem dX5_visit_22 : decode cX5_visit 22 = .ok (.iconst 0, 1) := by decide +kernel
theorem dX5_visit_23 : decode cX5_visit 23 = .ok (.iaload, 1) := by decide +kernel
theorem dX5_visit_24 : decode cX5_visit 24 = .ok (.iload_n 2, 1) := by decide +kernel
theorem dX5_visit_25 : decode cX5_visit 25 = .ok (.if_icmp .ne 27, 3) := by decide +kernel
theorem dX5_visit_28 : decode cX5_visit 28 = .ok (.aload_n 0, 1) := by decide +kernel
theorem dX5_visit_29 : decode cX5_visit 29 = .ok (.getfield 12, 3) := by decide +kernel
theorem dX5_visit_32 : decode cX5_visit 32 = .ok (.aload_n 1, 1) := by decide +kernel
theorem dX5_visit_33 : decode cX5_visit 33 = .ok (.invokevirtual 55, 3) := by decide +kernel
theorem dX5_visit_36 : decode cX5_visit 36 = .ok (.ifCond .eq 16, 3) := by decide +kernel
theorem dX5_visit_39 : decode cX5_visit 39 = .ok (.aload_n 0, 1) := by decide +kernel
theorem dX5_visit_40 : decode cX5_visit 40 = .ok (.getfield 59, 3) := by decide +kernel
theorem dX5_visit_43 : decode cX5_visit 43 = .ok (.ifCond .ne 7, 3) := by decide +kernel
theorem dX5_visit_46 : decode cX5_visit 46 = .ok (.iconst 1, 1) := by decide +kernel
theorem dX5_visit_47 : decode cX5_visit 47 = .ok (.goto 4, 3) := by decide +kernel
theorem dX5_visit_50 : decode cX5_visit 50 = .ok (.iconst 0, 1) := by decide +kernel
theorem dX5_visit_51 : decode cX5_visit 51 = .ok (.ireturn, 1) := by decide +kernel
theorem dX5_visit_52 : decode cX5_visit 52 = .ok (.aload_n 0, 1) := by decide +kernel
theorem dX5_visit_53 : decode cX5_visit 53 = .ok (.getfield 12, 3) := by decide +kernel
theorem dX5_visit_56 : decode cX5_visit 56 = .ok (.aload_n 1, 1) := by decide +kernel
theorem dX5_visit_57 : decode cX5_visit 57 = .ok (.invokevirtual 62, 3) := by decide +kernel
theorem dX5_visit_60 : decode cX5_visit 60 = .ok (.aload_n 0, 1) := by decide +kernel
theorem dX5_visit_61 : decode cX5_visit 61 = .ok (.getfield 12, 3) := by decide +kernel
theorem dX5_visit_64 : decode cX5_visit 64 = .ok (.getfield 52, 3) := by decide +kernel
theorem dX5_visit_67 : decode cX5_visit 67 = .ok (.iconst 0, 1) := by decide +kernel
theorem dX5_visit_68 : decode cX5_visit 68 = .ok (.iload_n 2, 1) := by decide +kernel
theorem dX5_visit_69 : decode cX5_visit 69 = .ok (.iastore, 1) := by decide +kernel
theorem dX5_visit_70 : decode cX5_visit 70 = .ok (.aload_n 0, 1) := by decide +kernel
theorem dX5_visit_71 : decode cX5_visit 71 = .ok (.iload_n 3, 1) := by decide +kernel
theorem dX5_visit_72 : decode cX5_visit 72 = .ok (.putfield 48, 3) := by decide +kernel
theorem dX5_visit_75 : decode cX5_visit 75 = .ok (.aload_n 0, 1) := by decide +kernel
theorem dX5_visit_76 : decode cX5_visit 76 = .ok (.aload_n 0, 1) := by decide +kernel
theorem dX5_visit_77 : decode cX5_visit 77 = .ok (.getfield 12, 3) := by decide +kernel
theorem dX5_visit_80 : decode cX5_visit 80 = .ok (.iload_n 3, 1) := by decide +kernel
theorem dX5_visit_81 : decode cX5_visit 81 = .ok (.invokevirtual 66, 3) := by decide +kernel
theorem dX5_visit_84 : decode cX5_visit 84 = .ok (.putfield 70, 3) := by decide +kernel
theorem dX5_visit_87 : decode cX5_visit 87 = .ok (.aload_n 0, 1) := by decide +kernel
theorem dX5_visit_88 : decode cX5_visit 88 = .ok (.invokevirtual 73, 3) := by decide +kernel
theorem dX5_visit_91 : decode cX5_visit 91 = .ok (.iconst 0, 1) := by decide +kernel
theorem dX5_visit_92 : decode cX5_visit 92 = .ok (.istore 4, 2) := by decide +kernel
theorem dX5_visit_94 : decode cX5_visit 94 = .ok (.iload 4, 2) := by decide +kernel
theorem dX5_visit_96 : decode cX5_visit 96 = .ok (.sipush 3000, 3) := by decide +kernel
theorem dX5_visit_99 : decode cX5_visit 99 = .ok (.if_icmp .ge 37, 3) := by decide +kernel
theorem dX5_visit_102 : decode cX5_visit 102 = .ok (.iload 4, 2) := by decide +kernel
theorem dX5_visit_104 : decode cX5_visit 104 = .ok (.aload_n 0, 1) := by decide +kernel
theorem dX5_visit_105 : decode cX5_visit 105 = .ok (.getfield 76, 3) := by decide +kernel
theorem dX5_visit_108 : decode cX5_visit 108 = .ok (.if_icmp .ge 28, 3) := by decide +kernel
theorem dX5_visit_111 : decode cX5_visit 111 = .ok (.aload_n 0, 1) := by decide +kernel
theorem dX5_visit_112 : decode cX5_visit 112 = .ok (.getfield 59, 3) := by decide +kernel
theorem dX5_visit_115 : decode cX5_visit 115 = .ok (.ifCond .ne 21, 3) := by decide +kernel
theorem dX5_visit_118 : decode cX5_visit 118 = .ok (.aload_n 0, 1) := by decide +kernel
theorem dX5_visit_119 : decode cX5_visit 119 = .ok (.iload 4, 2) := by decide +kernel
theorem dX5_visit_121 : decode cX5_visit 121 = .ok (.invokevirtual 79, 3) := by decide +kernel
theorem dX5_visit_124 : decode cX5_visit 124 = .ok (.aload_n 0, 1) := by decide +kernel
theorem dX5_visit_125 : decode cX5_visit 125 = .ok (.iload 4, 2) := by decide +kernel
theorem dX5_visit_127 : decode cX5_visit 127 = .ok (.invokevirtual 83, 3) := by decide +kernel
theorem dX5_visit_130 : decode cX5_visit 130 = .ok (.iinc 4 1, 3) := by decide +kernel
theorem dX5_visit_133 : decode cX5_visit 133 = .ok (.goto (-39), 3) := by decide +kernel
theorem dX5_visit_136 : decode cX5_visit 136 = .ok (.aload_n 0, 1) := by decide +kernel
theorem dX5_visit_137 : decode cX5_visit 137 = .ok (.iconst 0, 1) := by decide +kernel
theorem dX5_visit_138 : decode cX5_visit 138 = .ok (.invokevirtual 79, 3) := by decide +kernel
theorem dX5_visit_141 : decode cX5_visit 141 = .ok (.aload_n 0, 1) := by decide +kernel
theorem dX5_visit_142 : decode cX5_visit 142 = .ok (.iconst 1, 1) := by decide +kernel
theorem dX5_visit_143 : decode cX5_visit 143 = .ok (.putfield 44, 3) := by decide +kernel
theorem dX5_visit_146 : decode cX5_visit 146 = .ok (.aload_n 0, 1) := by decide +kernel
theorem dX5_visit_147 : decode cX5_visit 147 = .ok (.getfield 59, 3) := by decide +kernel
theorem dX5_visit_150 : decode cX5_visit 150 = .ok (.ifCond .ne 7, 3) := by decide +kernel
theorem dX5_visit_153 : decode cX5_visit 153 = .ok (.iconst 1, 1) := by decide +kernel
theorem dX5_visit_154 : decode cX5_visit 154 = .ok (.goto 4, 3) := by decide +kernel
theorem dX5_visit_157 : decode cX5_visit 157 = .ok (.iconst 0, 1) := by decide +kernel
theorem dX5_visit_158 : decode cX5_visit 158 = .ok (.ireturn, 1) := by decide +kernel
theorem dX5_start_0 : decode cX5_start 0 = .ok (.aload_n 0, 1) := by decide +kernel
theorem dX5_start_1 : decode cX5_start 1 = .ok (.getfield 38, 3) := by decide +kernel
theorem dX5_start_4 : decode cX5_start 4 = .ok (.iconst 0, 1) := by decide +kernel
theorem dX5_start_5 : decode cX5_start 5 = .ok (.invokestatic 86, 3) := by decide +kernel
theorem dX5_start_8 : decode cX5_start 8 = .ok (.aload_n 0, 1) := by decide +kernel
theorem dX5_start_9 : decode cX5_start 9 = .ok (.getfield 41, 3) := by decide +kernel
theorem dX5_start_12 : decode cX5_start 12 = .ok (.aload_n 0, 1) := by decide +kernel
theorem dX5_start_13 : decode cX5_start 13 = .ok (.getfield 70, 3) := by decide +kernel
theorem dX5_start_16 : decode cX5_start 16 = .ok (.invokestatic 86, 3) := by decide +kernel
theorem dX5_start_19 : decode cX5_start 19 = .ok (.aload_n 0, 1) := by decide +kernel
theorem dX5_start_20 : decode cX5_start 20 = .ok (.iconst 0, 1) := by decide +kernel
theorem dX5_start_21 : decode cX5_start 21 = .ok (.putfield 92, 3) := by decide +kernel
theorem dX5_start_24 : decode cX5_start 24 = .ok (.aload_n 0, 1) := by decide +kernel
theorem dX5_start_25 : decode cX5_start 25 = .ok (.iconst 0, 1) := by decide +kernel
theorem dX5_start_26 : decode cX5_start 26 = .ok (.putfield 59, 3) := by decide +kernel
theorem dX5_start_29 : decode cX5_start 29 = .ok (.aload_n 0, 1) := by decide +kernel
theorem dX5_start_30 : decode cX5_start 30 = .ok (.iconst 0, 1) := by decide +kernel
theorem dX5_start_31 : decode cX5_start 31 = .ok (.putfield 76, 3) := by decide +kernel
theorem dX5_start_34 : decode cX5_start 34 = .ok (.lconst 0, 1) := by decide +kernel
theorem dX5_start_35 : decode cX5_start 35 = .ok (.lstore_n 1, 1) := by decide +kernel
theorem dX5_start_36 : decode cX5_start 36 = .ok (.lconst 0, 1) := by decide +kernel
theorem dX5_start_37 : decode cX5_start 37 = .ok (.lstore_n 3, 1) := by decide +kernel
theorem dX5_start_38 : decode cX5_start 38 = .ok (.iconst 0, 1) := by decide +kernel
theorem dX5_start_39 : decode cX5_start 39 = .ok (.istore 5, 2) := by decide +kernel
theorem dX5_start_41 : decode cX5_start 41 = .ok (.iload 5, 2) := by decide +kernel
theorem dX5_start_43 : decode cX5_start 43 = .ok (.aload_n 0, 1) := by decide +kernel
theorem dX5_start_44 : decode cX5_start 44 = .ok (.getfield 12, 3) := by decide +kernel
theorem dX5_start_47 : decode cX5_start 47 = .ok (.getfield 95, 3) := by decide +kernel
theorem dX5_start_50 : decode cX5_start 50 = .ok (.if_icmp .ge 47, 3) := by decide +kernel
theorem dX5_start_53 : decode cX5_start 53 = .ok (.lload_n 1, 1) := by decide +kernel
theorem dX5_start_54 : decode cX5_start 54 = .ok (.iload 5, 2) := by decide +kernel
theorem dX5_start_56 : decode cX5_start 56 = .ok (.iconst 0, 1) := by decide +kernel
theorem dX5_start_57 : decode cX5_start 57 = .ok (.aload_n 0, 1) := by decide +kernel
theorem dX5_start_58 : decode cX5_start 58 = .ok (.getfield 12, 3) := by decide +kernel
theorem dX5_start_61 : decode cX5_start 61 = .ok (.getfield 98, 3) := by decide +kernel
theorem dX5_start_64 : decode cX5_start 64 = .ok (.iload 5, 2) := by decide +kernel
theorem dX5_start_66 : decode cX5_start 66 = .ok (.iaload, 1) := by decide +kernel
theorem dX5_start_67 : decode cX5_start 67 = .ok (.invokestatic 101, 3) := by decide +kernel
theorem dX5_start_70 : decode cX5_start 70 = .ok (.ladd, 1) := by decide +kernel
theorem dX5_start_71 : decode cX5_start 71 = .ok (.lstore_n 1, 1) := by decide +kernel
theorem dX5_start_72 : decode cX5_start 72 = .ok (.lload_n 3, 1) := by decide +kernel
theorem dX5_start_73 : decode cX5_start 73 = .ok (.iload 5, 2) := by decide +kernel
theorem dX5_start_75 : decode cX5_start 75 = .ok (.iconst 1, 1) := by decide +kernel
theorem dX5_start_76 : decode cX5_start 76 = .ok (.aload_n 0, 1) := by decide +kernel
theorem dX5_start_77 : decode cX5_start 77 = .ok (.getfield 12, 3) := by decide +kernel
theorem dX5_start_80 : decode cX5_start 80 = .ok (.getfield 98, 3) := by decide +kernel
theorem dX5_start_83 : decode cX5_start 83 = .ok (.iload 5, 2) := by decide +kernel
theorem dX5_start_85 : decode cX5_start 85 = .ok (.iaload, 1) := by decide +kernel
theorem dX5_start_86 : decode cX5_start 86 = .ok (.invokestatic 101, 3) := by decide +kernel
theorem dX5_start_89 : decode cX5_start 89 = .ok (.ladd, 1) := by decide +kernel
theorem dX5_start_90 : decode cX5_start 90 = .ok (.lstore_n 3, 1) := by decide +kernel
theorem dX5_start_91 : decode cX5_start 91 = .ok (.iinc 5 1, 3) := by decide +kernel
theorem dX5_start_94 : decode cX5_start 94 = .ok (.goto (-53), 3) := by decide +kernel
theorem dX5_start_97 : decode cX5_start 97 = .ok (.aload_n 0, 1) := by decide +kernel
theorem dX5_start_98 : decode cX5_start 98 = .ok (.iconst 0, 1) := by decide +kernel
theorem dX5_start_99 : decode cX5_start 99 = .ok (.lload_n 1, 1) := by decide +kernel
theorem dX5_start_100 : decode cX5_start 100 = .ok (.lload_n 3, 1) := by decide +kernel
theorem dX5_start_101 : decode cX5_start 101 = .ok (.invokevirtual 105, 3) := by decide +kernel
theorem dX5_start_104 : decode cX5_start 104 = .ok (.pop, 1) := by decide +kernel
theorem dX5_start_105 : decode cX5_start 105 = .ok (.aload_n 0, 1) := by decide +kernel
theorem dX5_start_106 : decode cX5_start 106 = .ok (.getfield 25, 3) := by decide +kernel
theorem dX5_start_109 : decode cX5_start 109 = .ok (.iconst 0, 1) := by decide +kernel
theorem dX5_start_110 : decode cX5_start 110 = .ok (.lconst 1, 1) := by decide +kernel
theorem dX5_start_111 : decode cX5_start 111 = .ok (.lastore, 1) := by decide +kernel
theorem dX5_start_112 : decode cX5_start 112 = .ok (.aload_n 0, 1) := by decide +kernel
theorem dX5_start_113 : decode cX5_start 113 = .ok (.getfield 35, 3) := by decide +kernel
theorem dX5_start_116 : decode cX5_start 116 = .ok (.iconst 0, 1) := by decide +kernel
theorem dX5_start_117 : decode cX5_start 117 = .ok (.iconst 0, 1) := by decide +kernel
theorem dX5_start_118 : decode cX5_start 118 = .ok (.iastore, 1) := by decide +kernel
theorem dX5_start_119 : decode cX5_start 119 = .ok (.return_, 1) := by decide +kernel
theorem dX5_part_0 : decode cX5_part 0 = .ok (.iload_n 0, 1) := by decide +kernel
theorem dX5_part_1 : decode cX5_part 1 = .ok (.iconst 2, 1) := by decide +kernel
theorem dX5_part_2 : decode cX5_part 2 = .ok (.ishr, 1) := by decide +kernel
theorem dX5_part_3 : decode cX5_part 3 = .ok (.iload_n 1, 1) := by decide +kernel
theorem dX5_part_4 : decode cX5_part 4 = .ok (.if_icmp .ne 15, 3) := by decide +kernel
theorem dX5_part_7 : decode cX5_part 7 = .ok (.iload_n 2, 1) := by decide +kernel
theorem dX5_part_8 : decode cX5_part 8 = .ok (.i2l, 1) := by decide +kernel
theorem dX5_part_9 : decode cX5_part 9 = .ok (.bipush 16, 2) := by decide +kernel
theorem dX5_part_11 : decode cX5_part 11 = .ok (.iload_n 0, 1) := by decide +kernel
theorem dX5_part_12 : decode cX5_part 12 = .ok (.iconst 3, 1) := by decide +kernel
theorem dX5_part_13 : decode cX5_part 13 = .ok (.iand, 1) := by decide +kernel
theorem dX5_part_14 : decode cX5_part 14 = .ok (.imul, 1) := by decide +kernel
theorem dX5_part_15 : decode cX5_part 15 = .ok (.lshl, 1) := by decide +kernel
theorem dX5_part_16 : decode cX5_part 16 = .ok (.goto 4, 3) := by decide +kernel
theorem dX5_part_19 : decode cX5_part 19 = .ok (.lconst 0, 1) := by decide +kernel
theorem dX5_part_20 : decode cX5_part 20 = .ok (.lreturn, 1) := by decide +kernel
theorem dX5_coinIn_0 : decode cX5_coinIn 0 = .ok (.iload_n 2, 1) := by decide +kernel
theorem dX5_coinIn_1 : decode cX5_coinIn 1 = .ok (.iconst 4, 1) := by decide +kernel
theorem dX5_coinIn_2 : decode cX5_coinIn 2 = .ok (.if_icmp .ge 12, 3) := by decide +kernel
theorem dX5_coinIn_5 : decode cX5_coinIn 5 = .ok (.aload_n 0, 1) := by decide +kernel
theorem dX5_coinIn_6 : decode cX5_coinIn 6 = .ok (.getfield 18, 3) := by decide +kernel
theorem dX5_coinIn_9 : decode cX5_coinIn 9 = .ok (.iload_n 1, 1) := by decide +kernel
theorem dX5_coinIn_10 : decode cX5_coinIn 10 = .ok (.laload, 1) := by decide +kernel
theorem dX5_coinIn_11 : decode cX5_coinIn 11 = .ok (.goto 9, 3) := by decide +kernel
theorem dX5_coinIn_14 : decode cX5_coinIn 14 = .ok (.aload_n 0, 1) := by decide +kernel
theorem dX5_coinIn_15 : decode cX5_coinIn 15 = .ok (.getfield 22, 3) := by decide +kernel
theorem dX5_coinIn_18 : decode cX5_coinIn 18 = .ok (.iload_n 1, 1) := by decide +kernel
theorem dX5_coinIn_19 : decode cX5_coinIn 19 = .ok (.laload, 1) := by decide +kernel
theorem dX5_coinIn_20 : decode cX5_coinIn 20 = .ok (.lstore_n 3, 1) := by decide +kernel
theorem dX5_coinIn_21 : decode cX5_coinIn 21 = .ok (.lload_n 3, 1) := by decide +kernel
theorem dX5_coinIn_22 : decode cX5_coinIn 22 = .ok (.bipush 16, 2) := by decide +kernel
theorem dX5_coinIn_24 : decode cX5_coinIn 24 = .ok (.iload_n 2, 1) := by decide +kernel
theorem dX5_coinIn_25 : decode cX5_coinIn 25 = .ok (.iconst 3, 1) := by decide +kernel
theorem dX5_coinIn_26 : decode cX5_coinIn 26 = .ok (.iand, 1) := by decide +kernel
theorem dX5_coinIn_27 : decode cX5_coinIn 27 = .ok (.imul, 1) := by decide +kernel
theorem dX5_coinIn_28 : decode cX5_coinIn 28 = .ok (.lushr, 1) := by decide +kernel
theorem dX5_coinIn_29 : decode cX5_coinIn 29 = .ok (.l2i, 1) := by decide +kernel
theorem dX5_coinIn_30 : decode cX5_coinIn 30 = .ok (.ldc 109, 2) := by decide +kernel
theorem dX5_coinIn_32 : decode cX5_coinIn 32 = .ok (.iand, 1) := by decide +kernel
theorem dX5_coinIn_33 : decode cX5_coinIn 33 = .ok (.ireturn, 1) := by decide +kernel
theorem dX5_load_0 : decode cX5_load 0 = .ok (.iconst 0, 1) := by decide +kernel
theorem dX5_load_1 : decode cX5_load 1 = .ok (.istore_n 2, 1) := by decide +kernel
theorem dX5_load_2 : decode cX5_load 2 = .ok (.iload_n 2, 1) := by decide +kernel
theorem dX5_load_3 : decode cX5_load 3 = .ok (.aload_n 0, 1) := by decide +kernel
theorem dX5_load_4 : decode cX5_load 4 = .ok (.getfield 12, 3) := by decide +kernel
theorem dX5_load_7 : decode cX5_load 7 = .ok (.getfield 95, 3) := by decide +kernel
theorem dX5_load_10 : decode cX5_load 10 = .ok (.if_icmp .ge 24, 3) := by decide +kernel
theorem dX5_load_13 : decode cX5_load 13 = .ok (.aload_n 0, 1) := by decide +kernel
theorem dX5_load_14 : decode cX5_load 14 = .ok (.getfield 12, 3) := by decide +kernel
theorem dX5_load_17 : decode cX5_load 17 = .ok (.getfield 98, 3) := by decide +kernel
theorem dX5_load_20 : decode cX5_load 20 = .ok (.iload_n 2, 1) := by decide +kernel
theorem dX5_load_21 : decode cX5_load 21 = .ok (.aload_n 0, 1) := by decide +kernel
theorem dX5_load_22 : decode cX5_load 22 = .ok (.iload_n 1, 1) := by decide +kernel
theorem dX5_load_23 : decode cX5_load 23 = .ok (.iload_n 2, 1) := by decide +kernel
theorem dX5_load_24 : decode cX5_load 24 = .ok (.invokevirtual 110, 3) := by decide +kernel
theorem dX5_load_27 : decode cX5_load 27 = .ok (.iastore, 1) := by decide +kernel
theorem dX5_load_28 : decode cX5_load 28 = .ok (.iinc 2 1, 3) := by decide +kernel
theorem dX5_load_31 : decode cX5_load 31 = .ok (.goto (-29), 3) := by decide +kernel
theorem dX5_load_34 : decode cX5_load 34 = .ok (.return_, 1) := by decide +kernel
theorem dX5_leave_0 : decode cX5_leave 0 = .ok (.aload_n 0, 1) := by decide +kernel
theorem dX5_leave_1 : decode cX5_leave 1 = .ok (.getfield 12, 3) := by decide +kernel
theorem dX5_leave_4 : decode cX5_leave 4 = .ok (.invokevirtual 114, 3) := by decide +kernel
theorem dX5_leave_7 : decode cX5_leave 7 = .ok (.aload_n 0, 1) := by decide +kernel
theorem dX5_leave_8 : decode cX5_leave 8 = .ok (.getfield 70, 3) := by decide +kernel
theorem dX5_leave_11 : decode cX5_leave 11 = .ok (.aload_n 0, 1) := by decide +kernel
theorem dX5_leave_12 : decode cX5_leave 12 = .ok (.getfield 31, 3) := by decide +kernel
theorem dX5_leave_15 : decode cX5_leave 15 = .ok (.iload_n 1, 1) := by decide +kernel
theorem dX5_leave_16 : decode cX5_leave 16 = .ok (.iaload, 1) := by decide +kernel
theorem dX5_leave_17 : decode cX5_leave 17 = .ok (.iconst (-1), 1) := by decide +kernel
theorem dX5_leave_18 : decode cX5_leave 18 = .ok (.ixor, 1) := by decide +kernel
theorem dX5_leave_19 : decode cX5_leave 19 = .ok (.iand, 1) := by decide +kernel
theorem dX5_leave_20 : decode cX5_leave 20 = .ok (.istore_n 2, 1) := by decide +kernel
theorem dX5_leave_21 : decode cX5_leave 21 = .ok (.iconst 0, 1) := by decide +kernel
theorem dX5_leave_22 : decode cX5_leave 22 = .ok (.istore_n 3, 1) := by decide +kernel
theorem dX5_leave_23 : decode cX5_leave 23 = .ok (.iload_n 3, 1) := by decide +kernel
theorem dX5_leave_24 : decode cX5_leave 24 = .ok (.aload_n 0, 1) := by decide +kernel
theorem dX5_leave_25 : decode cX5_leave 25 = .ok (.getfield 12, 3) := by decide +kernel
theorem dX5_leave_28 : decode cX5_leave 28 = .ok (.getfield 117, 3) := by decide +kernel
theorem dX5_leave_31 : decode cX5_leave 31 = .ok (.if_icmp .ge 102, 3) := by decide +kernel
theorem dX5_leave_34 : decode cX5_leave 34 = .ok (.iload_n 2, 1) := by decide +kernel
theorem dX5_leave_35 : decode cX5_leave 35 = .ok (.iconst 1, 1) := by decide +kernel
theorem dX5_leave_36 : decode cX5_leave 36 = .ok (.iload_n 3, 1) := by decide +kernel
theorem dX5_leave_37 : decode cX5_leave 37 = .ok (.ishl, 1) := by decide +kernel
theorem dX5_leave_38 : decode cX5_leave 38 = .ok (.iand, 1) := by decide +kernel
theorem dX5_leave_39 : decode cX5_leave 39 = .ok (.ifCond .eq 14, 3) := by decide +kernel
theorem dX5_leave_42 : decode cX5_leave 42 = .ok (.aload_n 0, 1) := by decide +kernel
theorem dX5_leave_43 : decode cX5_leave 43 = .ok (.getfield 12, 3) := by decide +kernel
theorem dX5_leave_46 : decode cX5_leave 46 = .ok (.iload_n 3, 1) := by decide +kernel
theorem dX5_leave_47 : decode cX5_leave 47 = .ok (.invokevirtual 120, 3) := by decide +kernel
theorem dX5_leave_50 : decode cX5_leave 50 = .ok (.goto 4, 3) := by decide +kernel
theorem dX5_leave_53 : decode cX5_leave 53 = .ok (.iconst 0, 1) := by decide +kernel
theorem dX5_leave_54 : decode cX5_leave 54 = .ok (.istore 4, 2) := by decide +kernel
theorem dX5_leave_56 : decode cX5_leave 56 = .ok (.iload 4, 2) := by decide +kernel
theorem dX5_leave_58 : decode cX5_leave 58 = .ok (.ifCond .eq 30, 3) := by decide +kernel
theorem dX5_leave_61 : decode cX5_leave 61 = .ok (.aload_n 0, 1) := by decide +kernel
theorem dX5_leave_62 : decode cX5_leave 62 = .ok (.dup, 1) := by decide +kernel
theorem dX5_leave_63 : decode cX5_leave 63 = .ok (.getfield 92, 3) := by decide +kernel
theorem dX5_leave_66 : decode cX5_leave 66 = .ok (.iconst 1, 1) := by decide +kernel
theorem dX5_leave_67 : decode cX5_leave 67 = .ok (.iload_n 3, 1) := by decide +kernel
theorem dX5_leave_68 : decode cX5_leave 68 = .ok (.ishl, 1) := by decide +kernel
theorem dX5_leave_69 : decode cX5_leave 69 = .ok (.ior, 1) := by decide +kernel
theorem dX5_leave_70 : decode cX5_leave 70 = .ok (.putfield 92, 3) := by decide +kernel
theorem dX5_leave_73 : decode cX5_leave 73 = .ok (.aload_n 0, 1) := by decide +kernel
theorem dX5_leave_74 : decode cX5_leave 74 = .ok (.getfield 41, 3) := by decide +kernel
theorem dX5_leave_77 : decode cX5_leave 77 = .ok (.iload_n 3, 1) := by decide +kernel
theorem dX5_leave_78 : decode cX5_leave 78 = .ok (.dup2, 1) := by decide +kernel
theorem dX5_leave_79 : decode cX5_leave 79 = .ok (.iaload, 1) := by decide +kernel
theorem dX5_leave_80 : decode cX5_leave 80 = .ok (.aload_n 0, 1) := by decide +kernel
theorem dX5_leave_81 : decode cX5_leave 81 = .ok (.getfield 31, 3) := by decide +kernel
theorem dX5_leave_84 : decode cX5_leave 84 = .ok (.iload_n 1, 1) := by decide +kernel
theorem dX5_leave_85 : decode cX5_leave 85 = .ok (.iaload, 1) := by decide +kernel
theorem dX5_leave_86 : decode cX5_leave 86 = .ok (.iand, 1) := by decide +kernel
theorem dX5_leave_87 : decode cX5_leave 87 = .ok (.iastore, 1) := by decide +kernel
theorem dX5_leave_88 : decode cX5_leave 88 = .ok (.iconst 0, 1) := by decide +kernel
theorem dX5_leave_89 : decode cX5_leave 89 = .ok (.istore 5, 2) := by decide +kernel
theorem dX5_leave_91 : decode cX5_leave 91 = .ok (.iload 5, 2) := by decide +kernel
theorem dX5_leave_93 : decode cX5_leave 93 = .ok (.aload_n 0, 1) := by decide +kernel
theorem dX5_leave_94 : decode cX5_leave 94 = .ok (.getfield 12, 3) := by decide +kernel
theorem dX5_leave_97 : decode cX5_leave 97 = .ok (.getfield 95, 3) := by decide +kernel
theorem dX5_leave_100 : decode cX5_leave 100 = .ok (.if_icmp .ge 27, 3) := by decide +kernel
theorem dX5_leave_103 : decode cX5_leave 103 = .ok (.iload 4, 2) := by decide +kernel
theorem dX5_leave_105 : decode cX5_leave 105 = .ok (.iconst 1, 1) := by decide +kernel
theorem dX5_leave_106 : decode cX5_leave 106 = .ok (.iload 5, 2) := by decide +kernel
theorem dX5_leave_108 : decode cX5_leave 108 = .ok (.ishl, 1) := by decide +kernel
theorem dX5_leave_109 : decode cX5_leave 109 = .ok (.iand, 1) := by decide +kernel
theorem dX5_leave_110 : decode cX5_leave 110 = .ok (.ifCond .eq 11, 3) := by decide +kernel
theorem dX5_leave_113 : decode cX5_leave 113 = .ok (.aload_n 0, 1) := by decide +kernel
theorem dX5_leave_114 : decode cX5_leave 114 = .ok (.iload_n 1, 1) := by decide +kernel
theorem dX5_leave_115 : decode cX5_leave 115 = .ok (.iload_n 3, 1) := by decide +kernel
theorem dX5_leave_116 : decode cX5_leave 116 = .ok (.iload 5, 2) := by decide +kernel
theorem dX5_leave_118 : decode cX5_leave 118 = .ok (.invokevirtual 123, 3) := by decide +kernel
theorem dX5_leave_121 : decode cX5_leave 121 = .ok (.iinc 5 1, 3) := by decide +kernel
theorem dX5_leave_124 : decode cX5_leave 124 = .ok (.goto (-33), 3) := by decide +kernel
theorem dX5_leave_127 : decode cX5_leave 127 = .ok (.iinc 3 1, 3) := by decide +kernel
theorem dX5_leave_130 : decode cX5_leave 130 = .ok (.goto (-107), 3) := by decide +kernel
theorem dX5_leave_133 : decode cX5_leave 133 = .ok (.return_, 1) := by decide +kernel
theorem dX5_step_0 : decode cX5_step 0 = .ok (.aload_n 0, 1) := by decide +kernel
theorem dX5_step_1 : decode cX5_step 1 = .ok (.getfield 12, 3) := by decide +kernel
theorem dX5_step_4 : decode cX5_step 4 = .ok (.getfield 127, 3) := by decide +kernel
theorem dX5_step_7 : decode cX5_step 7 = .ok (.iload_n 2, 1) := by decide +kernel
theorem dX5_step_8 : decode cX5_step 8 = .ok (.iaload, 1) := by decide +kernel
theorem dX5_step_9 : decode cX5_step 9 = .ok (.istore 4, 2) := by decide +kernel
theorem dX5_step_11 : decode cX5_step 11 = .ok (.aload_n 0, 1) := by decide +kernel
theorem dX5_step_12 : decode cX5_step 12 = .ok (.getfield 12, 3) := by decide +kernel
theorem dX5_step_15 : decode cX5_step 15 = .ok (.getfield 130, 3) := by decide +kernel
theorem dX5_step_18 : decode cX5_step 18 = .ok (.iload_n 2, 1) := by decide +kernel
theorem dX5_step_19 : decode cX5_step 19 = .ok (.iaload, 1) := by decide +kernel
theorem dX5_step_20 : decode cX5_step 20 = .ok (.istore 5, 2) := by decide +kernel
theorem dX5_step_22 : decode cX5_step 22 = .ok (.aload_n 0, 1) := by decide +kernel
theorem dX5_step_23 : decode cX5_step 23 = .ok (.getfield 18, 3) := by decide +kernel
theorem dX5_step_26 : decode cX5_step 26 = .ok (.iload_n 1, 1) := by decide +kernel
theorem dX5_step_27 : decode cX5_step 27 = .ok (.laload, 1) := by decide +kernel
theorem dX5_step_28 : decode cX5_step 28 = .ok (.iload_n 3, 1) := by decide +kernel
theorem dX5_step_29 : decode cX5_step 29 = .ok (.iconst 0, 1) := by decide +kernel
theorem dX5_step_30 : decode cX5_step 30 = .ok (.iload 4, 2) := by decide +kernel
theorem dX5_step_32 : decode cX5_step 32 = .ok (.invokestatic 101, 3) := by decide +kernel
theorem dX5_step_35 : decode cX5_step 35 = .ok (.lsub, 1) := by decide +kernel
theorem dX5_step_36 : decode cX5_step 36 = .ok (.iload 5, 2) := by decide +kernel
theorem dX5_step_38 : decode cX5_step 38 = .ok (.iconst 0, 1) := by decide +kernel
theorem dX5_step_39 : decode cX5_step 39 = .ok (.iload 4, 2) := by decide +kernel
theorem dX5_step_41 : decode cX5_step 41 = .ok (.invokestatic 101, 3) := by decide +kernel
theorem dX5_step_44 : decode cX5_step 44 = .ok (.ladd, 1) := by decide +kernel
theorem dX5_step_45 : decode cX5_step 45 = .ok (.lstore 6, 2) := by decide +kernel
theorem dX5_step_47 : decode cX5_step 47 = .ok (.aload_n 0, 1) := by decide +kernel
theorem dX5_step_48 : decode cX5_step 48 = .ok (.getfield 22, 3) := by decide +kernel
theorem dX5_step_51 : decode cX5_step 51 = .ok (.iload_n 1, 1) := by decide +kernel
theorem dX5_step_52 : decode cX5_step 52 = .ok (.laload, 1) := by decide +kernel
theorem dX5_step_53 : decode cX5_step 53 = .ok (.iload_n 3, 1) := by decide +kernel
theorem dX5_step_54 : decode cX5_step 54 = .ok (.iconst 1, 1) := by decide +kernel
theorem dX5_step_55 : decode cX5_step 55 = .ok (.iload 4, 2) := by decide +kernel
theorem dX5_step_57 : decode cX5_step 57 = .ok (.invokestatic 101, 3) := by decide +kernel
theorem dX5_step_60 : decode cX5_step 60 = .ok (.lsub, 1) := by decide +kernel
theorem dX5_step_61 : decode cX5_step 61 = .ok (.iload 5, 2) := by decide +kernel
theorem dX5_step_63 : decode cX5_step 63 = .ok (.iconst 1, 1) := by decide +kernel
theorem dX5_step_64 : decode cX5_step 64 = .ok (.iload 4, 2) := by decide +kernel
theorem dX5_step_66 : decode cX5_step 66 = .ok (.invokestatic 101, 3) := by decide +kernel
theorem dX5_step_69 : decode cX5_step 69 = .ok (.ladd, 1) := by decide +kernel
theorem dX5_step_70 : decode cX5_step 70 = .ok (.lstore 8, 2) := by decide +kernel
theorem dX5_step_72 : decode cX5_step 72 = .ok (.aload_n 0, 1) := by decide +kernel
theorem dX5_step_73 : decode cX5_step 73 = .ok (.aload_n 0, 1) := by decide +kernel
theorem dX5_step_74 : decode cX5_step 74 = .ok (.getfield 31, 3) := by decide +kernel
theorem dX5_step_77 : decode cX5_step 77 = .ok (.iload_n 1, 1) := by decide +kernel
theorem dX5_step_78 : decode cX5_step 78 = .ok (.iaload, 1) := by decide +kernel
theorem dX5_step_79 : decode cX5_step 79 = .ok (.iconst 1, 1) := by decide +kernel
theorem dX5_step_80 : decode cX5_step 80 = .ok (.iload_n 2, 1) := by decide +kernel
theorem dX5_step_81 : decode cX5_step 81 = .ok (.ishl, 1) := by decide +kernel
theorem dX5_step_82 : decode cX5_step 82 = .ok (.ior, 1) := by decide +kernel
theorem dX5_step_83 : decode cX5_step 83 = .ok (.lload 6, 2) := by decide +kernel
theorem dX5_step_85 : decode cX5_step 85 = .ok (.lload 8, 2) := by decide +kernel
theorem dX5_step_87 : decode cX5_step 87 = .ok (.invokevirtual 105, 3) := by decide +kernel
theorem dX5_step_90 : decode cX5_step 90 = .ok (.istore 10, 2) := by decide +kernel
theorem dX5_step_92 : decode cX5_step 92 = .ok (.iload 10, 2) := by decide +kernel
theorem dX5_step_94 : decode cX5_step 94 = .ok (.ifCond .ge 9, 3) := by decide +kernel
theorem dX5_step_97 : decode cX5_step 97 = .ok (.aload_n 0, 1) := by decide +kernel
theorem dX5_step_98 : decode cX5_step 98 = .ok (.iconst 1, 1) := by decide +kernel
theorem dX5_step_99 : decode cX5_step 99 = .ok (.putfield 59, 3) := by decide +kernel
theorem dX5_step_102 : decode cX5_step 102 = .ok (.return_, 1) := by decide +kernel
theorem dX5_step_103 : decode cX5_step 103 = .ok (.aload_n 0, 1) := by decide +kernel
theorem dX5_step_104 : decode cX5_step 104 = .ok (.getfield 25, 3) := by decide +kernel
theorem dX5_step_107 : decode cX5_step 107 = .ok (.iload 10, 2) := by decide +kernel
theorem dX5_step_109 : decode cX5_step 109 = .ok (.dup2, 1) := by decide +kernel
theorem dX5_step_110 : decode cX5_step 110 = .ok (.laload, 1) := by decide +kernel
theorem dX5_step_111 : decode cX5_step 111 = .ok (.aload_n 0, 1) := by decide +kernel
theorem dX5_step_112 : decode cX5_step 112 = .ok (.getfield 25, 3) := by decide +kernel
theorem dX5_step_115 : decode cX5_step 115 = .ok (.iload_n 1, 1) := by decide +kernel
theorem dX5_step_116 : decode cX5_step 116 = .ok (.laload, 1) := by decide +kernel
theorem dX5_step_117 : decode cX5_step 117 = .ok (.ladd, 1) := by decide +kernel
theorem dX5_step_118 : decode cX5_step 118 = .ok (.lastore, 1) := by decide +kernel
theorem dX5_step_119 : decode cX5_step 119 = .ok (.aload_n 0, 1) := by decide +kernel
theorem dX5_step_120 : decode cX5_step 120 = .ok (.getfield 35, 3) := by decide +kernel
theorem dX5_step_123 : decode cX5_step 123 = .ok (.iload_n 1, 1) := by decide +kernel
theorem dX5_step_124 : decode cX5_step 124 = .ok (.iaload, 1) := by decide +kernel
theorem dX5_step_125 : decode cX5_step 125 = .ok (.aload_n 0, 1) := by decide +kernel
theorem dX5_step_126 : decode cX5_step 126 = .ok (.getfield 12, 3) := by decide +kernel
theorem dX5_step_129 : decode cX5_step 129 = .ok (.iload_n 3, 1) := by decide +kernel
theorem dX5_step_130 : decode cX5_step 130 = .ok (.iload_n 2, 1) := by decide +kernel
theorem dX5_step_131 : decode cX5_step 131 = .ok (.invokevirtual 133, 3) := by decide +kernel
theorem dX5_step_134 : decode cX5_step 134 = .ok (.iadd, 1) := by decide +kernel
theorem dX5_step_135 : decode cX5_step 135 = .ok (.istore 11, 2) := by decide +kernel
theorem dX5_step_137 : decode cX5_step 137 = .ok (.aload_n 0, 1) := by decide +kernel
theorem dX5_step_138 : decode cX5_step 138 = .ok (.getfield 28, 3) := by decide +kernel
theorem dX5_step_141 : decode cX5_step 141 = .ok (.iload_n 1, 1) := by decide +kernel
theorem dX5_step_142 : decode cX5_step 142 = .ok (.laload, 1) := by decide +kernel
theorem dX5_step_143 : decode cX5_step 143 = .ok (.bipush 6, 2) := by decide +kernel
theorem dX5_step_145 : decode cX5_step 145 = .ok (.lshl, 1) := by decide +kernel
theorem dX5_step_146 : decode cX5_step 146 = .ok (.iload_n 2, 1) := by decide +kernel
theorem dX5_step_147 : decode cX5_step 147 = .ok (.bipush 6, 2) := by decide +kernel
theorem dX5_step_149 : decode cX5_step 149 = .ok (.imul, 1) := by decide +kernel
theorem dX5_step_150 : decode cX5_step 150 = .ok (.aload_n 0, 1) := by decide +kernel
theorem dX5_step_151 : decode cX5_step 151 = .ok (.iload_n 3, 1) := by decide +kernel
theorem dX5_step_152 : decode cX5_step 152 = .ok (.iload_n 2, 1) := by decide +kernel
theorem dX5_step_153 : decode cX5_step 153 = .ok (.invokevirtual 136, 3) := by decide +kernel
theorem dX5_step_156 : decode cX5_step 156 = .ok (.iadd, 1) := by decide +kernel
theorem dX5_step_157 : decode cX5_step 157 = .ok (.i2l, 1) := by decide +kernel
theorem dX5_step_158 : decode cX5_step 158 = .ok (.lor, 1) := by decide +kernel
theorem dX5_step_159 : decode cX5_step 159 = .ok (.lstore 12, 2) := by decide +kernel
theorem dX5_step_161 : decode cX5_step 161 = .ok (.iload 11, 2) := by decide +kernel
theorem dX5_step_163 : decode cX5_step 163 = .ok (.aload_n 0, 1) := by decide +kernel
theorem dX5_step_164 : decode cX5_step 164 = .ok (.getfield 35, 3) := by decide +kernel
theorem dX5_step_167 : decode cX5_step 167 = .ok (.iload 10, 2) := by decide +kernel
theorem dX5_step_169 : decode cX5_step 169 = .ok (.iaload, 1) := by decide +kernel
theorem dX5_step_170 : decode cX5_step 170 = .ok (.if_icmp .lt 28, 3) := by decide +kernel
theorem dX5_step_173 : decode cX5_step 173 = .ok (.iload 11, 2) := by decide +kernel
theorem dX5_step_175 : decode cX5_step 175 = .ok (.aload_n 0, 1) := by decide +kernel
theorem dX5_step_176 : decode cX5_step 176 = .ok (.getfield 35, 3) := by decide +kernel
theorem dX5_step_179 : decode cX5_step 179 = .ok (.iload 10, 2) := by decide +kernel
theorem dX5_step_181 : decode cX5_step 181 = .ok (.iaload, 1) := by decide +kernel
theorem dX5_step_182 : decode cX5_step 182 = .ok (.if_icmp .ne 34, 3) := by decide +kernel
theorem dX5_step_185 : decode cX5_step 185 = .ok (.lload 12, 2) := by decide +kernel
theorem dX5_step_187 : decode cX5_step 187 = .ok (.aload_n 0, 1) := by decide +kernel
theorem dX5_step_188 : decode cX5_step 188 = .ok (.getfield 28, 3) := by decide +kernel
theorem dX5_step_191 : decode cX5_step 191 = .ok (.iload 10, 2) := by decide +kernel
theorem dX5_step_193 : decode cX5_step 193 = .ok (.laload, 1) := by decide +kernel
theorem dX5_step_194 : decode cX5_step 194 = .ok (.lcmp, 1) := by decide +kernel
theorem dX5_step_195 : decode cX5_step 195 = .ok (.ifCond .ge 21, 3) := by decide +kernel
theorem dX5_step_198 : decode cX5_step 198 = .ok (.aload_n 0, 1) := by decide +kernel
theorem dX5_step_199 : decode cX5_step 199 = .ok (.getfield 35, 3) := by decide +kernel
theorem dX5_step_202 : decode cX5_step 202 = .ok (.iload 10, 2) := by decide +kernel
theorem dX5_step_204 : decode cX5_step 204 = .ok (.iload 11, 2) := by decide +kernel
theorem dX5_step_206 : decode cX5_step 206 = .ok (.iastore, 1) := by decide +kernel
theorem dX5_step_207 : decode cX5_step 207 = .ok (.aload_n 0, 1) := by decide +kernel
theorem dX5_step_208 : decode cX5_step 208 = .ok (.getfield 28, 3) := by decide +kernel
theorem dX5_step_211 : decode cX5_step 211 = .ok (.iload 10, 2) := by decide +kernel
theorem dX5_step_213 : decode cX5_step 213 = .ok (.lload 12, 2) := by decide +kernel
theorem dX5_step_215 : decode cX5_step 215 = .ok (.lastore, 1) := by decide +kernel
theorem dX5_step_216 : decode cX5_step 216 = .ok (.return_, 1) := by decide +kernel
theorem dX5_rank_0 : decode cX5_rank 0 = .ok (.iload_n 1, 1) := by decide +kernel
theorem dX5_rank_1 : decode cX5_rank 1 = .ok (.aload_n 0, 1) := by decide +kernel
theorem dX5_rank_2 : decode cX5_rank 2 = .ok (.getfield 12, 3) := by decide +kernel
theorem dX5_rank_5 : decode cX5_rank 5 = .ok (.getfield 139, 3) := by decide +kernel
theorem dX5_rank_8 : decode cX5_rank 8 = .ok (.iload_n 2, 1) := by decide +kernel
theorem dX5_rank_9 : decode cX5_rank 9 = .ok (.iaload, 1) := by decide +kernel
theorem dX5_rank_10 : decode cX5_rank 10 = .ok (.iload_n 1, 1) := by decide +kernel
theorem dX5_rank_11 : decode cX5_rank 11 = .ok (.if_icmp .ge 7, 3) := by decide +kernel
theorem dX5_rank_14 : decode cX5_rank 14 = .ok (.iconst 1, 1) := by decide +kernel
theorem dX5_rank_15 : decode cX5_rank 15 = .ok (.goto 4, 3) := by decide +kernel
theorem dX5_rank_18 : decode cX5_rank 18 = .ok (.iconst 0, 1) := by decide +kernel
theorem dX5_rank_19 : decode cX5_rank 19 = .ok (.isub, 1) := by decide +kernel
theorem dX5_rank_20 : decode cX5_rank 20 = .ok (.aload_n 0, 1) := by decide +kernel
theorem dX5_rank_21 : decode cX5_rank 21 = .ok (.getfield 12, 3) := by decide +kernel
theorem dX5_rank_24 : decode cX5_rank 24 = .ok (.getfield 130, 3) := by decide +kernel
theorem dX5_rank_27 : decode cX5_rank 27 = .ok (.iload_n 2, 1) := by decide +kernel
theorem dX5_rank_28 : decode cX5_rank 28 = .ok (.iaload, 1) := by decide +kernel
theorem dX5_rank_29 : decode cX5_rank 29 = .ok (.iload_n 1, 1) := by decide +kernel
theorem dX5_rank_30 : decode cX5_rank 30 = .ok (.if_icmp .ge 7, 3) := by decide +kernel
theorem dX5_rank_33 : decode cX5_rank 33 = .ok (.iconst 1, 1) := by decide +kernel
theorem dX5_rank_34 : decode cX5_rank 34 = .ok (.goto 4, 3) := by decide +kernel
theorem dX5_rank_37 : decode cX5_rank 37 = .ok (.iconst 0, 1) := by decide +kernel
theorem dX5_rank_38 : decode cX5_rank 38 = .ok (.isub, 1) := by decide +kernel
theorem dX5_rank_39 : decode cX5_rank 39 = .ok (.ireturn, 1) := by decide +kernel
theorem dX5_find_0 : decode cX5_find 0 = .ok (.lload_n 2, 1) := by decide +kernel
theorem dX5_find_1 : decode cX5_find 1 = .ok (.ldc2_w 142, 3) := by decide +kernel
theorem dX5_find_4 : decode cX5_find 4 = .ok (.lmul, 1) := by decide +kernel
theorem dX5_find_5 : decode cX5_find 5 = .ok (.lload 4, 2) := by decide +kernel
theorem dX5_find_7 : decode cX5_find 7 = .ok (.ladd, 1) := by decide +kernel
theorem dX5_find_8 : decode cX5_find 8 = .ok (.ldc2_w 144, 3) := by decide +kernel
theorem dX5_find_11 : decode cX5_find 11 = .ok (.lmul, 1) := by decide +kernel
theorem dX5_find_12 : decode cX5_find 12 = .ok (.iload_n 1, 1) := by decide +kernel
theorem dX5_find_13 : decode cX5_find 13 = .ok (.i2l, 1) := by decide +kernel
theorem dX5_find_14 : decode cX5_find 14 = .ok (.ldc2_w 146, 3) := by decide +kernel
theorem dX5_find_17 : decode cX5_find 17 = .ok (.lmul, 1) := by decide +kernel
theorem dX5_find_18 : decode cX5_find 18 = .ok (.ladd, 1) := by decide +kernel
theorem dX5_find_19 : decode cX5_find 19 = .ok (.lstore 6, 2) := by decide +kernel
theorem dX5_find_21 : decode cX5_find 21 = .ok (.lload 6, 2) := by decide +kernel
theorem dX5_find_23 : decode cX5_find 23 = .ok (.bipush 40, 2) := by decide +kernel
theorem dX5_find_25 : decode cX5_find 25 = .ok (.lushr, 1) := by decide +kernel
theorem dX5_find_26 : decode cX5_find 26 = .ok (.l2i, 1) := by decide +kernel
theorem dX5_find_27 : decode cX5_find 27 = .ok (.sipush 8191, 3) := by decide +kernel
theorem dX5_find_30 : decode cX5_find 30 = .ok (.iand, 1) := by decide +kernel
theorem dX5_find_31 : decode cX5_find 31 = .ok (.istore 8, 2) := by decide +kernel
theorem dX5_find_33 : decode cX5_find 33 = .ok (.iconst 0, 1) := by decide +kernel
theorem dX5_find_34 : decode cX5_find 34 = .ok (.istore 9, 2) := by decide +kernel
theorem dX5_find_36 : decode cX5_find 36 = .ok (.iload 9, 2) := by decide +kernel
theorem dX5_find_38 : decode cX5_find 38 = .ok (.sipush 8192, 3) := by decide +kernel
theorem dX5_find_41 : decode cX5_find 41 = .ok (.if_icmp .ge 85, 3) := by decide +kernel
theorem dX5_find_44 : decode cX5_find 44 = .ok (.aload_n 0, 1) := by decide +kernel
theorem dX5_find_45 : decode cX5_find 45 = .ok (.getfield 38, 3) := by decide +kernel
theorem dX5_find_48 : decode cX5_find 48 = .ok (.iload 8, 2) := by decide +kernel
theorem dX5_find_50 : decode cX5_find 50 = .ok (.iaload, 1) := by decide +kernel
theorem dX5_find_51 : decode cX5_find 51 = .ok (.iconst 1, 1) := by decide +kernel
theorem dX5_find_52 : decode cX5_find 52 = .ok (.isub, 1) := by decide +kernel
theorem dX5_find_53 : decode cX5_find 53 = .ok (.istore 10, 2) := by decide +kernel
theorem dX5_find_55 : decode cX5_find 55 = .ok (.iload 10, 2) := by decide +kernel
theorem dX5_find_57 : decode cX5_find 57 = .ok (.ifCond .ge 14, 3) := by decide +kernel
theorem dX5_find_60 : decode cX5_find 60 = .ok (.aload_n 0, 1) := by decide +kernel
theorem dX5_find_61 : decode cX5_find 61 = .ok (.iload 8, 2) := by decide +kernel
theorem dX5_find_63 : decode cX5_find 63 = .ok (.iload_n 1, 1) := by decide +kernel
theorem dX5_find_64 : decode cX5_find 64 = .ok (.lload_n 2, 1) := by decide +kernel
theorem dX5_find_65 : decode cX5_find 65 = .ok (.lload 4, 2) := by decide +kernel
theorem dX5_find_67 : decode cX5_find 67 = .ok (.invokevirtual 148, 3) := by decide +kernel
theorem dX5_find_70 : decode cX5_find 70 = .ok (.ireturn, 1) := by decide +kernel
theorem dX5_find_71 : decode cX5_find 71 = .ok (.aload_n 0, 1) := by decide +kernel
theorem dX5_find_72 : decode cX5_find 72 = .ok (.getfield 31, 3) := by decide +kernel
theorem dX5_find_75 : decode cX5_find 75 = .ok (.iload 10, 2) := by decide +kernel
theorem dX5_find_77 : decode cX5_find 77 = .ok (.iaload, 1) := by decide +kernel
theorem dX5_find_78 : decode cX5_find 78 = .ok (.iload_n 1, 1) := by decide +kernel
theorem dX5_find_79 : decode cX5_find 79 = .ok (.if_icmp .ne 31, 3) := by decide +kernel
theorem dX5_find_82 : decode cX5_find 82 = .ok (.aload_n 0, 1) := by decide +kernel
theorem dX5_find_83 : decode cX5_find 83 = .ok (.getfield 18, 3) := by decide +kernel
theorem dX5_find_86 : decode cX5_find 86 = .ok (.iload 10, 2) := by decide +kernel
theorem dX5_find_88 : decode cX5_find 88 = .ok (.laload, 1) := by decide +kernel
theorem dX5_find_89 : decode cX5_find 89 = .ok (.lload_n 2, 1) := by decide +kernel
theorem dX5_find_90 : decode cX5_find 90 = .ok (.lcmp, 1) := by decide +kernel
theorem dX5_find_91 : decode cX5_find 91 = .ok (.ifCond .ne 19, 3) := by decide +kernel
theorem dX5_find_94 : decode cX5_find 94 = .ok (.aload_n 0, 1) := by decide +kernel
theorem dX5_find_95 : decode cX5_find 95 = .ok (.getfield 22, 3) := by decide +kernel
theorem dX5_find_98 : decode cX5_find 98 = .ok (.iload 10, 2) := by decide +kernel
theorem dX5_find_100 : decode cX5_find 100 = .ok (.laload, 1) := by decide +kernel
theorem dX5_find_101 : decode cX5_find 101 = .ok (.lload 4, 2) := by decide +kernel
theorem dX5_find_103 : decode cX5_find 103 = .ok (.lcmp, 1) := by decide +kernel
theorem dX5_find_104 : decode cX5_find 104 = .ok (.ifCond .ne 6, 3) := by decide +kernel
theorem dX5_find_107 : decode cX5_find 107 = .ok (.iload 10, 2) := by decide +kernel
theorem dX5_find_109 : decode cX5_find 109 = .ok (.ireturn, 1) := by decide +kernel
theorem dX5_find_110 : decode cX5_find 110 = .ok (.iload 8, 2) := by decide +kernel
theorem dX5_find_112 : decode cX5_find 112 = .ok (.iconst 1, 1) := by decide +kernel
theorem dX5_find_113 : decode cX5_find 113 = .ok (.iadd, 1) := by decide +kernel
theorem dX5_find_114 : decode cX5_find 114 = .ok (.sipush 8191, 3) := by decide +kernel
theorem dX5_find_117 : decode cX5_find 117 = .ok (.iand, 1) := by decide +kernel
theorem dX5_find_118 : decode cX5_find 118 = .ok (.istore 8, 2) := by decide +kernel
theorem dX5_find_120 : decode cX5_find 120 = .ok (.iinc 9 1, 3) := by decide +kernel
theorem dX5_find_123 : decode cX5_find 123 = .ok (.goto (-87), 3) := by decide +kernel
theorem dX5_find_126 : decode cX5_find 126 = .ok (.iconst (-1), 1) := by decide +kernel
theorem dX5_find_127 : decode cX5_find 127 = .ok (.ireturn, 1) := by decide +kernel
theorem dX5_newState_0 : decode cX5_newState 0 = .ok (.aload_n 0, 1) := by decide +kernel
theorem dX5_newState_1 : decode cX5_newState 1 = .ok (.getfield 76, 3) := by decide +kernel
theorem dX5_newState_4 : decode cX5_newState 4 = .ok (.sipush 3000, 3) := by decide +kernel
theorem dX5_newState_7 : decode cX5_newState 7 = .ok (.if_icmp .lt 5, 3) := by decide +kernel
theorem dX5_newState_10 : decode cX5_newState 10 = .ok (.iconst (-1), 1) := by decide +kernel
theorem dX5_newState_11 : decode cX5_newState 11 = .ok (.ireturn, 1) := by decide +kernel
theorem dX5_newState_12 : decode cX5_newState 12 = .ok (.aload_n 0, 1) := by decide +kernel
theorem dX5_newState_13 : decode cX5_newState 13 = .ok (.getfield 76, 3) := by decide +kernel
theorem dX5_newState_16 : decode cX5_newState 16 = .ok (.istore 7, 2) := by decide +kernel
theorem dX5_newState_18 : decode cX5_newState 18 = .ok (.aload_n 0, 1) := by decide +kernel
theorem dX5_newState_19 : decode cX5_newState 19 = .ok (.dup, 1) := by decide +kernel
theorem dX5_newState_20 : decode cX5_newState 20 = .ok (.getfield 76, 3) := by decide +kernel
theorem dX5_newState_23 : decode cX5_newState 23 = .ok (.iconst 1, 1) := by decide +kernel
theorem dX5_newState_24 : decode cX5_newState 24 = .ok (.iadd, 1) := by decide +kernel
theorem dX5_newState_25 : decode cX5_newState 25 = .ok (.putfield 76, 3) := by decide +kernel
theorem dX5_newState_28 : decode cX5_newState 28 = .ok (.aload_n 0, 1) := by decide +kernel
theorem dX5_newState_29 : decode cX5_newState 29 = .ok (.getfield 38, 3) := by decide +kernel
theorem dX5_newState_32 : decode cX5_newState 32 = .ok (.iload_n 1, 1) := by decide +kernel
theorem dX5_newState_33 : decode cX5_newState 33 = .ok (.aload_n 0, 1) := by decide +kernel
theorem dX5_newState_34 : decode cX5_newState 34 = .ok (.getfield 76, 3) := by decide +kernel
theorem dX5_newState_37 : decode cX5_newState 37 = .ok (.iastore, 1) := by decide +kernel
theorem dX5_newState_38 : decode cX5_newState 38 = .ok (.aload_n 0, 1) := by decide +kernel
theorem dX5_newState_39 : decode cX5_newState 39 = .ok (.getfield 31, 3) := by decide +kernel
theorem dX5_newState_42 : decode cX5_newState 42 = .ok (.iload 7, 2) := by decide +kernel
theorem dX5_newState_44 : decode cX5_newState 44 = .ok (.iload_n 2, 1) := by decide +kernel
theorem dX5_newState_45 : decode cX5_newState 45 = .ok (.iastore, 1) := by decide +kernel
theorem dX5_newState_46 : decode cX5_newState 46 = .ok (.aload_n 0, 1) := by decide +kernel
theorem dX5_newState_47 : decode cX5_newState 47 = .ok (.getfield 18, 3) := by decide +kernel
theorem dX5_newState_50 : decode cX5_newState 50 = .ok (.iload 7, 2) := by decide +kernel
theorem dX5_newState_52 : decode cX5_newState 52 = .ok (.lload_n 3, 1) := by decide +kernel
theorem dX5_newState_53 : decode cX5_newState 53 = .ok (.lastore, 1) := by decide +kernel
theorem dX5_newState_54 : decode cX5_newState 54 = .ok (.aload_n 0, 1) := by decide +kernel
theorem dX5_newState_55 : decode cX5_newState 55 = .ok (.getfield 22, 3) := by decide +kernel
theorem dX5_newState_58 : decode cX5_newState 58 = .ok (.iload 7, 2) := by decide +kernel
theorem dX5_newState_60 : decode cX5_newState 60 = .ok (.lload 5, 2) := by decide +kernel
theorem dX5_newState_62 : decode cX5_newState 62 = .ok (.lastore, 1) := by decide +kernel
theorem dX5_newState_63 : decode cX5_newState 63 = .ok (.aload_n 0, 1) := by decide +kernel
theorem dX5_newState_64 : decode cX5_newState 64 = .ok (.getfield 25, 3) := by decide +kernel
theorem dX5_newState_67 : decode cX5_newState 67 = .ok (.iload 7, 2) := by decide +kernel
theorem dX5_newState_69 : decode cX5_newState 69 = .ok (.lconst 0, 1) := by decide +kernel
theorem dX5_newState_70 : decode cX5_newState 70 = .ok (.lastore, 1) := by decide +kernel
theorem dX5_newState_71 : decode cX5_newState 71 = .ok (.aload_n 0, 1) := by decide +kernel
theorem dX5_newState_72 : decode cX5_newState 72 = .ok (.getfield 35, 3) := by decide +kernel
theorem dX5_newState_75 : decode cX5_newState 75 = .ok (.iload 7, 2) := by decide +kernel
theorem dX5_newState_77 : decode cX5_newState 77 = .ok (.ldc 152, 2) := by decide +kernel
theorem dX5_newState_79 : decode cX5_newState 79 = .ok (.iastore, 1) := by decide +kernel
theorem dX5_newState_80 : decode cX5_newState 80 = .ok (.aload_n 0, 1) := by decide +kernel
theorem dX5_newState_81 : decode cX5_newState 81 = .ok (.getfield 28, 3) := by decide +kernel
theorem dX5_newState_84 : decode cX5_newState 84 = .ok (.iload 7, 2) := by decide +kernel
theorem dX5_newState_86 : decode cX5_newState 86 = .ok (.lconst 0, 1) := by decide +kernel
theorem dX5_newState_87 : decode cX5_newState 87 = .ok (.lastore, 1) := by decide +kernel
theorem dX5_newState_88 : decode cX5_newState 88 = .ok (.iload 7, 2) := by decide +kernel
theorem dX5_newState_90 : decode cX5_newState 90 = .ok (.ireturn, 1) := by decide +kernel
theorem dX5_mostPaid_0 : decode cX5_mostPaid 0 = .ok (.iconst 0, 1) := by decide +kernel
theorem dX5_mostPaid_1 : decode cX5_mostPaid 1 = .ok (.istore_n 1, 1) := by decide +kernel
theorem dX5_mostPaid_2 : decode cX5_mostPaid 2 = .ok (.iconst 0, 1) := by decide +kernel
theorem dX5_mostPaid_3 : decode cX5_mostPaid 3 = .ok (.istore_n 2, 1) := by decide +kernel
theorem dX5_mostPaid_4 : decode cX5_mostPaid 4 = .ok (.iload_n 2, 1) := by decide +kernel
theorem dX5_mostPaid_5 : decode cX5_mostPaid 5 = .ok (.aload_n 0, 1) := by decide +kernel
theorem dX5_mostPaid_6 : decode cX5_mostPaid 6 = .ok (.getfield 76, 3) := by decide +kernel
theorem dX5_mostPaid_9 : decode cX5_mostPaid 9 = .ok (.if_icmp .ge 23, 3) := by decide +kernel
theorem dX5_mostPaid_12 : decode cX5_mostPaid 12 = .ok (.iload_n 1, 1) := by decide +kernel
theorem dX5_mostPaid_13 : decode cX5_mostPaid 13 = .ok (.aload_n 0, 1) := by decide +kernel
theorem dX5_mostPaid_14 : decode cX5_mostPaid 14 = .ok (.getfield 31, 3) := by decide +kernel
theorem dX5_mostPaid_17 : decode cX5_mostPaid 17 = .ok (.iload_n 2, 1) := by decide +kernel
theorem dX5_mostPaid_18 : decode cX5_mostPaid 18 = .ok (.iaload, 1) := by decide +kernel
theorem dX5_mostPaid_19 : decode cX5_mostPaid 19 = .ok (.invokestatic 153, 3) := by decide +kernel
theorem dX5_mostPaid_22 : decode cX5_mostPaid 22 = .ok (.invokestatic 158, 3) := by decide +kernel
theorem dX5_mostPaid_25 : decode cX5_mostPaid 25 = .ok (.istore_n 1, 1) := by decide +kernel
theorem dX5_mostPaid_26 : decode cX5_mostPaid 26 = .ok (.iinc 2 1, 3) := by decide +kernel
theorem dX5_mostPaid_29 : decode cX5_mostPaid 29 = .ok (.goto (-25), 3) := by decide +kernel
theorem dX5_mostPaid_32 : decode cX5_mostPaid 32 = .ok (.iload_n 1, 1) := by decide +kernel
theorem dX5_mostPaid_33 : decode cX5_mostPaid 33 = .ok (.ireturn, 1) := by decide +kernel
theorem dX5_greatestSum_0 : decode cX5_greatestSum 0 = .ok (.iconst 0, 1) := by decide +kernel
theorem dX5_greatestSum_1 : decode cX5_greatestSum 1 = .ok (.istore_n 1, 1) := by decide +kernel
theorem dX5_greatestSum_2 : decode cX5_greatestSum 2 = .ok (.iconst 0, 1) := by decide +kernel
theorem dX5_greatestSum_3 : decode cX5_greatestSum 3 = .ok (.istore_n 2, 1) := by decide +kernel
theorem dX5_greatestSum_4 : decode cX5_greatestSum 4 = .ok (.iload_n 2, 1) := by decide +kernel
theorem dX5_greatestSum_5 : decode cX5_greatestSum 5 = .ok (.aload_n 0, 1) := by decide +kernel
theorem dX5_greatestSum_6 : decode cX5_greatestSum 6 = .ok (.getfield 76, 3) := by decide +kernel
theorem dX5_greatestSum_9 : decode cX5_greatestSum 9 = .ok (.if_icmp .ge 27, 3) := by decide +kernel
theorem dX5_greatestSum_12 : decode cX5_greatestSum 12 = .ok (.iload_n 1, 1) := by decide +kernel
theorem dX5_greatestSum_13 : decode cX5_greatestSum 13 = .ok (.aload_n 0, 1) := by decide +kernel
theorem dX5_greatestSum_14 : decode cX5_greatestSum 14 = .ok (.getfield 12, 3) := by decide +kernel
theorem dX5_greatestSum_17 : decode cX5_greatestSum 17 = .ok (.aload_n 0, 1) := by decide +kernel
theorem dX5_greatestSum_18 : decode cX5_greatestSum 18 = .ok (.getfield 31, 3) := by decide +kernel
theorem dX5_greatestSum_21 : decode cX5_greatestSum 21 = .ok (.iload_n 2, 1) := by decide +kernel
theorem dX5_greatestSum_22 : decode cX5_greatestSum 22 = .ok (.iaload, 1) := by decide +kernel
theorem dX5_greatestSum_23 : decode cX5_greatestSum 23 = .ok (.invokevirtual 163, 3) := by decide +kernel
theorem dX5_greatestSum_26 : decode cX5_greatestSum 26 = .ok (.invokestatic 158, 3) := by decide +kernel
theorem dX5_greatestSum_29 : decode cX5_greatestSum 29 = .ok (.istore_n 1, 1) := by decide +kernel
theorem dX5_greatestSum_30 : decode cX5_greatestSum 30 = .ok (.iinc 2 1, 3) := by decide +kernel
theorem dX5_greatestSum_33 : decode cX5_greatestSum 33 = .ok (.goto (-29), 3) := by decide +kernel
theorem dX5_greatestSum_36 : decode cX5_greatestSum 36 = .ok (.iload_n 1, 1) := by decide +kernel
theorem dX5_greatestSum_37 : decode cX5_greatestSum 37 = .ok (.ireturn, 1) := by decide +kernel
theorem dX5_cheapestEnd_0 : decode cX5_cheapestEnd 0 = .ok (.iconst (-1), 1) := by decide +kernel
theorem dX5_cheapestEnd_1 : decode cX5_cheapestEnd 1 = .ok (.istore_n 1, 1) := by decide +kernel
theorem dX5_cheapestEnd_2 : decode cX5_cheapestEnd 2 = .ok (.iconst 0, 1) := by decide +kernel
theorem dX5_cheapestEnd_3 : decode cX5_cheapestEnd 3 = .ok (.istore_n 2, 1) := by decide +kernel
theorem dX5_cheapestEnd_4 : decode cX5_cheapestEnd 4 = .ok (.iload_n 2, 1) := by decide +kernel
theorem dX5_cheapestEnd_5 : decode cX5_cheapestEnd 5 = .ok (.aload_n 0, 1) := by decide +kernel
theorem dX5_cheapestEnd_6 : decode cX5_cheapestEnd 6 = .ok (.getfield 76, 3) := by decide +kernel
theorem dX5_cheapestEnd_9 : decode cX5_cheapestEnd 9 = .ok (.if_icmp .ge 74, 3) := by decide +kernel
theorem dX5_cheapestEnd_12 : decode cX5_cheapestEnd 12 = .ok (.aload_n 0, 1) := by decide +kernel
theorem dX5_cheapestEnd_13 : decode cX5_cheapestEnd 13 = .ok (.getfield 31, 3) := by decide +kernel
theorem dX5_cheapestEnd_16 : decode cX5_cheapestEnd 16 = .ok (.iload_n 2, 1) := by decide +kernel
theorem dX5_cheapestEnd_17 : decode cX5_cheapestEnd 17 = .ok (.iaload, 1) := by decide +kernel
theorem dX5_cheapestEnd_18 : decode cX5_cheapestEnd 18 = .ok (.aload_n 0, 1) := by decide +kernel
theorem dX5_cheapestEnd_19 : decode cX5_cheapestEnd 19 = .ok (.getfield 70, 3) := by decide +kernel
theorem dX5_cheapestEnd_22 : decode cX5_cheapestEnd 22 = .ok (.if_icmp .ne 55, 3) := by decide +kernel
theorem dX5_cheapestEnd_25 : decode cX5_cheapestEnd 25 = .ok (.iload_n 1, 1) := by decide +kernel
theorem dX5_cheapestEnd_26 : decode cX5_cheapestEnd 26 = .ok (.ifCond .lt 49, 3) := by decide +kernel
theorem dX5_cheapestEnd_29 : decode cX5_cheapestEnd 29 = .ok (.aload_n 0, 1) := by decide +kernel
theorem dX5_cheapestEnd_30 : decode cX5_cheapestEnd 30 = .ok (.getfield 35, 3) := by decide +kernel
theorem dX5_cheapestEnd_33 : decode cX5_cheapestEnd 33 = .ok (.iload_n 2, 1) := by decide +kernel
theorem dX5_cheapestEnd_34 : decode cX5_cheapestEnd 34 = .ok (.iaload, 1) := by decide +kernel
theorem dX5_cheapestEnd_35 : decode cX5_cheapestEnd 35 = .ok (.aload_n 0, 1) := by decide +kernel
theorem dX5_cheapestEnd_36 : decode cX5_cheapestEnd 36 = .ok (.getfield 35, 3) := by decide +kernel
theorem dX5_cheapestEnd_39 : decode cX5_cheapestEnd 39 = .ok (.iload_n 1, 1) := by decide +kernel
theorem dX5_cheapestEnd_40 : decode cX5_cheapestEnd 40 = .ok (.iaload, 1) := by decide +kernel
theorem dX5_cheapestEnd_41 : decode cX5_cheapestEnd 41 = .ok (.if_icmp .lt 34, 3) := by decide +kernel
theorem dX5_cheapestEnd_44 : decode cX5_cheapestEnd 44 = .ok (.aload_n 0, 1) := by decide +kernel
theorem dX5_cheapestEnd_45 : decode cX5_cheapestEnd 45 = .ok (.getfield 35, 3) := by decide +kernel
theorem dX5_cheapestEnd_48 : decode cX5_cheapestEnd 48 = .ok (.iload_n 2, 1) := by decide +kernel
theorem dX5_cheapestEnd_49 : decode cX5_cheapestEnd 49 = .ok (.iaload, 1) := by decide +kernel
theorem dX5_cheapestEnd_50 : decode cX5_cheapestEnd 50 = .ok (.aload_n 0, 1) := by decide +kernel
theorem dX5_cheapestEnd_51 : decode cX5_cheapestEnd 51 = .ok (.getfield 35, 3) := by decide +kernel
theorem dX5_cheapestEnd_54 : decode cX5_cheapestEnd 54 = .ok (.iload_n 1, 1) := by decide +kernel
theorem dX5_cheapestEnd_55 : decode cX5_cheapestEnd 55 = .ok (.iaload, 1) := by decide +kernel
theorem dX5_cheapestEnd_56 : decode cX5_cheapestEnd 56 = .ok (.if_icmp .ne 21, 3) := by decide +kernel
theorem dX5_cheapestEnd_59 : decode cX5_cheapestEnd 59 = .ok (.aload_n 0, 1) := by decide +kernel
theorem dX5_cheapestEnd_60 : decode cX5_cheapestEnd 60 = .ok (.getfield 28, 3) := by decide +kernel
theorem dX5_cheapestEnd_63 : decode cX5_cheapestEnd 63 = .ok (.iload_n 2, 1) := by decide +kernel
theorem dX5_cheapestEnd_64 : decode cX5_cheapestEnd 64 = .ok (.laload, 1) := by decide +kernel
theorem dX5_cheapestEnd_65 : decode cX5_cheapestEnd 65 = .ok (.aload_n 0, 1) := by decide +kernel
theorem dX5_cheapestEnd_66 : decode cX5_cheapestEnd 66 = .ok (.getfield 28, 3) := by decide +kernel
theorem dX5_cheapestEnd_69 : decode cX5_cheapestEnd 69 = .ok (.iload_n 1, 1) := by decide +kernel
theorem dX5_cheapestEnd_70 : decode cX5_cheapestEnd 70 = .ok (.laload, 1) := by decide +kernel
theorem dX5_cheapestEnd_71 : decode cX5_cheapestEnd 71 = .ok (.lcmp, 1) := by decide +kernel
theorem dX5_cheapestEnd_72 : decode cX5_cheapestEnd 72 = .ok (.ifCond .ge 5, 3) := by decide +kernel
theorem dX5_cheapestEnd_75 : decode cX5_cheapestEnd 75 = .ok (.iload_n 2, 1) := by decide +kernel
theorem dX5_cheapestEnd_76 : decode cX5_cheapestEnd 76 = .ok (.istore_n 1, 1) := by decide +kernel
theorem dX5_cheapestEnd_77 : decode cX5_cheapestEnd 77 = .ok (.iinc 2 1, 3) := by decide +kernel
theorem dX5_cheapestEnd_80 : decode cX5_cheapestEnd 80 = .ok (.goto (-76), 3) := by decide +kernel
theorem dX5_cheapestEnd_83 : decode cX5_cheapestEnd 83 = .ok (.iload_n 1, 1) := by decide +kernel
theorem dX5_cheapestEnd_84 : decode cX5_cheapestEnd 84 = .ok (.ireturn, 1) := by decide +kernel
theorem dX5_payment_0 : decode cX5_payment 0 = .ok (.aload_n 0, 1) := by decide +kernel
theorem dX5_payment_1 : decode cX5_payment 1 = .ok (.getfield 28, 3) := by decide +kernel
theorem dX5_payment_4 : decode cX5_payment 4 = .ok (.iload_n 1, 1) := by decide +kernel
theorem dX5_payment_5 : decode cX5_payment 5 = .ok (.laload, 1) := by decide +kernel
theorem dX5_payment_6 : decode cX5_payment 6 = .ok (.bipush 6, 2) := by decide +kernel
theorem dX5_payment_8 : decode cX5_payment 8 = .ok (.iload_n 2, 1) := by decide +kernel
theorem dX5_payment_9 : decode cX5_payment 9 = .ok (.imul, 1) := by decide +kernel
theorem dX5_payment_10 : decode cX5_payment 10 = .ok (.lushr, 1) := by decide +kernel
theorem dX5_payment_11 : decode cX5_payment 11 = .ok (.l2i, 1) := by decide +kernel
theorem dX5_payment_12 : decode cX5_payment 12 = .ok (.bipush 63, 2) := by decide +kernel
theorem dX5_payment_14 : decode cX5_payment 14 = .ok (.iand, 1) := by decide +kernel
theorem dX5_payment_15 : decode cX5_payment 15 = .ok (.istore_n 3, 1) := by decide +kernel
theorem dX5_payment_16 : decode cX5_payment 16 = .ok (.iload_n 3, 1) := by decide +kernel
theorem dX5_payment_17 : decode cX5_payment 17 = .ok (.bipush 6, 2) := by decide +kernel
theorem dX5_payment_19 : decode cX5_payment 19 = .ok (.idiv, 1) := by decide +kernel
theorem dX5_payment_20 : decode cX5_payment 20 = .ok (.istore 4, 2) := by decide +kernel
theorem dX5_payment_22 : decode cX5_payment 22 = .ok (.aload_n 0, 1) := by decide +kernel
theorem dX5_payment_23 : decode cX5_payment 23 = .ok (.getfield 12, 3) := by decide +kernel
theorem dX5_payment_26 : decode cX5_payment 26 = .ok (.iload 4, 2) := by decide +kernel
theorem dX5_payment_28 : decode cX5_payment 28 = .ok (.invokevirtual 166, 3) := by decide +kernel
theorem dX5_payment_31 : decode cX5_payment 31 = .ok (.ifCond .ne 5, 3) := by decide +kernel
theorem dX5_payment_34 : decode cX5_payment 34 = .ok (.iconst (-1), 1) := by decide +kernel
theorem dX5_payment_35 : decode cX5_payment 35 = .ok (.ireturn, 1) := by decide +kernel
theorem dX5_payment_36 : decode cX5_payment 36 = .ok (.iload_n 3, 1) := by decide +kernel
theorem dX5_payment_37 : decode cX5_payment 37 = .ok (.bipush 6, 2) := by decide +kernel
theorem dX5_payment_39 : decode cX5_payment 39 = .ok (.irem, 1) := by decide +kernel
theorem dX5_payment_40 : decode cX5_payment 40 = .ok (.istore 5, 2) := by decide +kernel
theorem dX5_payment_42 : decode cX5_payment 42 = .ok (.aload_n 0, 1) := by decide +kernel
theorem dX5_payment_43 : decode cX5_payment 43 = .ok (.getfield 12, 3) := by decide +kernel
theorem dX5_payment_46 : decode cX5_payment 46 = .ok (.getfield 139, 3) := by decide +kernel
theorem dX5_payment_49 : decode cX5_payment 49 = .ok (.iload 4, 2) := by decide +kernel
theorem dX5_payment_51 : decode cX5_payment 51 = .ok (.iaload, 1) := by decide +kernel
theorem dX5_payment_52 : decode cX5_payment 52 = .ok (.aload_n 0, 1) := by decide +kernel
theorem dX5_payment_53 : decode cX5_payment 53 = .ok (.getfield 12, 3) := by decide +kernel
theorem dX5_payment_56 : decode cX5_payment 56 = .ok (.getfield 130, 3) := by decide +kernel
theorem dX5_payment_59 : decode cX5_payment 59 = .ok (.iload 4, 2) := by decide +kernel
theorem dX5_payment_61 : decode cX5_payment 61 = .ok (.iaload, 1) := by decide +kernel
theorem dX5_payment_62 : decode cX5_payment 62 = .ok (.invokestatic 170, 3) := by decide +kernel
theorem dX5_payment_65 : decode cX5_payment 65 = .ok (.istore 6, 2) := by decide +kernel
theorem dX5_payment_67 : decode cX5_payment 67 = .ok (.aload_n 0, 1) := by decide +kernel
theorem dX5_payment_68 : decode cX5_payment 68 = .ok (.getfield 12, 3) := by decide +kernel
theorem dX5_payment_71 : decode cX5_payment 71 = .ok (.getfield 139, 3) := by decide +kernel
theorem dX5_payment_74 : decode cX5_payment 74 = .ok (.iload 4, 2) := by decide +kernel
theorem dX5_payment_76 : decode cX5_payment 76 = .ok (.iaload, 1) := by decide +kernel
theorem dX5_payment_77 : decode cX5_payment 77 = .ok (.aload_n 0, 1) := by decide +kernel
theorem dX5_payment_78 : decode cX5_payment 78 = .ok (.getfield 12, 3) := by decide +kernel
theorem dX5_payment_81 : decode cX5_payment 81 = .ok (.getfield 130, 3) := by decide +kernel
theorem dX5_payment_84 : decode cX5_payment 84 = .ok (.iload 4, 2) := by decide +kernel
theorem dX5_payment_86 : decode cX5_payment 86 = .ok (.iaload, 1) := by decide +kernel
theorem dX5_payment_87 : decode cX5_payment 87 = .ok (.invokestatic 158, 3) := by decide +kernel
theorem dX5_payment_90 : decode cX5_payment 90 = .ok (.istore 7, 2) := by decide +kernel
theorem dX5_payment_92 : decode cX5_payment 92 = .ok (.iload 5, 2) := by decide +kernel
theorem dX5_payment_94 : decode cX5_payment 94 = .ok (.iload 6, 2) := by decide +kernel
theorem dX5_payment_96 : decode cX5_payment 96 = .ok (.if_icmp .lt 6, 3) := by decide +kernel
theorem dX5_payment_99 : decode cX5_payment 99 = .ok (.iinc 5 1, 3) := by decide +kernel
theorem dX5_payment_102 : decode cX5_payment 102 = .ok (.iload 5, 2) := by decide +kernel
theorem dX5_payment_104 : decode cX5_payment 104 = .ok (.iload 7, 2) := by decide +kernel
theorem dX5_payment_106 : decode cX5_payment 106 = .ok (.if_icmp .lt 6, 3) := by decide +kernel
theorem dX5_payment_109 : decode cX5_payment 109 = .ok (.iinc 5 1, 3) := by decide +kernel
theorem dX5_payment_112 : decode cX5_payment 112 = .ok (.bipush 10, 2) := by decide +kernel
theorem dX5_payment_114 : decode cX5_payment 114 = .ok (.iload 4, 2) := by decide +kernel
theorem dX5_payment_116 : decode cX5_payment 116 = .ok (.imul, 1) := by decide +kernel
theorem dX5_payment_117 : decode cX5_payment 117 = .ok (.iload 5, 2) := by decide +kernel
theorem dX5_payment_119 : decode cX5_payment 119 = .ok (.iadd, 1) := by decide +kernel
theorem dX5_payment_120 : decode cX5_payment 120 = .ok (.ireturn, 1) := by decide +kernel
theorem dX5_fullWays_0 : decode cX5_fullWays 0 = .ok (.lconst 0, 1) := by decide +kernel
theorem dX5_fullWays_1 : decode cX5_fullWays 1 = .ok (.lstore_n 1, 1) := by decide +kernel
theorem dX5_fullWays_2 : decode cX5_fullWays 2 = .ok (.iconst 0, 1) := by decide +kernel
theorem dX5_fullWays_3 : decode cX5_fullWays 3 = .ok (.istore_n 3, 1) := by decide +kernel
theorem dX5_fullWays_4 : decode cX5_fullWays 4 = .ok (.iload_n 3, 1) := by decide +kernel
theorem dX5_fullWays_5 : decode cX5_fullWays 5 = .ok (.aload_n 0, 1) := by decide +kernel
theorem dX5_fullWays_6 : decode cX5_fullWays 6 = .ok (.getfield 76, 3) := by decide +kernel
theorem dX5_fullWays_9 : decode cX5_fullWays 9 = .ok (.if_icmp .ge 35, 3) := by decide +kernel
theorem dX5_fullWays_12 : decode cX5_fullWays 12 = .ok (.lload_n 1, 1) := by decide +kernel
theorem dX5_fullWays_13 : decode cX5_fullWays 13 = .ok (.aload_n 0, 1) := by decide +kernel
theorem dX5_fullWays_14 : decode cX5_fullWays 14 = .ok (.getfield 31, 3) := by decide +kernel
theorem dX5_fullWays_17 : decode cX5_fullWays 17 = .ok (.iload_n 3, 1) := by decide +kernel
theorem dX5_fullWays_18 : decode cX5_fullWays 18 = .ok (.iaload, 1) := by decide +kernel
theorem dX5_fullWays_19 : decode cX5_fullWays 19 = .ok (.aload_n 0, 1) := by decide +kernel
theorem dX5_fullWays_20 : decode cX5_fullWays 20 = .ok (.getfield 70, 3) := by decide +kernel
theorem dX5_fullWays_23 : decode cX5_fullWays 23 = .ok (.if_icmp .ne 12, 3) := by decide +kernel
theorem dX5_fullWays_26 : decode cX5_fullWays 26 = .ok (.aload_n 0, 1) := by decide +kernel
theorem dX5_fullWays_27 : decode cX5_fullWays 27 = .ok (.getfield 25, 3) := by decide +kernel
theorem dX5_fullWays_30 : decode cX5_fullWays 30 = .ok (.iload_n 3, 1) := by decide +kernel
theorem dX5_fullWays_31 : decode cX5_fullWays 31 = .ok (.laload, 1) := by decide +kernel
theorem dX5_fullWays_32 : decode cX5_fullWays 32 = .ok (.goto 4, 3) := by decide +kernel
theorem dX5_fullWays_35 : decode cX5_fullWays 35 = .ok (.lconst 0, 1) := by decide +kernel
theorem dX5_fullWays_36 : decode cX5_fullWays 36 = .ok (.ladd, 1) := by decide +kernel
theorem dX5_fullWays_37 : decode cX5_fullWays 37 = .ok (.lstore_n 1, 1) := by decide +kernel
theorem dX5_fullWays_38 : decode cX5_fullWays 38 = .ok (.iinc 3 1, 3) := by decide +kernel
theorem dX5_fullWays_41 : decode cX5_fullWays 41 = .ok (.goto (-37), 3) := by decide +kernel
theorem dX5_fullWays_44 : decode cX5_fullWays 44 = .ok (.lload_n 1, 1) := by decide +kernel
theorem dX5_fullWays_45 : decode cX5_fullWays 45 = .ok (.lreturn, 1) := by decide +kernel
theorem dX5_allPayers_0 : decode cX5_allPayers 0 = .ok (.iconst 0, 1) := by decide +kernel
theorem dX5_allPayers_1 : decode cX5_allPayers 1 = .ok (.istore_n 1, 1) := by decide +kernel
theorem dX5_allPayers_2 : decode cX5_allPayers 2 = .ok (.iconst 0, 1) := by decide +kernel
theorem dX5_allPayers_3 : decode cX5_allPayers 3 = .ok (.istore_n 2, 1) := by decide +kernel
theorem dX5_allPayers_4 : decode cX5_allPayers 4 = .ok (.iload_n 2, 1) := by decide +kernel
theorem dX5_allPayers_5 : decode cX5_allPayers 5 = .ok (.aload_n 0, 1) := by decide +kernel
theorem dX5_allPayers_6 : decode cX5_allPayers 6 = .ok (.getfield 76, 3) := by decide +kernel
theorem dX5_allPayers_9 : decode cX5_allPayers 9 = .ok (.if_icmp .ge 34, 3) := by decide +kernel
theorem dX5_allPayers_12 : decode cX5_allPayers 12 = .ok (.iload_n 1, 1) := by decide +kernel
theorem dX5_allPayers_13 : decode cX5_allPayers 13 = .ok (.aload_n 0, 1) := by decide +kernel
theorem dX5_allPayers_14 : decode cX5_allPayers 14 = .ok (.getfield 31, 3) := by decide +kernel
theorem dX5_allPayers_17 : decode cX5_allPayers 17 = .ok (.iload_n 2, 1) := by decide +kernel
theorem dX5_allPayers_18 : decode cX5_allPayers 18 = .ok (.iaload, 1) := by decide +kernel
theorem dX5_allPayers_19 : decode cX5_allPayers 19 = .ok (.aload_n 0, 1) := by decide +kernel
theorem dX5_allPayers_20 : decode cX5_allPayers 20 = .ok (.getfield 70, 3) := by decide +kernel
theorem dX5_allPayers_23 : decode cX5_allPayers 23 = .ok (.if_icmp .ne 11, 3) := by decide +kernel
theorem dX5_allPayers_26 : decode cX5_allPayers 26 = .ok (.aload_n 0, 1) := by decide +kernel
theorem dX5_allPayers_27 : decode cX5_allPayers 27 = .ok (.iload_n 2, 1) := by decide +kernel
theorem dX5_allPayers_28 : decode cX5_allPayers 28 = .ok (.invokevirtual 173, 3) := by decide +kernel
theorem dX5_allPayers_31 : decode cX5_allPayers 31 = .ok (.goto 4, 3) := by decide +kernel
theorem dX5_allPayers_34 : decode cX5_allPayers 34 = .ok (.iconst 0, 1) := by decide +kernel
theorem dX5_allPayers_35 : decode cX5_allPayers 35 = .ok (.ior, 1) := by decide +kernel
theorem dX5_allPayers_36 : decode cX5_allPayers 36 = .ok (.istore_n 1, 1) := by decide +kernel
theorem dX5_allPayers_37 : decode cX5_allPayers 37 = .ok (.iinc 2 1, 3) := by decide +kernel
theorem dX5_allPayers_40 : decode cX5_allPayers 40 = .ok (.goto (-36), 3) := by decide +kernel
theorem dX5_allPayers_43 : decode cX5_allPayers 43 = .ok (.iload_n 1, 1) := by decide +kernel
theorem dX5_allPayers_44 : decode cX5_allPayers 44 = .ok (.ireturn, 1) := by decide +kernel
theorem dX5_fewestPayers_0 : decode cX5_fewestPayers 0 = .ok (.iconst (-1), 1) := by decide +kernel
theorem dX5_fewestPayers_1 : decode cX5_fewestPayers 1 = .ok (.istore_n 1, 1) := by decide +kernel
theorem dX5_fewestPayers_2 : decode cX5_fewestPayers 2 = .ok (.iconst 0, 1) := by decide +kernel
theorem dX5_fewestPayers_3 : decode cX5_fewestPayers 3 = .ok (.istore_n 2, 1) := by decide +kernel
theorem dX5_fewestPayers_4 : decode cX5_fewestPayers 4 = .ok (.iload_n 2, 1) := by decide +kernel
theorem dX5_fewestPayers_5 : decode cX5_fewestPayers 5 = .ok (.aload_n 0, 1) := by decide +kernel
theorem dX5_fewestPayers_6 : decode cX5_fewestPayers 6 = .ok (.getfield 76, 3) := by decide +kernel
theorem dX5_fewestPayers_9 : decode cX5_fewestPayers 9 = .ok (.if_icmp .ge 40, 3) := by decide +kernel
theorem dX5_fewestPayers_12 : decode cX5_fewestPayers 12 = .ok (.aload_n 0, 1) := by decide +kernel
theorem dX5_fewestPayers_13 : decode cX5_fewestPayers 13 = .ok (.getfield 31, 3) := by decide +kernel
theorem dX5_fewestPayers_16 : decode cX5_fewestPayers 16 = .ok (.iload_n 2, 1) := by decide +kernel
theorem dX5_fewestPayers_17 : decode cX5_fewestPayers 17 = .ok (.iaload, 1) := by decide +kernel
theorem dX5_fewestPayers_18 : decode cX5_fewestPayers 18 = .ok (.aload_n 0, 1) := by decide +kernel
theorem dX5_fewestPayers_19 : decode cX5_fewestPayers 19 = .ok (.getfield 70, 3) := by decide +kernel
theorem dX5_fewestPayers_22 : decode cX5_fewestPayers 22 = .ok (.if_icmp .ne 21, 3) := by decide +kernel
theorem dX5_fewestPayers_25 : decode cX5_fewestPayers 25 = .ok (.aload_n 0, 1) := by decide +kernel
theorem dX5_fewestPayers_26 : decode cX5_fewestPayers 26 = .ok (.iload_n 2, 1) := by decide +kernel
theorem dX5_fewestPayers_27 : decode cX5_fewestPayers 27 = .ok (.invokevirtual 173, 3) := by decide +kernel
theorem dX5_fewestPayers_30 : decode cX5_fewestPayers 30 = .ok (.iload_n 1, 1) := by decide +kernel
theorem dX5_fewestPayers_31 : decode cX5_fewestPayers 31 = .ok (.invokestatic 176, 3) := by decide +kernel
theorem dX5_fewestPayers_34 : decode cX5_fewestPayers 34 = .ok (.ifCond .eq 9, 3) := by decide +kernel
theorem dX5_fewestPayers_37 : decode cX5_fewestPayers 37 = .ok (.aload_n 0, 1) := by decide +kernel
theorem dX5_fewestPayers_38 : decode cX5_fewestPayers 38 = .ok (.iload_n 2, 1) := by decide +kernel
theorem dX5_fewestPayers_39 : decode cX5_fewestPayers 39 = .ok (.invokevirtual 173, 3) := by decide +kernel
theorem dX5_fewestPayers_42 : decode cX5_fewestPayers 42 = .ok (.istore_n 1, 1) := by decide +kernel
theorem dX5_fewestPayers_43 : decode cX5_fewestPayers 43 = .ok (.iinc 2 1, 3) := by decide +kernel
theorem dX5_fewestPayers_46 : decode cX5_fewestPayers 46 = .ok (.goto (-42), 3) := by decide +kernel
theorem dX5_fewestPayers_49 : decode cX5_fewestPayers 49 = .ok (.iload_n 1, 1) := by decide +kernel
theorem dX5_fewestPayers_50 : decode cX5_fewestPayers 50 = .ok (.ireturn, 1) := by decide +kernel
theorem dX5_isFewer_0 : decode cX5_isFewer 0 = .ok (.iload_n 0, 1) := by decide +kernel
theorem dX5_isFewer_1 : decode cX5_isFewer 1 = .ok (.invokestatic 153, 3) := by decide +kernel
theorem dX5_isFewer_4 : decode cX5_isFewer 4 = .ok (.iload_n 1, 1) := by decide +kernel
theorem dX5_isFewer_5 : decode cX5_isFewer 5 = .ok (.invokestatic 153, 3) := by decide +kernel
theorem dX5_isFewer_8 : decode cX5_isFewer 8 = .ok (.isub, 1) := by decide +kernel
theorem dX5_isFewer_9 : decode cX5_isFewer 9 = .ok (.istore_n 2, 1) := by decide +kernel
theorem dX5_isFewer_10 : decode cX5_isFewer 10 = .ok (.iload_n 1, 1) := by decide +kernel
theorem dX5_isFewer_11 : decode cX5_isFewer 11 = .ok (.ifCond .lt 16, 3) := by decide +kernel
theorem dX5_isFewer_14 : decode cX5_isFewer 14 = .ok (.iload_n 2, 1) := by decide +kernel
theorem dX5_isFewer_15 : decode cX5_isFewer 15 = .ok (.ifCond .lt 12, 3) := by decide +kernel
theorem dX5_isFewer_18 : decode cX5_isFewer 18 = .ok (.iload_n 2, 1) := by decide +kernel
theorem dX5_isFewer_19 : decode cX5_isFewer 19 = .ok (.ifCond .ne 12, 3) := by decide +kernel
theorem dX5_isFewer_22 : decode cX5_isFewer 22 = .ok (.iload_n 0, 1) := by decide +kernel
theorem dX5_isFewer_23 : decode cX5_isFewer 23 = .ok (.iload_n 1, 1) := by decide +kernel
theorem dX5_isFewer_24 : decode cX5_isFewer 24 = .ok (.if_icmp .ge 7, 3) := by decide +kernel
theorem dX5_isFewer_27 : decode cX5_isFewer 27 = .ok (.iconst 1, 1) := by decide +kernel
theorem dX5_isFewer_28 : decode cX5_isFewer 28 = .ok (.goto 4, 3) := by decide +kernel
theorem dX5_isFewer_31 : decode cX5_isFewer 31 = .ok (.iconst 0, 1) := by decide +kernel
theorem dX5_isFewer_32 : decode cX5_isFewer 32 = .ok (.ireturn, 1) := by decide +kernel
theorem dX5_payersTo_0 : decode cX5_payersTo 0 = .ok (.iconst 0, 1) := by decide +kernel
theorem dX5_payersTo_1 : decode cX5_payersTo 1 = .ok (.istore_n 2, 1) := by decide +kernel
theorem dX5_payersTo_2 : decode cX5_payersTo 2 = .ok (.iconst 0, 1) := by decide +kernel
theorem dX5_payersTo_3 : decode cX5_payersTo 3 = .ok (.istore_n 3, 1) := by decide +kernel
theorem dX5_payersTo_4 : decode cX5_payersTo 4 = .ok (.iload_n 3, 1) := by decide +kernel
theorem dX5_payersTo_5 : decode cX5_payersTo 5 = .ok (.aload_n 0, 1) := by decide +kernel
theorem dX5_payersTo_6 : decode cX5_payersTo 6 = .ok (.getfield 12, 3) := by decide +kernel
theorem dX5_payersTo_9 : decode cX5_payersTo 9 = .ok (.getfield 95, 3) := by decide +kernel
theorem dX5_payersTo_12 : decode cX5_payersTo 12 = .ok (.if_icmp .ge 45, 3) := by decide +kernel
theorem dX5_payersTo_15 : decode cX5_payersTo 15 = .ok (.aload_n 0, 1) := by decide +kernel
theorem dX5_payersTo_16 : decode cX5_payersTo 16 = .ok (.iload_n 1, 1) := by decide +kernel
theorem dX5_payersTo_17 : decode cX5_payersTo 17 = .ok (.iload_n 3, 1) := by decide +kernel
theorem dX5_payersTo_18 : decode cX5_payersTo 18 = .ok (.invokevirtual 110, 3) := by decide +kernel
theorem dX5_payersTo_21 : decode cX5_payersTo 21 = .ok (.aload_n 0, 1) := by decide +kernel
theorem dX5_payersTo_22 : decode cX5_payersTo 22 = .ok (.getfield 12, 3) := by decide +kernel
theorem dX5_payersTo_25 : decode cX5_payersTo 25 = .ok (.getfield 98, 3) := by decide +kernel
theorem dX5_payersTo_28 : decode cX5_payersTo 28 = .ok (.iload_n 3, 1) := by decide +kernel
theorem dX5_payersTo_29 : decode cX5_payersTo 29 = .ok (.iaload, 1) := by decide +kernel
theorem dX5_payersTo_30 : decode cX5_payersTo 30 = .ok (.aload_n 0, 1) := by decide +kernel
theorem dX5_payersTo_31 : decode cX5_payersTo 31 = .ok (.aload_n 0, 1) := by decide +kernel
theorem dX5_payersTo_32 : decode cX5_payersTo 32 = .ok (.getfield 31, 3) := by decide +kernel
theorem dX5_payersTo_35 : decode cX5_payersTo 35 = .ok (.iload_n 1, 1) := by decide +kernel
theorem dX5_payersTo_36 : decode cX5_payersTo 36 = .ok (.iaload, 1) := by decide +kernel
theorem dX5_payersTo_37 : decode cX5_payersTo 37 = .ok (.iload_n 3, 1) := by decide +kernel
theorem dX5_payersTo_38 : decode cX5_payersTo 38 = .ok (.invokevirtual 180, 3) := by decide +kernel
theorem dX5_payersTo_41 : decode cX5_payersTo 41 = .ok (.iadd, 1) := by decide +kernel
theorem dX5_payersTo_42 : decode cX5_payersTo 42 = .ok (.if_icmp .ge 9, 3) := by decide +kernel
theorem dX5_payersTo_45 : decode cX5_payersTo 45 = .ok (.iload_n 2, 1) := by decide +kernel
theorem dX5_payersTo_46 : decode cX5_payersTo 46 = .ok (.iconst 1, 1) := by decide +kernel
theorem dX5_payersTo_47 : decode cX5_payersTo 47 = .ok (.iload_n 3, 1) := by decide +kernel
theorem dX5_payersTo_48 : decode cX5_payersTo 48 = .ok (.ishl, 1) := by decide +kernel
theorem dX5_payersTo_49 : decode cX5_payersTo 49 = .ok (.ior, 1) := by decide +kernel
theorem dX5_payersTo_50 : decode cX5_payersTo 50 = .ok (.istore_n 2, 1) := by decide +kernel
theorem dX5_payersTo_51 : decode cX5_payersTo 51 = .ok (.iinc 3 1, 3) := by decide +kernel
theorem dX5_payersTo_54 : decode cX5_payersTo 54 = .ok (.goto (-50), 3) := by decide +kernel
theorem dX5_payersTo_57 : decode cX5_payersTo 57 = .ok (.iload_n 2, 1) := by decide +kernel
theorem dX5_payersTo_58 : decode cX5_payersTo 58 = .ok (.ireturn, 1) := by decide +kernel
theorem dX5_got_0 : decode cX5_got 0 = .ok (.iconst 0, 1) := by decide +kernel
theorem dX5_got_1 : decode cX5_got 1 = .ok (.istore_n 3, 1) := by decide +kernel
theorem dX5_got_2 : decode cX5_got 2 = .ok (.iconst 0, 1) := by decide +kernel
theorem dX5_got_3 : decode cX5_got 3 = .ok (.istore 4, 2) := by decide +kernel
theorem dX5_got_5 : decode cX5_got 5 = .ok (.iload 4, 2) := by decide +kernel
theorem dX5_got_7 : decode cX5_got 7 = .ok (.aload_n 0, 1) := by decide +kernel
theorem dX5_got_8 : decode cX5_got 8 = .ok (.getfield 12, 3) := by decide +kernel
theorem dX5_got_11 : decode cX5_got 11 = .ok (.getfield 117, 3) := by decide +kernel
theorem dX5_got_14 : decode cX5_got 14 = .ok (.if_icmp .ge 45, 3) := by decide +kernel
theorem dX5_got_17 : decode cX5_got 17 = .ok (.iload_n 1, 1) := by decide +kernel
theorem dX5_got_18 : decode cX5_got 18 = .ok (.iconst 1, 1) := by decide +kernel
theorem dX5_got_19 : decode cX5_got 19 = .ok (.iload 4, 2) := by decide +kernel
theorem dX5_got_21 : decode cX5_got 21 = .ok (.ishl, 1) := by decide +kernel
theorem dX5_got_22 : decode cX5_got 22 = .ok (.iand, 1) := by decide +kernel
theorem dX5_got_23 : decode cX5_got 23 = .ok (.ifCond .eq 30, 3) := by decide +kernel
theorem dX5_got_26 : decode cX5_got 26 = .ok (.aload_n 0, 1) := by decide +kernel
theorem dX5_got_27 : decode cX5_got 27 = .ok (.getfield 12, 3) := by decide +kernel
theorem dX5_got_30 : decode cX5_got 30 = .ok (.getfield 130, 3) := by decide +kernel
theorem dX5_got_33 : decode cX5_got 33 = .ok (.iload 4, 2) := by decide +kernel
theorem dX5_got_35 : decode cX5_got 35 = .ok (.iaload, 1) := by decide +kernel
theorem dX5_got_36 : decode cX5_got 36 = .ok (.iload_n 2, 1) := by decide +kernel
theorem dX5_got_37 : decode cX5_got 37 = .ok (.if_icmp .ne 16, 3) := by decide +kernel
theorem dX5_got_40 : decode cX5_got 40 = .ok (.iload_n 3, 1) := by decide +kernel
theorem dX5_got_41 : decode cX5_got 41 = .ok (.aload_n 0, 1) := by decide +kernel
theorem dX5_got_42 : decode cX5_got 42 = .ok (.getfield 12, 3) := by decide +kernel
theorem dX5_got_45 : decode cX5_got 45 = .ok (.getfield 127, 3) := by decide +kernel
theorem dX5_got_48 : decode cX5_got 48 = .ok (.iload 4, 2) := by decide +kernel
theorem dX5_got_50 : decode cX5_got 50 = .ok (.iaload, 1) := by decide +kernel
theorem dX5_got_51 : decode cX5_got 51 = .ok (.iadd, 1) := by decide +kernel
theorem dX5_got_52 : decode cX5_got 52 = .ok (.istore_n 3, 1) := by decide +kernel
theorem dX5_got_53 : decode cX5_got 53 = .ok (.iinc 4 1, 3) := by decide +kernel
theorem dX5_got_56 : decode cX5_got 56 = .ok (.goto (-51), 3) := by decide +kernel
theorem dX5_got_59 : decode cX5_got 59 = .ok (.iload_n 3, 1) := by decide +kernel
theorem dX5_got_60 : decode cX5_got 60 = .ok (.ireturn, 1) := by decide +kernel
theorem dJ11_isValidCodePoint_9a6ad_0 : decode cJ11_isValidCodePoint_9a6ad 0 = .ok (.iload_n 0, 1) := by decide +kernel
theorem dJ11_isValidCodePoint_9a6ad_1 : decode cJ11_isValidCodePoint_9a6ad 1 = .ok (.bipush 16, 2) := by decide +kernel
theorem dJ11_isValidCodePoint_9a6ad_3 : decode cJ11_isValidCodePoint_9a6ad 3 = .ok (.iushr, 1) := by decide +kernel
theorem dJ11_isValidCodePoint_9a6ad_4 : decode cJ11_isValidCodePoint_9a6ad 4 = .ok (.istore_n 1, 1) := by decide +kernel
theorem dJ11_isValidCodePoint_9a6ad_5 : decode cJ11_isValidCodePoint_9a6ad 5 = .ok (.iload_n 1, 1) := by decide +kernel
theorem dJ11_isValidCodePoint_9a6ad_6 : decode cJ11_isValidCodePoint_9a6ad 6 = .ok (.bipush 17, 2) := by decide +kernel
theorem dJ11_isValidCodePoint_9a6ad_8 : decode cJ11_isValidCodePoint_9a6ad 8 = .ok (.if_icmp .ge 7, 3) := by decide +kernel
theorem dJ11_isValidCodePoint_9a6ad_11 : decode cJ11_isValidCodePoint_9a6ad 11 = .ok (.iconst 1, 1) := by decide +kernel
theorem dJ11_isValidCodePoint_9a6ad_12 : decode cJ11_isValidCodePoint_9a6ad 12 = .ok (.goto 4, 3) := by decide +kernel
theorem dJ11_isValidCodePoint_9a6ad_15 : decode cJ11_isValidCodePoint_9a6ad 15 = .ok (.iconst 0, 1) := by decide +kernel
theorem dJ11_isValidCodePoint_9a6ad_16 : decode cJ11_isValidCodePoint_9a6ad 16 = .ok (.ireturn, 1) := by decide +kernel
theorem dJ11_highSurrogate_5068e_0 : decode cJ11_highSurrogate_5068e 0 = .ok (.iload_n 0, 1) := by decide +kernel
theorem dJ11_highSurrogate_5068e_1 : decode cJ11_highSurrogate_5068e 1 = .ok (.bipush 10, 2) := by decide +kernel
theorem dJ11_highSurrogate_5068e_3 : decode cJ11_highSurrogate_5068e 3 = .ok (.iushr, 1) := by decide +kernel
theorem dJ11_highSurrogate_5068e_4 : decode cJ11_highSurrogate_5068e 4 = .ok (.ldc 110, 2) := by decide +kernel
theorem dJ11_highSurrogate_5068e_6 : decode cJ11_highSurrogate_5068e 6 = .ok (.iadd, 1) := by decide +kernel
theorem dJ11_highSurrogate_5068e_7 : decode cJ11_highSurrogate_5068e 7 = .ok (.i2c, 1) := by decide +kernel
theorem dJ11_highSurrogate_5068e_8 : decode cJ11_highSurrogate_5068e 8 = .ok (.ireturn, 1) := by decide +kernel
theorem dJ11_lowSurrogate_5068e_0 : decode cJ11_lowSurrogate_5068e 0 = .ok (.iload_n 0, 1) := by decide +kernel
theorem dJ11_lowSurrogate_5068e_1 : decode cJ11_lowSurrogate_5068e 1 = .ok (.sipush 1023, 3) := by decide +kernel
theorem dJ11_lowSurrogate_5068e_4 : decode cJ11_lowSurrogate_5068e 4 = .ok (.iand, 1) := by decide +kernel
theorem dJ11_lowSurrogate_5068e_5 : decode cJ11_lowSurrogate_5068e 5 = .ok (.ldc 76, 2) := by decide +kernel
theorem dJ11_lowSurrogate_5068e_7 : decode cJ11_lowSurrogate_5068e 7 = .ok (.iadd, 1) := by decide +kernel
theorem dJ11_lowSurrogate_5068e_8 : decode cJ11_lowSurrogate_5068e 8 = .ok (.i2c, 1) := by decide +kernel
theorem dJ11_lowSurrogate_5068e_9 : decode cJ11_lowSurrogate_5068e 9 = .ok (.ireturn, 1) := by decide +kernel
theorem dJ6_bitCount_0f7a4_0 : decode cJ6_bitCount_0f7a4 0 = .ok (.iload_n 0, 1) := by decide +kernel
theorem dJ6_bitCount_0f7a4_1 : decode cJ6_bitCount_0f7a4 1 = .ok (.iload_n 0, 1) := by decide +kernel
theorem dJ6_bitCount_0f7a4_2 : decode cJ6_bitCount_0f7a4 2 = .ok (.iconst 1, 1) := by decide +kernel
theorem dJ6_bitCount_0f7a4_3 : decode cJ6_bitCount_0f7a4 3 = .ok (.iushr, 1) := by decide +kernel
theorem dJ6_bitCount_0f7a4_4 : decode cJ6_bitCount_0f7a4 4 = .ok (.ldc_w 265, 3) := by decide +kernel
theorem dJ6_bitCount_0f7a4_7 : decode cJ6_bitCount_0f7a4 7 = .ok (.iand, 1) := by decide +kernel
theorem dJ6_bitCount_0f7a4_8 : decode cJ6_bitCount_0f7a4 8 = .ok (.isub, 1) := by decide +kernel
theorem dJ6_bitCount_0f7a4_9 : decode cJ6_bitCount_0f7a4 9 = .ok (.istore_n 0, 1) := by decide +kernel
theorem dJ6_bitCount_0f7a4_10 : decode cJ6_bitCount_0f7a4 10 = .ok (.iload_n 0, 1) := by decide +kernel
theorem dJ6_bitCount_0f7a4_11 : decode cJ6_bitCount_0f7a4 11 = .ok (.ldc_w 266, 3) := by decide +kernel
theorem dJ6_bitCount_0f7a4_14 : decode cJ6_bitCount_0f7a4 14 = .ok (.iand, 1) := by decide +kernel
theorem dJ6_bitCount_0f7a4_15 : decode cJ6_bitCount_0f7a4 15 = .ok (.iload_n 0, 1) := by decide +kernel
theorem dJ6_bitCount_0f7a4_16 : decode cJ6_bitCount_0f7a4 16 = .ok (.iconst 2, 1) := by decide +kernel
theorem dJ6_bitCount_0f7a4_17 : decode cJ6_bitCount_0f7a4 17 = .ok (.iushr, 1) := by decide +kernel
theorem dJ6_bitCount_0f7a4_18 : decode cJ6_bitCount_0f7a4 18 = .ok (.ldc_w 266, 3) := by decide +kernel
theorem dJ6_bitCount_0f7a4_21 : decode cJ6_bitCount_0f7a4 21 = .ok (.iand, 1) := by decide +kernel
theorem dJ6_bitCount_0f7a4_22 : decode cJ6_bitCount_0f7a4 22 = .ok (.iadd, 1) := by decide +kernel
theorem dJ6_bitCount_0f7a4_23 : decode cJ6_bitCount_0f7a4 23 = .ok (.istore_n 0, 1) := by decide +kernel
theorem dJ6_bitCount_0f7a4_24 : decode cJ6_bitCount_0f7a4 24 = .ok (.iload_n 0, 1) := by decide +kernel
theorem dJ6_bitCount_0f7a4_25 : decode cJ6_bitCount_0f7a4 25 = .ok (.iload_n 0, 1) := by decide +kernel
theorem dJ6_bitCount_0f7a4_26 : decode cJ6_bitCount_0f7a4 26 = .ok (.iconst 4, 1) := by decide +kernel
theorem dJ6_bitCount_0f7a4_27 : decode cJ6_bitCount_0f7a4 27 = .ok (.iushr, 1) := by decide +kernel
theorem dJ6_bitCount_0f7a4_28 : decode cJ6_bitCount_0f7a4 28 = .ok (.iadd, 1) := by decide +kernel
theorem dJ6_bitCount_0f7a4_29 : decode cJ6_bitCount_0f7a4 29 = .ok (.ldc_w 267, 3) := by decide +kernel
theorem dJ6_bitCount_0f7a4_32 : decode cJ6_bitCount_0f7a4 32 = .ok (.iand, 1) := by decide +kernel
theorem dJ6_bitCount_0f7a4_33 : decode cJ6_bitCount_0f7a4 33 = .ok (.istore_n 0, 1) := by decide +kernel
theorem dJ6_bitCount_0f7a4_34 : decode cJ6_bitCount_0f7a4 34 = .ok (.iload_n 0, 1) := by decide +kernel
theorem dJ6_bitCount_0f7a4_35 : decode cJ6_bitCount_0f7a4 35 = .ok (.iload_n 0, 1) := by decide +kernel
theorem dJ6_bitCount_0f7a4_36 : decode cJ6_bitCount_0f7a4 36 = .ok (.bipush 8, 2) := by decide +kernel
theorem dJ6_bitCount_0f7a4_38 : decode cJ6_bitCount_0f7a4 38 = .ok (.iushr, 1) := by decide +kernel
theorem dJ6_bitCount_0f7a4_39 : decode cJ6_bitCount_0f7a4 39 = .ok (.iadd, 1) := by decide +kernel
theorem dJ6_bitCount_0f7a4_40 : decode cJ6_bitCount_0f7a4 40 = .ok (.istore_n 0, 1) := by decide +kernel
theorem dJ6_bitCount_0f7a4_41 : decode cJ6_bitCount_0f7a4 41 = .ok (.iload_n 0, 1) := by decide +kernel
theorem dJ6_bitCount_0f7a4_42 : decode cJ6_bitCount_0f7a4 42 = .ok (.iload_n 0, 1) := by decide +kernel
theorem dJ6_bitCount_0f7a4_43 : decode cJ6_bitCount_0f7a4 43 = .ok (.bipush 16, 2) := by decide +kernel
theorem dJ6_bitCount_0f7a4_45 : decode cJ6_bitCount_0f7a4 45 = .ok (.iushr, 1) := by decide +kernel
theorem dJ6_bitCount_0f7a4_46 : decode cJ6_bitCount_0f7a4 46 = .ok (.iadd, 1) := by decide +kernel
theorem dJ6_bitCount_0f7a4_47 : decode cJ6_bitCount_0f7a4 47 = .ok (.istore_n 0, 1) := by decide +kernel
theorem dJ6_bitCount_0f7a4_48 : decode cJ6_bitCount_0f7a4 48 = .ok (.iload_n 0, 1) := by decide +kernel
theorem dJ6_bitCount_0f7a4_49 : decode cJ6_bitCount_0f7a4 49 = .ok (.bipush 63, 2) := by decide +kernel
theorem dJ6_bitCount_0f7a4_51 : decode cJ6_bitCount_0f7a4 51 = .ok (.iand, 1) := by decide +kernel
theorem dJ6_bitCount_0f7a4_52 : decode cJ6_bitCount_0f7a4 52 = .ok (.ireturn, 1) := by decide +kernel
theorem dJ9_abs_0f7a4_0 : decode cJ9_abs_0f7a4 0 = .ok (.iload_n 0, 1) := by decide +kernel
theorem dJ9_abs_0f7a4_1 : decode cJ9_abs_0f7a4 1 = .ok (.ifCond .ge 8, 3) := by decide +kernel
theorem dJ9_abs_0f7a4_4 : decode cJ9_abs_0f7a4 4 = .ok (.iload_n 0, 1) := by decide +kernel
theorem dJ9_abs_0f7a4_5 : decode cJ9_abs_0f7a4 5 = .ok (.ineg, 1) := by decide +kernel
theorem dJ9_abs_0f7a4_6 : decode cJ9_abs_0f7a4 6 = .ok (.goto 4, 3) := by decide +kernel
theorem dJ9_abs_0f7a4_9 : decode cJ9_abs_0f7a4 9 = .ok (.iload_n 0, 1) := by decide +kernel
theorem dJ9_abs_0f7a4_10 : decode cJ9_abs_0f7a4 10 = .ok (.ireturn, 1) := by decide +kernel
theorem dJ9_max_7cf53_0 : decode cJ9_max_7cf53 0 = .ok (.iload_n 0, 1) := by decide +kernel
theorem dJ9_max_7cf53_1 : decode cJ9_max_7cf53 1 = .ok (.iload_n 1, 1) := by decide +kernel
theorem dJ9_max_7cf53_2 : decode cJ9_max_7cf53 2 = .ok (.if_icmp .lt 7, 3) := by decide +kernel
theorem dJ9_max_7cf53_5 : decode cJ9_max_7cf53 5 = .ok (.iload_n 0, 1) := by decide +kernel
theorem dJ9_max_7cf53_6 : decode cJ9_max_7cf53 6 = .ok (.goto 4, 3) := by decide +kernel
theorem dJ9_max_7cf53_9 : decode cJ9_max_7cf53 9 = .ok (.iload_n 1, 1) := by decide +kernel
theorem dJ9_max_7cf53_10 : decode cJ9_max_7cf53 10 = .ok (.ireturn, 1) := by decide +kernel
theorem dJ9_min_7cf53_0 : decode cJ9_min_7cf53 0 = .ok (.iload_n 0, 1) := by decide +kernel
theorem dJ9_min_7cf53_1 : decode cJ9_min_7cf53 1 = .ok (.iload_n 1, 1) := by decide +kernel
theorem dJ9_min_7cf53_2 : decode cJ9_min_7cf53 2 = .ok (.if_icmp .gt 7, 3) := by decide +kernel
theorem dJ9_min_7cf53_5 : decode cJ9_min_7cf53 5 = .ok (.iload_n 0, 1) := by decide +kernel
theorem dJ9_min_7cf53_6 : decode cJ9_min_7cf53 6 = .ok (.goto 4, 3) := by decide +kernel
theorem dJ9_min_7cf53_9 : decode cJ9_min_7cf53 9 = .ok (.iload_n 1, 1) := by decide +kernel
theorem dJ9_min_7cf53_10 : decode cJ9_min_7cf53 10 = .ok (.ireturn, 1) := by decide +kernel
theorem dJ0_length_8abf5_0 : decode cJ0_length_8abf5 0 = .ok (.aload_n 0, 1) := by decide +kernel
theorem dJ0_length_8abf5_1 : decode cJ0_length_8abf5 1 = .ok (.getfield 9, 3) := by decide +kernel
theorem dJ0_length_8abf5_4 : decode cJ0_length_8abf5 4 = .ok (.arraylength, 1) := by decide +kernel
theorem dJ0_length_8abf5_5 : decode cJ0_length_8abf5 5 = .ok (.aload_n 0, 1) := by decide +kernel
theorem dJ0_length_8abf5_6 : decode cJ0_length_8abf5 6 = .ok (.invokevirtual 335, 3) := by decide +kernel
theorem dJ0_length_8abf5_9 : decode cJ0_length_8abf5 9 = .ok (.ishr, 1) := by decide +kernel
theorem dJ0_length_8abf5_10 : decode cJ0_length_8abf5 10 = .ok (.ireturn, 1) := by decide +kernel
theorem dJ0_indexOf_0f7a4_0 : decode cJ0_indexOf_0f7a4 0 = .ok (.aload_n 0, 1) := by decide +kernel
theorem dJ0_indexOf_0f7a4_1 : decode cJ0_indexOf_0f7a4 1 = .ok (.iload_n 1, 1) := by decide +kernel
theorem dJ0_indexOf_0f7a4_2 : decode cJ0_indexOf_0f7a4 2 = .ok (.iconst 0, 1) := by decide +kernel
theorem dJ0_indexOf_0f7a4_3 : decode cJ0_indexOf_0f7a4 3 = .ok (.invokevirtual 633, 3) := by decide +kernel
theorem dJ0_indexOf_0f7a4_6 : decode cJ0_indexOf_0f7a4 6 = .ok (.ireturn, 1) := by decide +kernel
theorem dJ0_indexOf_7cf53_0 : decode cJ0_indexOf_7cf53 0 = .ok (.aload_n 0, 1) := by decide +kernel
theorem dJ0_indexOf_7cf53_1 : decode cJ0_indexOf_7cf53 1 = .ok (.invokevirtual 492, 3) := by decide +kernel
theorem dJ0_indexOf_7cf53_4 : decode cJ0_indexOf_7cf53 4 = .ok (.ifCond .eq 19, 3) := by decide +kernel
theorem dJ0_indexOf_7cf53_7 : decode cJ0_indexOf_7cf53 7 = .ok (.aload_n 0, 1) := by decide +kernel
theorem dJ0_indexOf_7cf53_8 : decode cJ0_indexOf_7cf53 8 = .ok (.getfield 9, 3) := by decide +kernel
theorem dJ0_indexOf_7cf53_11 : decode cJ0_indexOf_7cf53 11 = .ok (.iload_n 1, 1) := by decide +kernel
theorem dJ0_indexOf_7cf53_12 : decode cJ0_indexOf_7cf53 12 = .ok (.iload_n 2, 1) := by decide +kernel
theorem dJ0_indexOf_7cf53_13 : decode cJ0_indexOf_7cf53 13 = .ok (.aload_n 0, 1) := by decide +kernel
theorem dJ0_indexOf_7cf53_14 : decode cJ0_indexOf_7cf53 14 = .ok (.invokevirtual 505, 3) := by decide +kernel
theorem dJ0_indexOf_7cf53_17 : decode cJ0_indexOf_7cf53 17 = .ok (.invokestatic 637, 3) := by decide +kernel
theorem dJ0_indexOf_7cf53_20 : decode cJ0_indexOf_7cf53 20 = .ok (.goto 16, 3) := by decide +kernel
theorem dJ0_indexOf_7cf53_23 : decode cJ0_indexOf_7cf53 23 = .ok (.aload_n 0, 1) := by decide +kernel
theorem dJ0_indexOf_7cf53_24 : decode cJ0_indexOf_7cf53 24 = .ok (.getfield 9, 3) := by decide +kernel
theorem dJ0_indexOf_7cf53_27 : decode cJ0_indexOf_7cf53 27 = .ok (.iload_n 1, 1) := by decide +kernel
theorem dJ0_indexOf_7cf53_28 : decode cJ0_indexOf_7cf53 28 = .ok (.iload_n 2, 1) := by decide +kernel
theorem dJ0_indexOf_7cf53_29 : decode cJ0_indexOf_7cf53 29 = .ok (.aload_n 0, 1) := by decide +kernel
theorem dJ0_indexOf_7cf53_30 : decode cJ0_indexOf_7cf53 30 = .ok (.invokevirtual 505, 3) := by decide +kernel
theorem dJ0_indexOf_7cf53_33 : decode cJ0_indexOf_7cf53 33 = .ok (.invokestatic 640, 3) := by decide +kernel
theorem dJ0_indexOf_7cf53_36 : decode cJ0_indexOf_7cf53 36 = .ok (.ireturn, 1) := by decide +kernel
theorem dJ0_coder_7d493_0 : decode cJ0_coder_7d493 0 = .ok (.getstatic 38, 3) := by decide +kernel
theorem dJ0_coder_7d493_3 : decode cJ0_coder_7d493 3 = .ok (.ifCond .eq 10, 3) := by decide +kernel
theorem dJ0_coder_7d493_6 : decode cJ0_coder_7d493 6 = .ok (.aload_n 0, 1) := by decide +kernel
theorem dJ0_coder_7d493_7 : decode cJ0_coder_7d493 7 = .ok (.getfield 15, 3) := by decide +kernel
theorem dJ0_coder_7d493_10 : decode cJ0_coder_7d493 10 = .ok (.goto 4, 3) := by decide +kernel
theorem dJ0_coder_7d493_13 : decode cJ0_coder_7d493 13 = .ok (.iconst 1, 1) := by decide +kernel
theorem dJ0_coder_7d493_14 : decode cJ0_coder_7d493 14 = .ok (.ireturn, 1) := by decide +kernel
theorem dJ0_isLatin1_aae02_0 : decode cJ0_isLatin1_aae02 0 = .ok (.getstatic 38, 3) := by decide +kernel
theorem dJ0_isLatin1_aae02_3 : decode cJ0_isLatin1_aae02 3 = .ok (.ifCond .eq 14, 3) := by decide +kernel
theorem dJ0_isLatin1_aae02_6 : decode cJ0_isLatin1_aae02 6 = .ok (.aload_n 0, 1) := by decide +kernel
theorem dJ0_isLatin1_aae02_7 : decode cJ0_isLatin1_aae02 7 = .ok (.getfield 15, 3) := by decide +kernel
theorem dJ0_isLatin1_aae02_10 : decode cJ0_isLatin1_aae02 10 = .ok (.ifCond .ne 7, 3) := by decide +kernel
theorem dJ0_isLatin1_aae02_13 : decode cJ0_isLatin1_aae02 13 = .ok (.iconst 1, 1) := by decide +kernel
theorem dJ0_isLatin1_aae02_14 : decode cJ0_isLatin1_aae02 14 = .ok (.goto 4, 3) := by decide +kernel
theorem dJ0_isLatin1_aae02_17 : decode cJ0_isLatin1_aae02 17 = .ok (.iconst 0, 1) := by decide +kernel
theorem dJ0_isLatin1_aae02_18 : decode cJ0_isLatin1_aae02 18 = .ok (.ireturn, 1) := by decide +kernel
theorem dJ0_checkBoundsBeginEnd_23922_0 : decode cJ0_checkBoundsBeginEnd_23922 0 = .ok (.iload_n 0, 1) := by decide +kernel
theorem dJ0_checkBoundsBeginEnd_23922_1 : decode cJ0_checkBoundsBeginEnd_23922 1 = .ok (.iload_n 1, 1) := by decide +kernel
theorem dJ0_checkBoundsBeginEnd_23922_2 : decode cJ0_checkBoundsBeginEnd_23922 2 = .ok (.iload_n 2, 1) := by decide +kernel
theorem dJ0_checkBoundsBeginEnd_23922_3 : decode cJ0_checkBoundsBeginEnd_23922 3 = .ok (.getstatic 1053, 3) := by decide +kernel
theorem dJ0_checkBoundsBeginEnd_23922_6 : decode cJ0_checkBoundsBeginEnd_23922 6 = .ok (.invokestatic 1062, 3) := by decide +kernel
theorem dJ0_checkBoundsBeginEnd_23922_9 : decode cJ0_checkBoundsBeginEnd_23922 9 = .ok (.pop, 1) := by decide +kernel
theorem dJ0_checkBoundsBeginEnd_23922_10 : decode cJ0_checkBoundsBeginEnd_23922 10 = .ok (.return_, 1) := by decide +kernel
theorem dJ1_canEncode_9a6ad_0 : decode cJ1_canEncode_9a6ad 0 = .ok (.iload_n 0, 1) := by decide +kernel
theorem dJ1_canEncode_9a6ad_1 : decode cJ1_canEncode_9a6ad 1 = .ok (.ifCond .lt 14, 3) := by decide +kernel
theorem dJ1_canEncode_9a6ad_4 : decode cJ1_canEncode_9a6ad 4 = .ok (.iload_n 0, 1) := by decide +kernel
theorem dJ1_canEncode_9a6ad_5 : decode cJ1_canEncode_9a6ad 5 = .ok (.sipush 255, 3) := by decide +kernel
theorem dJ1_canEncode_9a6ad_8 : decode cJ1_canEncode_9a6ad 8 = .ok (.if_icmp .gt 7, 3) := by decide +kernel
theorem dJ1_canEncode_9a6ad_11 : decode cJ1_canEncode_9a6ad 11 = .ok (.iconst 1, 1) := by decide +kernel
theorem dJ1_canEncode_9a6ad_12 : decode cJ1_canEncode_9a6ad 12 = .ok (.goto 4, 3) := by decide +kernel
theorem dJ1_canEncode_9a6ad_15 : decode cJ1_canEncode_9a6ad 15 = .ok (.iconst 0, 1) := by decide +kernel
theorem dJ1_canEncode_9a6ad_16 : decode cJ1_canEncode_9a6ad 16 = .ok (.ireturn, 1) := by decide +kernel
theorem dJ1_indexOf_4cfef_0 : decode cJ1_indexOf_4cfef 0 = .ok (.iload_n 1, 1) := by decide +kernel
theorem dJ1_indexOf_4cfef_1 : decode cJ1_indexOf_4cfef 1 = .ok (.invokestatic 88, 3) := by decide +kernel
theorem dJ1_indexOf_4cfef_4 : decode cJ1_indexOf_4cfef 4 = .ok (.ifCond .ne 5, 3) := by decide +kernel
theorem dJ1_indexOf_4cfef_7 : decode cJ1_indexOf_4cfef 7 = .ok (.iconst (-1), 1) := by decide +kernel
theorem dJ1_indexOf_4cfef_8 : decode cJ1_indexOf_4cfef 8 = .ok (.ireturn, 1) := by decide +kernel
theorem dJ1_indexOf_4cfef_9 : decode cJ1_indexOf_4cfef 9 = .ok (.iload_n 2, 1) := by decide +kernel
theorem dJ1_indexOf_4cfef_10 : decode cJ1_indexOf_4cfef 10 = .ok (.iconst 0, 1) := by decide +kernel
theorem dJ1_indexOf_4cfef_11 : decode cJ1_indexOf_4cfef 11 = .ok (.invokestatic 92, 3) := by decide +kernel
theorem dJ1_indexOf_4cfef_14 : decode cJ1_indexOf_4cfef 14 = .ok (.istore_n 2, 1) := by decide +kernel
theorem dJ1_indexOf_4cfef_15 : decode cJ1_indexOf_4cfef 15 = .ok (.iload_n 3, 1) := by decide +kernel
theorem dJ1_indexOf_4cfef_16 : decode cJ1_indexOf_4cfef 16 = .ok (.aload_n 0, 1) := by decide +kernel
theorem dJ1_indexOf_4cfef_17 : decode cJ1_indexOf_4cfef 17 = .ok (.arraylength, 1) := by decide +kernel
theorem dJ1_indexOf_4cfef_18 : decode cJ1_indexOf_4cfef 18 = .ok (.invokestatic 38, 3) := by decide +kernel
theorem dJ1_indexOf_4cfef_21 : decode cJ1_indexOf_4cfef 21 = .ok (.istore_n 3, 1) := by decide +kernel
theorem dJ1_indexOf_4cfef_22 : decode cJ1_indexOf_4cfef 22 = .ok (.iload_n 2, 1) := by decide +kernel
theorem dJ1_indexOf_4cfef_23 : decode cJ1_indexOf_4cfef 23 = .ok (.iload_n 3, 1) := by decide +kernel
theorem dJ1_indexOf_4cfef_24 : decode cJ1_indexOf_4cfef 24 = .ok (.if_icmp .lt 5, 3) := by decide +kernel
theorem dJ1_indexOf_4cfef_27 : decode cJ1_indexOf_4cfef 27 = .ok (.iconst (-1), 1) := by decide +kernel
theorem dJ1_indexOf_4cfef_28 : decode cJ1_indexOf_4cfef 28 = .ok (.ireturn, 1) := by decide +kernel
theorem dJ1_indexOf_4cfef_29 : decode cJ1_indexOf_4cfef 29 = .ok (.aload_n 0, 1) := by decide +kernel
theorem dJ1_indexOf_4cfef_30 : decode cJ1_indexOf_4cfef 30 = .ok (.iload_n 1, 1) := by decide +kernel
theorem dJ1_indexOf_4cfef_31 : decode cJ1_indexOf_4cfef 31 = .ok (.iload_n 2, 1) := by decide +kernel
theorem dJ1_indexOf_4cfef_32 : decode cJ1_indexOf_4cfef 32 = .ok (.iload_n 3, 1) := by decide +kernel
theorem dJ1_indexOf_4cfef_33 : decode cJ1_indexOf_4cfef 33 = .ok (.invokestatic 95, 3) := by decide +kernel
theorem dJ1_indexOf_4cfef_36 : decode cJ1_indexOf_4cfef 36 = .ok (.ireturn, 1) := by decide +kernel
theorem dJ1_indexOfChar_4cfef_0 : decode cJ1_indexOfChar_4cfef 0 = .ok (.iload_n 1, 1) := by decide +kernel
theorem dJ1_indexOfChar_4cfef_1 : decode cJ1_indexOfChar_4cfef 1 = .ok (.i2b, 1) := by decide +kernel
theorem dJ1_indexOfChar_4cfef_2 : decode cJ1_indexOfChar_4cfef 2 = .ok (.istore 4, 2) := by decide +kernel
theorem dJ1_indexOfChar_4cfef_4 : decode cJ1_indexOfChar_4cfef 4 = .ok (.iload_n 2, 1) := by decide +kernel
theorem dJ1_indexOfChar_4cfef_5 : decode cJ1_indexOfChar_4cfef 5 = .ok (.istore 5, 2) := by decide +kernel
theorem dJ1_indexOfChar_4cfef_7 : decode cJ1_indexOfChar_4cfef 7 = .ok (.iload 5, 2) := by decide +kernel
theorem dJ1_indexOfChar_4cfef_9 : decode cJ1_indexOfChar_4cfef 9 = .ok (.iload_n 3, 1) := by decide +kernel
theorem dJ1_indexOfChar_4cfef_10 : decode cJ1_indexOfChar_4cfef 10 = .ok (.if_icmp .ge 21, 3) := by decide +kernel
theorem dJ1_indexOfChar_4cfef_13 : decode cJ1_indexOfChar_4cfef 13 = .ok (.aload_n 0, 1) := by decide +kernel
theorem dJ1_indexOfChar_4cfef_14 : decode cJ1_indexOfChar_4cfef 14 = .ok (.iload 5, 2) := by decide +kernel
theorem dJ1_indexOfChar_4cfef_16 : decode cJ1_indexOfChar_4cfef 16 = .ok (.baload, 1) := by decide +kernel
theorem dJ1_indexOfChar_4cfef_17 : decode cJ1_indexOfChar_4cfef 17 = .ok (.iload 4, 2) := by decide +kernel
theorem dJ1_indexOfChar_4cfef_19 : decode cJ1_indexOfChar_4cfef 19 = .ok (.if_icmp .ne 6, 3) := by decide +kernel
theorem dJ1_indexOfChar_4cfef_22 : decode cJ1_indexOfChar_4cfef 22 = .ok (.iload 5, 2) := by decide +kernel
theorem dJ1_indexOfChar_4cfef_24 : decode cJ1_indexOfChar_4cfef 24 = .ok (.ireturn, 1) := by decide +kernel
theorem dJ1_indexOfChar_4cfef_25 : decode cJ1_indexOfChar_4cfef 25 = .ok (.iinc 5 1, 3) := by decide +kernel
theorem dJ1_indexOfChar_4cfef_28 : decode cJ1_indexOfChar_4cfef 28 = .ok (.goto (-21), 3) := by decide +kernel
theorem dJ1_indexOfChar_4cfef_31 : decode cJ1_indexOfChar_4cfef 31 = .ok (.iconst (-1), 1) := by decide +kernel
theorem dJ1_indexOfChar_4cfef_32 : decode cJ1_indexOfChar_4cfef 32 = .ok (.ireturn, 1) := by decide +kernel
theorem dJ2_getChar_3b067_0 : decode cJ2_getChar_3b067 0 = .ok (.getstatic 44, 3) := by decide +kernel
theorem dJ2_getChar_3b067_3 : decode cJ2_getChar_3b067 3 = .ok (.ifCond .ne 25, 3) := by decide +kernel
theorem dJ2_getChar_3b067_6 : decode cJ2_getChar_3b067 6 = .ok (.iload_n 1, 1) := by decide +kernel
theorem dJ2_getChar_3b067_7 : decode cJ2_getChar_3b067 7 = .ok (.ifCond .lt 11, 3) := by decide +kernel
theorem dJ2_getChar_3b067_10 : decode cJ2_getChar_3b067 10 = .ok (.iload_n 1, 1) := by decide +kernel
theorem dJ2_getChar_3b067_11 : decode cJ2_getChar_3b067 11 = .ok (.aload_n 0, 1) := by decide +kernel
theorem dJ2_getChar_3b067_12 : decode cJ2_getChar_3b067 12 = .ok (.invokestatic 48, 3) := by decide +kernel
theorem dJ2_getChar_3b067_15 : decode cJ2_getChar_3b067 15 = .ok (.if_icmp .lt 13, 3) := by decide +kernel
theorem dJ2_getChar_3b067_18 : decode cJ2_getChar_3b067 18 = .ok (.new 52, 3) := by decide +kernel
theorem dJ2_getChar_3b067_21 : decode cJ2_getChar_3b067 21 = .ok (.dup, 1) := by decide +kernel
theorem dJ2_getChar_3b067_22 : decode cJ2_getChar_3b067 22 = .ok (.ldc 54, 2) := by decide +kernel
theorem dJ2_getChar_3b067_24 : decode cJ2_getChar_3b067 24 = .ok (.invokespecial 56, 3) := by decide +kernel
theorem dJ2_getChar_3b067_27 : decode cJ2_getChar_3b067 27 = .ok (.athrow, 1) := by decide +kernel
theorem dJ2_getChar_3b067_28 : decode cJ2_getChar_3b067 28 = .ok (.iload_n 1, 1) := by decide +kernel
theorem dJ2_getChar_3b067_29 : decode cJ2_getChar_3b067 29 = .ok (.iconst 1, 1) := by decide +kernel
theorem dJ2_getChar_3b067_30 : decode cJ2_getChar_3b067 30 = .ok (.ishl, 1) := by decide +kernel
theorem dJ2_getChar_3b067_31 : decode cJ2_getChar_3b067 31 = .ok (.istore_n 1, 1) := by decide +kernel
theorem dJ2_getChar_3b067_32 : decode cJ2_getChar_3b067 32 = .ok (.aload_n 0, 1) := by decide +kernel
theorem dJ2_getChar_3b067_33 : decode cJ2_getChar_3b067 33 = .ok (.iload_n 1, 1) := by decide +kernel
theorem dJ2_getChar_3b067_34 : decode cJ2_getChar_3b067 34 = .ok (.iinc 1 1, 3) := by decide +kernel
theorem dJ2_getChar_3b067_37 : decode cJ2_getChar_3b067 37 = .ok (.baload, 1) := by decide +kernel
theorem dJ2_getChar_3b067_38 : decode cJ2_getChar_3b067 38 = .ok (.sipush 255, 3) := by decide +kernel
theorem dJ2_getChar_3b067_41 : decode cJ2_getChar_3b067 41 = .ok (.iand, 1) := by decide +kernel
theorem dJ2_getChar_3b067_42 : decode cJ2_getChar_3b067 42 = .ok (.getstatic 59, 3) := by decide +kernel
theorem dJ2_getChar_3b067_45 : decode cJ2_getChar_3b067 45 = .ok (.ishl, 1) := by decide +kernel
theorem dJ2_getChar_3b067_46 : decode cJ2_getChar_3b067 46 = .ok (.aload_n 0, 1) := by decide +kernel
theorem dJ2_getChar_3b067_47 : decode cJ2_getChar_3b067 47 = .ok (.iload_n 1, 1) := by decide +kernel
theorem dJ2_getChar_3b067_48 : decode cJ2_getChar_3b067 48 = .ok (.baload, 1) := by decide +kernel
theorem dJ2_getChar_3b067_49 : decode cJ2_getChar_3b067 49 = .ok (.sipush 255, 3) := by decide +kernel
theorem dJ2_getChar_3b067_52 : decode cJ2_getChar_3b067 52 = .ok (.iand, 1) := by decide +kernel
theorem dJ2_getChar_3b067_53 : decode cJ2_getChar_3b067 53 = .ok (.getstatic 63, 3) := by decide +kernel
theorem dJ2_getChar_3b067_56 : decode cJ2_getChar_3b067 56 = .ok (.ishl, 1) := by decide +kernel
theorem dJ2_getChar_3b067_57 : decode cJ2_getChar_3b067 57 = .ok (.ior, 1) := by decide +kernel
theorem dJ2_getChar_3b067_58 : decode cJ2_getChar_3b067 58 = .ok (.i2c, 1) := by decide +kernel
theorem dJ2_getChar_3b067_59 : decode cJ2_getChar_3b067 59 = .ok (.ireturn, 1) := by decide +kernel
theorem dJ2_length_9d52b_0 : decode cJ2_length_9d52b 0 = .ok (.aload_n 0, 1) := by decide +kernel
theorem dJ2_length_9d52b_1 : decode cJ2_length_9d52b 1 = .ok (.arraylength, 1) := by decide +kernel
theorem dJ2_length_9d52b_2 : decode cJ2_length_9d52b 2 = .ok (.iconst 1, 1) := by decide +kernel
theorem dJ2_length_9d52b_3 : decode cJ2_length_9d52b 3 = .ok (.ishr, 1) := by decide +kernel
theorem dJ2_length_9d52b_4 : decode cJ2_length_9d52b 4 = .ok (.ireturn, 1) := by decide +kernel
theorem dJ2_indexOf_4cfef_0 : decode cJ2_indexOf_4cfef 0 = .ok (.iload_n 2, 1) := by decide +kernel
theorem dJ2_indexOf_4cfef_1 : decode cJ2_indexOf_4cfef 1 = .ok (.iconst 0, 1) := by decide +kernel
theorem dJ2_indexOf_4cfef_2 : decode cJ2_indexOf_4cfef 2 = .ok (.invokestatic 224, 3) := by decide +kernel
theorem dJ2_indexOf_4cfef_5 : decode cJ2_indexOf_4cfef 5 = .ok (.istore_n 2, 1) := by decide +kernel
theorem dJ2_indexOf_4cfef_6 : decode cJ2_indexOf_4cfef 6 = .ok (.iload_n 3, 1) := by decide +kernel
theorem dJ2_indexOf_4cfef_7 : decode cJ2_indexOf_4cfef 7 = .ok (.aload_n 0, 1) := by decide +kernel
theorem dJ2_indexOf_4cfef_8 : decode cJ2_indexOf_4cfef 8 = .ok (.arraylength, 1) := by decide +kernel
theorem dJ2_indexOf_4cfef_9 : decode cJ2_indexOf_4cfef 9 = .ok (.iconst 1, 1) := by decide +kernel
theorem dJ2_indexOf_4cfef_10 : decode cJ2_indexOf_4cfef 10 = .ok (.ishr, 1) := by decide +kernel
theorem dJ2_indexOf_4cfef_11 : decode cJ2_indexOf_4cfef 11 = .ok (.invokestatic 183, 3) := by decide +kernel
theorem dJ2_indexOf_4cfef_14 : decode cJ2_indexOf_4cfef 14 = .ok (.istore_n 3, 1) := by decide +kernel
theorem dJ2_indexOf_4cfef_15 : decode cJ2_indexOf_4cfef 15 = .ok (.iload_n 2, 1) := by decide +kernel
theorem dJ2_indexOf_4cfef_16 : decode cJ2_indexOf_4cfef 16 = .ok (.iload_n 3, 1) := by decide +kernel
theorem dJ2_indexOf_4cfef_17 : decode cJ2_indexOf_4cfef 17 = .ok (.if_icmp .lt 5, 3) := by decide +kernel
theorem dJ2_indexOf_4cfef_20 : decode cJ2_indexOf_4cfef 20 = .ok (.iconst (-1), 1) := by decide +kernel
theorem dJ2_indexOf_4cfef_21 : decode cJ2_indexOf_4cfef 21 = .ok (.ireturn, 1) := by decide +kernel
theorem dJ2_indexOf_4cfef_22 : decode cJ2_indexOf_4cfef 22 = .ok (.iload_n 1, 1) := by decide +kernel
theorem dJ2_indexOf_4cfef_23 : decode cJ2_indexOf_4cfef 23 = .ok (.ldc 227, 2) := by decide +kernel
theorem dJ2_indexOf_4cfef_25 : decode cJ2_indexOf_4cfef 25 = .ok (.if_icmp .ge 11, 3) := by decide +kernel
theorem dJ2_indexOf_4cfef_28 : decode cJ2_indexOf_4cfef 28 = .ok (.aload_n 0, 1) := by decide +kernel
theorem dJ2_indexOf_4cfef_29 : decode cJ2_indexOf_4cfef 29 = .ok (.iload_n 1, 1) := by decide +kernel
theorem dJ2_indexOf_4cfef_30 : decode cJ2_indexOf_4cfef 30 = .ok (.iload_n 2, 1) := by decide +kernel
theorem dJ2_indexOf_4cfef_31 : decode cJ2_indexOf_4cfef 31 = .ok (.iload_n 3, 1) := by decide +kernel
theorem dJ2_indexOf_4cfef_32 : decode cJ2_indexOf_4cfef 32 = .ok (.invokestatic 228, 3) := by decide +kernel
theorem dJ2_indexOf_4cfef_35 : decode cJ2_indexOf_4cfef 35 = .ok (.ireturn, 1) := by decide +kernel
theorem dJ2_indexOf_4cfef_36 : decode cJ2_indexOf_4cfef 36 = .ok (.aload_n 0, 1) := by decide +kernel
theorem dJ2_indexOf_4cfef_37 : decode cJ2_indexOf_4cfef 37 = .ok (.iload_n 1, 1) := by decide +kernel
theorem dJ2_indexOf_4cfef_38 : decode cJ2_indexOf_4cfef 38 = .ok (.iload_n 2, 1) := by decide +kernel
theorem dJ2_indexOf_4cfef_39 : decode cJ2_indexOf_4cfef 39 = .ok (.iload_n 3, 1) := by decide +kernel
theorem dJ2_indexOf_4cfef_40 : decode cJ2_indexOf_4cfef 40 = .ok (.invokestatic 232, 3) := by decide +kernel
theorem dJ2_indexOf_4cfef_43 : decode cJ2_indexOf_4cfef 43 = .ok (.ireturn, 1) := by decide +kernel
theorem dJ2_indexOfChar_4cfef_0 : decode cJ2_indexOfChar_4cfef 0 = .ok (.iload_n 2, 1) := by decide +kernel
theorem dJ2_indexOfChar_4cfef_1 : decode cJ2_indexOfChar_4cfef 1 = .ok (.iload_n 3, 1) := by decide +kernel
theorem dJ2_indexOfChar_4cfef_2 : decode cJ2_indexOfChar_4cfef 2 = .ok (.aload_n 0, 1) := by decide +kernel
theorem dJ2_indexOfChar_4cfef_3 : decode cJ2_indexOfChar_4cfef 3 = .ok (.invokestatic 96, 3) := by decide +kernel
theorem dJ2_indexOfChar_4cfef_6 : decode cJ2_indexOfChar_4cfef 6 = .ok (.aload_n 0, 1) := by decide +kernel
theorem dJ2_indexOfChar_4cfef_7 : decode cJ2_indexOfChar_4cfef 7 = .ok (.iload_n 1, 1) := by decide +kernel
theorem dJ2_indexOfChar_4cfef_8 : decode cJ2_indexOfChar_4cfef 8 = .ok (.iload_n 2, 1) := by decide +kernel
theorem dJ2_indexOfChar_4cfef_9 : decode cJ2_indexOfChar_4cfef 9 = .ok (.iload_n 3, 1) := by decide +kernel
theorem dJ2_indexOfChar_4cfef_10 : decode cJ2_indexOfChar_4cfef 10 = .ok (.invokestatic 244, 3) := by decide +kernel
theorem dJ2_indexOfChar_4cfef_13 : decode cJ2_indexOfChar_4cfef 13 = .ok (.ireturn, 1) := by decide +kernel
theorem dJ2_indexOfCharUnsafe_4cfef_0 : decode cJ2_indexOfCharUnsafe_4cfef 0 = .ok (.iload_n 2, 1) := by decide +kernel
theorem dJ2_indexOfCharUnsafe_4cfef_1 : decode cJ2_indexOfCharUnsafe_4cfef 1 = .ok (.istore 4, 2) := by decide +kernel
theorem dJ2_indexOfCharUnsafe_4cfef_3 : decode cJ2_indexOfCharUnsafe_4cfef 3 = .ok (.iload 4, 2) := by decide +kernel
theorem dJ2_indexOfCharUnsafe_4cfef_5 : decode cJ2_indexOfCharUnsafe_4cfef 5 = .ok (.iload_n 3, 1) := by decide +kernel
theorem dJ2_indexOfCharUnsafe_4cfef_6 : decode cJ2_indexOfCharUnsafe_4cfef 6 = .ok (.if_icmp .ge 22, 3) := by decide +kernel
theorem dJ2_indexOfCharUnsafe_4cfef_9 : decode cJ2_indexOfCharUnsafe_4cfef 9 = .ok (.aload_n 0, 1) := by decide +kernel
theorem dJ2_indexOfCharUnsafe_4cfef_10 : decode cJ2_indexOfCharUnsafe_4cfef 10 = .ok (.iload 4, 2) := by decide +kernel
theorem dJ2_indexOfCharUnsafe_4cfef_12 : decode cJ2_indexOfCharUnsafe_4cfef 12 = .ok (.invokestatic 71, 3) := by decide +kernel
theorem dJ2_indexOfCharUnsafe_4cfef_15 : decode cJ2_indexOfCharUnsafe_4cfef 15 = .ok (.iload_n 1, 1) := by decide +kernel
theorem dJ2_indexOfCharUnsafe_4cfef_16 : decode cJ2_indexOfCharUnsafe_4cfef 16 = .ok (.if_icmp .ne 6, 3) := by decide +kernel
theorem dJ2_indexOfCharUnsafe_4cfef_19 : decode cJ2_indexOfCharUnsafe_4cfef 19 = .ok (.iload 4, 2) := by decide +kernel
theorem dJ2_indexOfCharUnsafe_4cfef_21 : decode cJ2_indexOfCharUnsafe_4cfef 21 = .ok (.ireturn, 1) := by decide +kernel
theorem dJ2_indexOfCharUnsafe_4cfef_22 : decode cJ2_indexOfCharUnsafe_4cfef 22 = .ok (.iinc 4 1, 3) := by decide +kernel
theorem dJ2_indexOfCharUnsafe_4cfef_25 : decode cJ2_indexOfCharUnsafe_4cfef 25 = .ok (.goto (-22), 3) := by decide +kernel
theorem dJ2_indexOfCharUnsafe_4cfef_28 : decode cJ2_indexOfCharUnsafe_4cfef 28 = .ok (.iconst (-1), 1) := by decide +kernel
theorem dJ2_indexOfCharUnsafe_4cfef_29 : decode cJ2_indexOfCharUnsafe_4cfef 29 = .ok (.ireturn, 1) := by decide +kernel
theorem dJ2_indexOfSupplementary_4cfef_0 : decode cJ2_indexOfSupplementary_4cfef 0 = .ok (.iload_n 1, 1) := by decide +kernel
theorem dJ2_indexOfSupplementary_4cfef_1 : decode cJ2_indexOfSupplementary_4cfef 1 = .ok (.invokestatic 164, 3) := by decide +kernel
theorem dJ2_indexOfSupplementary_4cfef_4 : decode cJ2_indexOfSupplementary_4cfef 4 = .ok (.ifCond .eq 65, 3) := by decide +kernel
theorem dJ2_indexOfSupplementary_4cfef_7 : decode cJ2_indexOfSupplementary_4cfef 7 = .ok (.iload_n 1, 1) := by decide +kernel
theorem dJ2_indexOfSupplementary_4cfef_8 : decode cJ2_indexOfSupplementary_4cfef 8 = .ok (.invokestatic 157, 3) := by decide +kernel
theorem dJ2_indexOfSupplementary_4cfef_11 : decode cJ2_indexOfSupplementary_4cfef 11 = .ok (.istore 4, 2) := by decide +kernel
theorem dJ2_indexOfSupplementary_4cfef_13 : decode cJ2_indexOfSupplementary_4cfef 13 = .ok (.iload_n 1, 1) := by decide +kernel
theorem dJ2_indexOfSupplementary_4cfef_14 : decode cJ2_indexOfSupplementary_4cfef 14 = .ok (.invokestatic 161, 3) := by decide +kernel
theorem dJ2_indexOfSupplementary_4cfef_17 : decode cJ2_indexOfSupplementary_4cfef 17 = .ok (.istore 5, 2) := by decide +kernel
theorem dJ2_indexOfSupplementary_4cfef_19 : decode cJ2_indexOfSupplementary_4cfef 19 = .ok (.iload_n 2, 1) := by decide +kernel
theorem dJ2_indexOfSupplementary_4cfef_20 : decode cJ2_indexOfSupplementary_4cfef 20 = .ok (.iload_n 3, 1) := by decide +kernel
theorem dJ2_indexOfSupplementary_4cfef_21 : decode cJ2_indexOfSupplementary_4cfef 21 = .ok (.aload_n 0, 1) := by decide +kernel
theorem dJ2_indexOfSupplementary_4cfef_22 : decode cJ2_indexOfSupplementary_4cfef 22 = .ok (.invokestatic 96, 3) := by decide +kernel
theorem dJ2_indexOfSupplementary_4cfef_25 : decode cJ2_indexOfSupplementary_4cfef 25 = .ok (.iload_n 2, 1) := by decide +kernel
theorem dJ2_indexOfSupplementary_4cfef_26 : decode cJ2_indexOfSupplementary_4cfef 26 = .ok (.istore 6, 2) := by decide +kernel
theorem dJ2_indexOfSupplementary_4cfef_28 : decode cJ2_indexOfSupplementary_4cfef 28 = .ok (.iload 6, 2) := by decide +kernel
theorem dJ2_indexOfSupplementary_4cfef_30 : decode cJ2_indexOfSupplementary_4cfef 30 = .ok (.iload_n 3, 1) := by decide +kernel
theorem dJ2_indexOfSupplementary_4cfef_31 : decode cJ2_indexOfSupplementary_4cfef 31 = .ok (.iconst 1, 1) := by decide +kernel
theorem dJ2_indexOfSupplementary_4cfef_32 : decode cJ2_indexOfSupplementary_4cfef 32 = .ok (.isub, 1) := by decide +kernel
theorem dJ2_indexOfSupplementary_4cfef_33 : decode cJ2_indexOfSupplementary_4cfef 33 = .ok (.if_icmp .ge 36, 3) := by decide +kernel
theorem dJ2_indexOfSupplementary_4cfef_36 : decode cJ2_indexOfSupplementary_4cfef 36 = .ok (.aload_n 0, 1) := by decide +kernel
theorem dJ2_indexOfSupplementary_4cfef_37 : decode cJ2_indexOfSupplementary_4cfef 37 = .ok (.iload 6, 2) := by decide +kernel
theorem dJ2_indexOfSupplementary_4cfef_39 : decode cJ2_indexOfSupplementary_4cfef 39 = .ok (.invokestatic 71, 3) := by decide +kernel
theorem dJ2_indexOfSupplementary_4cfef_42 : decode cJ2_indexOfSupplementary_4cfef 42 = .ok (.iload 4, 2) := by decide +kernel
theorem dJ2_indexOfSupplementary_4cfef_44 : decode cJ2_indexOfSupplementary_4cfef 44 = .ok (.if_icmp .ne 19, 3) := by decide +kernel
theorem dJ2_indexOfSupplementary_4cfef_47 : decode cJ2_indexOfSupplementary_4cfef 47 = .ok (.aload_n 0, 1) := by decide +kernel
theorem dJ2_indexOfSupplementary_4cfef_48 : decode cJ2_indexOfSupplementary_4cfef 48 = .ok (.iload 6, 2) := by decide +kernel
theorem dJ2_indexOfSupplementary_4cfef_50 : decode cJ2_indexOfSupplementary_4cfef 50 = .ok (.iconst 1, 1) := by decide +kernel
theorem dJ2_indexOfSupplementary_4cfef_51 : decode cJ2_indexOfSupplementary_4cfef 51 = .ok (.iadd, 1) := by decide +kernel
theorem dJ2_indexOfSupplementary_4cfef_52 : decode cJ2_indexOfSupplementary_4cfef 52 = .ok (.invokestatic 71, 3) := by decide +kernel
theorem dJ2_indexOfSupplementary_4cfef_55 : decode cJ2_indexOfSupplementary_4cfef 55 = .ok (.iload 5, 2) := by decide +kernel
theorem dJ2_indexOfSupplementary_4cfef_57 : decode cJ2_indexOfSupplementary_4cfef 57 = .ok (.if_icmp .ne 6, 3) := by decide +kernel
theorem dJ2_indexOfSupplementary_4cfef_60 : decode cJ2_indexOfSupplementary_4cfef 60 = .ok (.iload 6, 2) := by decide +kernel
theorem dJ2_indexOfSupplementary_4cfef_62 : decode cJ2_indexOfSupplementary_4cfef 62 = .ok (.ireturn, 1) := by decide +kernel
theorem dJ2_indexOfSupplementary_4cfef_63 : decode cJ2_indexOfSupplementary_4cfef 63 = .ok (.iinc 6 1, 3) := by decide +kernel
theorem dJ2_indexOfSupplementary_4cfef_66 : decode cJ2_indexOfSupplementary_4cfef 66 = .ok (.goto (-38), 3) := by decide +kernel
theorem dJ2_indexOfSupplementary_4cfef_69 : decode cJ2_indexOfSupplementary_4cfef 69 = .ok (.iconst (-1), 1) := by decide +kernel
theorem dJ2_indexOfSupplementary_4cfef_70 : decode cJ2_indexOfSupplementary_4cfef 70 = .ok (.ireturn, 1) := by decide +kernel
theorem dJ2_checkBoundsBeginEnd_d044e_0 : decode cJ2_checkBoundsBeginEnd_d044e 0 = .ok (.iload_n 0, 1) := by decide +kernel
theorem dJ2_checkBoundsBeginEnd_d044e_1 : decode cJ2_checkBoundsBeginEnd_d044e 1 = .ok (.iload_n 1, 1) := by decide +kernel
theorem dJ2_checkBoundsBeginEnd_d044e_2 : decode cJ2_checkBoundsBeginEnd_d044e 2 = .ok (.aload_n 2, 1) := by decide +kernel
theorem dJ2_checkBoundsBeginEnd_d044e_3 : decode cJ2_checkBoundsBeginEnd_d044e 3 = .ok (.invokestatic 48, 3) := by decide +kernel
theorem dJ2_checkBoundsBeginEnd_d044e_6 : decode cJ2_checkBoundsBeginEnd_d044e 6 = .ok (.invokestatic 241, 3) := by decide +kernel
theorem dJ2_checkBoundsBeginEnd_d044e_9 : decode cJ2_checkBoundsBeginEnd_d044e 9 = .ok (.return_, 1) := by decide +kernel
theorem dJ7_fill_53178_0 : decode cJ7_fill_53178 0 = .ok (.iconst 0, 1) := by decide +kernel
theorem dJ7_fill_53178_1 : decode cJ7_fill_53178 1 = .ok (.istore_n 2, 1) := by decide +kernel
theorem dJ7_fill_53178_2 : decode cJ7_fill_53178 2 = .ok (.aload_n 0, 1) := by decide +kernel
theorem dJ7_fill_53178_3 : decode cJ7_fill_53178 3 = .ok (.arraylength, 1) := by decide +kernel
theorem dJ7_fill_53178_4 : decode cJ7_fill_53178 4 = .ok (.istore_n 3, 1) := by decide +kernel
theorem dJ7_fill_53178_5 : decode cJ7_fill_53178 5 = .ok (.iload_n 2, 1) := by decide +kernel
theorem dJ7_fill_53178_6 : decode cJ7_fill_53178 6 = .ok (.iload_n 3, 1) := by decide +kernel
theorem dJ7_fill_53178_7 : decode cJ7_fill_53178 7 = .ok (.if_icmp .ge 13, 3) := by decide +kernel
theorem dJ7_fill_53178_10 : decode cJ7_fill_53178 10 = .ok (.aload_n 0, 1) := by decide +kernel
theorem dJ7_fill_53178_11 : decode cJ7_fill_53178 11 = .ok (.iload_n 2, 1) := by decide +kernel
theorem dJ7_fill_53178_12 : decode cJ7_fill_53178 12 = .ok (.iload_n 1, 1) := by decide +kernel
theorem dJ7_fill_53178_13 : decode cJ7_fill_53178 13 = .ok (.iastore, 1) := by decide +kernel
theorem dJ7_fill_53178_14 : decode cJ7_fill_53178 14 = .ok (.iinc 2 1, 3) := by decide +kernel
theorem dJ7_fill_53178_17 : decode cJ7_fill_53178 17 = .ok (.goto (-12), 3) := by decide +kernel
theorem dJ7_fill_53178_20 : decode cJ7_fill_53178 20 = .ok (.return_, 1) := by decide +kernel
theorem dJ3_checkFromToIndex_8c36e_0 : decode cJ3_checkFromToIndex_8c36e 0 = .ok (.iload_n 0, 1) := by decide +kernel
theorem dJ3_checkFromToIndex_8c36e_1 : decode cJ3_checkFromToIndex_8c36e 1 = .ok (.ifCond .lt 13, 3) := by decide +kernel
theorem dJ3_checkFromToIndex_8c36e_4 : decode cJ3_checkFromToIndex_8c36e 4 = .ok (.iload_n 0, 1) := by decide +kernel
theorem dJ3_checkFromToIndex_8c36e_5 : decode cJ3_checkFromToIndex_8c36e 5 = .ok (.iload_n 1, 1) := by decide +kernel
theorem dJ3_checkFromToIndex_8c36e_6 : decode cJ3_checkFromToIndex_8c36e 6 = .ok (.if_icmp .gt 8, 3) := by decide +kernel
theorem dJ3_checkFromToIndex_8c36e_9 : decode cJ3_checkFromToIndex_8c36e 9 = .ok (.iload_n 1, 1) := by decide +kernel
theorem dJ3_checkFromToIndex_8c36e_10 : decode cJ3_checkFromToIndex_8c36e 10 = .ok (.iload_n 2, 1) := by decide +kernel
theorem dJ3_checkFromToIndex_8c36e_11 : decode cJ3_checkFromToIndex_8c36e 11 = .ok (.if_icmp .le 11, 3) := by decide +kernel
theorem dJ3_checkFromToIndex_8c36e_14 : decode cJ3_checkFromToIndex_8c36e 14 = .ok (.aload_n 3, 1) := by decide +kernel
theorem dJ3_checkFromToIndex_8c36e_15 : decode cJ3_checkFromToIndex_8c36e 15 = .ok (.iload_n 0, 1) := by decide +kernel
theorem dJ3_checkFromToIndex_8c36e_16 : decode cJ3_checkFromToIndex_8c36e 16 = .ok (.iload_n 1, 1) := by decide +kernel
theorem dJ3_checkFromToIndex_8c36e_17 : decode cJ3_checkFromToIndex_8c36e 17 = .ok (.iload_n 2, 1) := by decide +kernel
theorem dJ3_checkFromToIndex_8c36e_18 : decode cJ3_checkFromToIndex_8c36e 18 = .ok (.invokestatic 99, 3) := by decide +kernel
theorem dJ3_checkFromToIndex_8c36e_21 : decode cJ3_checkFromToIndex_8c36e 21 = .ok (.athrow, 1) := by decide +kernel
theorem dJ3_checkFromToIndex_8c36e_22 : decode cJ3_checkFromToIndex_8c36e 22 = .ok (.iload_n 0, 1) := by decide +kernel
theorem dJ3_checkFromToIndex_8c36e_23 : decode cJ3_checkFromToIndex_8c36e 23 = .ok (.ireturn, 1) := by decide +kernel
