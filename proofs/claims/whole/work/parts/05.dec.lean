theorem dX8_move_69 : decode cX8_move 69 = .ok (.bipush 7, 2) := by decide +kernel
theorem dX8_move_71 : decode cX8_move 71 = .ok (.iaload, 1) := by decide +kernel
theorem dX8_move_72 : decode cX8_move 72 = .ok (.goto 10, 3) := by decide +kernel
theorem dX8_move_75 : decode cX8_move 75 = .ok (.aload_n 0, 1) := by decide +kernel
theorem dX8_move_76 : decode cX8_move 76 = .ok (.getfield 28, 3) := by decide +kernel
theorem dX8_move_79 : decode cX8_move 79 = .ok (.bipush 8, 2) := by decide +kernel
theorem dX8_move_81 : decode cX8_move 81 = .ok (.iaload, 1) := by decide +kernel
theorem dX8_move_82 : decode cX8_move 82 = .ok (.invokevirtual 237, 3) := by decide +kernel
theorem dX8_move_85 : decode cX8_move 85 = .ok (.iload 5, 2) := by decide +kernel
theorem dX8_move_87 : decode cX8_move 87 = .ok (.ireturn, 1) := by decide +kernel
theorem dX8_foretell_0 : decode cX8_foretell 0 = .ok (.iload_n 1, 1) := by decide +kernel
theorem dX8_foretell_1 : decode cX8_foretell 1 = .ok (.invokestatic 172, 3) := by decide +kernel
theorem dX8_foretell_4 : decode cX8_foretell 4 = .ok (.ifCond .eq 25, 3) := by decide +kernel
theorem dX8_foretell_7 : decode cX8_foretell 7 = .ok (.iload_n 2, 1) := by decide +kernel
theorem dX8_foretell_8 : decode cX8_foretell 8 = .ok (.i2l, 1) := by decide +kernel
theorem dX8_foretell_9 : decode cX8_foretell 9 = .ok (.lconst 0, 1) := by decide +kernel
theorem dX8_foretell_10 : decode cX8_foretell 10 = .ok (.ldc2_w 168, 3) := by decide +kernel
theorem dX8_foretell_13 : decode cX8_foretell 13 = .ok (.invokestatic 99, 3) := by decide +kernel
theorem dX8_foretell_16 : decode cX8_foretell 16 = .ok (.ifCond .eq 13, 3) := by decide +kernel
theorem dX8_foretell_19 : decode cX8_foretell 19 = .ok (.iload_n 3, 1) := by decide +kernel
theorem dX8_foretell_20 : decode cX8_foretell 20 = .ok (.i2l, 1) := by decide +kernel
theorem dX8_foretell_21 : decode cX8_foretell 21 = .ok (.lconst 0, 1) := by decide +kernel
theorem dX8_foretell_22 : decode cX8_foretell 22 = .ok (.lconst 1, 1) := by decide +kernel
theorem dX8_foretell_23 : decode cX8_foretell 23 = .ok (.invokestatic 99, 3) := by decide +kernel
theorem dX8_foretell_26 : decode cX8_foretell 26 = .ok (.ifCond .ne 5, 3) := by decide +kernel
theorem dX8_foretell_29 : decode cX8_foretell 29 = .ok (.iconst (-1), 1) := by decide +kernel
theorem dX8_foretell_30 : decode cX8_foretell 30 = .ok (.ireturn, 1) := by decide +kernel
theorem dX8_foretell_31 : decode cX8_foretell 31 = .ok (.aload_n 0, 1) := by decide +kernel
theorem dX8_foretell_32 : decode cX8_foretell 32 = .ok (.iload_n 1, 1) := by decide +kernel
theorem dX8_foretell_33 : decode cX8_foretell 33 = .ok (.aload_n 0, 1) := by decide +kernel
theorem dX8_foretell_34 : decode cX8_foretell 34 = .ok (.getfield 37, 3) := by decide +kernel
theorem dX8_foretell_37 : decode cX8_foretell 37 = .ok (.iload_n 2, 1) := by decide +kernel
theorem dX8_foretell_38 : decode cX8_foretell 38 = .ok (.invokestatic 184, 3) := by decide +kernel
theorem dX8_foretell_41 : decode cX8_foretell 41 = .ok (.invokevirtual 271, 3) := by decide +kernel
theorem dX8_foretell_44 : decode cX8_foretell 44 = .ok (.iload_n 3, 1) := by decide +kernel
theorem dX8_foretell_45 : decode cX8_foretell 45 = .ok (.ifCond .ne 10, 3) := by decide +kernel
theorem dX8_foretell_48 : decode cX8_foretell 48 = .ok (.aload_n 0, 1) := by decide +kernel
theorem dX8_foretell_49 : decode cX8_foretell 49 = .ok (.getfield 265, 3) := by decide +kernel
theorem dX8_foretell_52 : decode cX8_foretell 52 = .ok (.goto 7, 3) := by decide +kernel
theorem dX8_foretell_55 : decode cX8_foretell 55 = .ok (.aload_n 0, 1) := by decide +kernel
theorem dX8_foretell_56 : decode cX8_foretell 56 = .ok (.getfield 268, 3) := by decide +kernel
theorem dX8_foretell_59 : decode cX8_foretell 59 = .ok (.ireturn, 1) := by decide +kernel
theorem dX8_head_0 : decode cX8_head 0 = .ok (.iload_n 1, 1) := by decide +kernel
theorem dX8_head_1 : decode cX8_head 1 = .ok (.ifCond .ne 10, 3) := by decide +kernel
theorem dX8_head_4 : decode cX8_head 4 = .ok (.aload_n 0, 1) := by decide +kernel
theorem dX8_head_5 : decode cX8_head 5 = .ok (.getfield 234, 3) := by decide +kernel
theorem dX8_head_8 : decode cX8_head 8 = .ok (.goto 31, 3) := by decide +kernel
theorem dX8_head_11 : decode cX8_head 11 = .ok (.iload_n 1, 1) := by decide +kernel
theorem dX8_head_12 : decode cX8_head 12 = .ok (.iconst 1, 1) := by decide +kernel
theorem dX8_head_13 : decode cX8_head 13 = .ok (.if_icmp .ne 25, 3) := by decide +kernel
theorem dX8_head_16 : decode cX8_head 16 = .ok (.aload_n 0, 1) := by decide +kernel
theorem dX8_head_17 : decode cX8_head 17 = .ok (.getfield 234, 3) := by decide +kernel
theorem dX8_head_20 : decode cX8_head 20 = .ok (.aload_n 0, 1) := by decide +kernel
theorem dX8_head_21 : decode cX8_head 21 = .ok (.getfield 28, 3) := by decide +kernel
theorem dX8_head_24 : decode cX8_head 24 = .ok (.bipush 10, 2) := by decide +kernel
theorem dX8_head_26 : decode cX8_head 26 = .ok (.iaload, 1) := by decide +kernel
theorem dX8_head_27 : decode cX8_head 27 = .ok (.if_icmp .lt 7, 3) := by decide +kernel
theorem dX8_head_30 : decode cX8_head 30 = .ok (.iconst 1, 1) := by decide +kernel
theorem dX8_head_31 : decode cX8_head 31 = .ok (.goto 8, 3) := by decide +kernel
theorem dX8_head_34 : decode cX8_head 34 = .ok (.iconst 0, 1) := by decide +kernel
theorem dX8_head_35 : decode cX8_head 35 = .ok (.goto 4, 3) := by decide +kernel
theorem dX8_head_38 : decode cX8_head 38 = .ok (.iconst (-1), 1) := by decide +kernel
theorem dX8_head_39 : decode cX8_head 39 = .ok (.ireturn, 1) := by decide +kernel
theorem dX8_forget_0 : decode cX8_forget 0 = .ok (.aload_n 0, 1) := by decide +kernel
theorem dX8_forget_1 : decode cX8_forget 1 = .ok (.getfield 234, 3) := by decide +kernel
theorem dX8_forget_4 : decode cX8_forget 4 = .ok (.istore_n 1, 1) := by decide +kernel
theorem dX8_forget_5 : decode cX8_forget 5 = .ok (.aload_n 0, 1) := by decide +kernel
theorem dX8_forget_6 : decode cX8_forget 6 = .ok (.iconst 0, 1) := by decide +kernel
theorem dX8_forget_7 : decode cX8_forget 7 = .ok (.putfield 234, 3) := by decide +kernel
theorem dX8_forget_10 : decode cX8_forget 10 = .ok (.iload_n 1, 1) := by decide +kernel
theorem dX8_forget_11 : decode cX8_forget 11 = .ok (.ireturn, 1) := by decide +kernel
theorem dX8_goesOn_0 : decode cX8_goesOn 0 = .ok (.iload_n 2, 1) := by decide +kernel
theorem dX8_goesOn_1 : decode cX8_goesOn 1 = .ok (.bipush 12, 2) := by decide +kernel
theorem dX8_goesOn_3 : decode cX8_goesOn 3 = .ok (.if_icmp .gt 46, 3) := by decide +kernel
theorem dX8_goesOn_6 : decode cX8_goesOn 6 = .ok (.iload_n 1, 1) := by decide +kernel
theorem dX8_goesOn_7 : decode cX8_goesOn 7 = .ok (.bipush 60, 2) := by decide +kernel
theorem dX8_goesOn_9 : decode cX8_goesOn 9 = .ok (.if_icmp .gt 40, 3) := by decide +kernel
theorem dX8_goesOn_12 : decode cX8_goesOn 12 = .ok (.bipush 13, 2) := by decide +kernel
theorem dX8_goesOn_14 : decode cX8_goesOn 14 = .ok (.iload_n 1, 1) := by decide +kernel
theorem dX8_goesOn_15 : decode cX8_goesOn 15 = .ok (.imul, 1) := by decide +kernel
theorem dX8_goesOn_16 : decode cX8_goesOn 16 = .ok (.iload_n 2, 1) := by decide +kernel
theorem dX8_goesOn_17 : decode cX8_goesOn 17 = .ok (.iadd, 1) := by decide +kernel
theorem dX8_goesOn_18 : decode cX8_goesOn 18 = .ok (.istore 4, 2) := by decide +kernel
theorem dX8_goesOn_20 : decode cX8_goesOn 20 = .ok (.aload_n 0, 1) := by decide +kernel
theorem dX8_goesOn_21 : decode cX8_goesOn 21 = .ok (.getfield 71, 3) := by decide +kernel
theorem dX8_goesOn_24 : decode cX8_goesOn 24 = .ok (.iload 4, 2) := by decide +kernel
theorem dX8_goesOn_26 : decode cX8_goesOn 26 = .ok (.iload_n 3, 1) := by decide +kernel
theorem dX8_goesOn_27 : decode cX8_goesOn 27 = .ok (.aload_n 0, 1) := by decide +kernel
theorem dX8_goesOn_28 : decode cX8_goesOn 28 = .ok (.getfield 71, 3) := by decide +kernel
theorem dX8_goesOn_31 : decode cX8_goesOn 31 = .ok (.iload 4, 2) := by decide +kernel
theorem dX8_goesOn_33 : decode cX8_goesOn 33 = .ok (.iaload, 1) := by decide +kernel
theorem dX8_goesOn_34 : decode cX8_goesOn 34 = .ok (.if_icmp .le 7, 3) := by decide +kernel
theorem dX8_goesOn_37 : decode cX8_goesOn 37 = .ok (.iload_n 3, 1) := by decide +kernel
theorem dX8_goesOn_38 : decode cX8_goesOn 38 = .ok (.goto 10, 3) := by decide +kernel
theorem dX8_goesOn_41 : decode cX8_goesOn 41 = .ok (.aload_n 0, 1) := by decide +kernel
theorem dX8_goesOn_42 : decode cX8_goesOn 42 = .ok (.getfield 71, 3) := by decide +kernel
theorem dX8_goesOn_45 : decode cX8_goesOn 45 = .ok (.iload 4, 2) := by decide +kernel
theorem dX8_goesOn_47 : decode cX8_goesOn 47 = .ok (.iaload, 1) := by decide +kernel
theorem dX8_goesOn_48 : decode cX8_goesOn 48 = .ok (.iastore, 1) := by decide +kernel
theorem dX8_goesOn_49 : decode cX8_goesOn 49 = .ok (.return_, 1) := by decide +kernel
theorem dX8_oneHour_0 : decode cX8_oneHour 0 = .ok (.iconst 0, 1) := by decide +kernel
theorem dX8_oneHour_1 : decode cX8_oneHour 1 = .ok (.istore_n 1, 1) := by decide +kernel
theorem dX8_oneHour_2 : decode cX8_oneHour 2 = .ok (.iload_n 1, 1) := by decide +kernel
theorem dX8_oneHour_3 : decode cX8_oneHour 3 = .ok (.sipush 793, 3) := by decide +kernel
theorem dX8_oneHour_6 : decode cX8_oneHour 6 = .ok (.if_icmp .ge 17, 3) := by decide +kernel
theorem dX8_oneHour_9 : decode cX8_oneHour 9 = .ok (.aload_n 0, 1) := by decide +kernel
theorem dX8_oneHour_10 : decode cX8_oneHour 10 = .ok (.getfield 71, 3) := by decide +kernel
theorem dX8_oneHour_13 : decode cX8_oneHour 13 = .ok (.iload_n 1, 1) := by decide +kernel
theorem dX8_oneHour_14 : decode cX8_oneHour 14 = .ok (.bipush (-4), 2) := by decide +kernel
theorem dX8_oneHour_16 : decode cX8_oneHour 16 = .ok (.iastore, 1) := by decide +kernel
theorem dX8_oneHour_17 : decode cX8_oneHour 17 = .ok (.iinc 1 1, 3) := by decide +kernel
theorem dX8_oneHour_20 : decode cX8_oneHour 20 = .ok (.goto (-18), 3) := by decide +kernel
theorem dX8_oneHour_23 : decode cX8_oneHour 23 = .ok (.iconst 0, 1) := by decide +kernel
theorem dX8_oneHour_24 : decode cX8_oneHour 24 = .ok (.istore_n 1, 1) := by decide +kernel
theorem dX8_oneHour_25 : decode cX8_oneHour 25 = .ok (.iload_n 1, 1) := by decide +kernel
theorem dX8_oneHour_26 : decode cX8_oneHour 26 = .ok (.sipush 793, 3) := by decide +kernel
theorem dX8_oneHour_29 : decode cX8_oneHour 29 = .ok (.if_icmp .ge 105, 3) := by decide +kernel
theorem dX8_oneHour_32 : decode cX8_oneHour 32 = .ok (.aload_n 0, 1) := by decide +kernel
theorem dX8_oneHour_33 : decode cX8_oneHour 33 = .ok (.getfield 68, 3) := by decide +kernel
theorem dX8_oneHour_36 : decode cX8_oneHour 36 = .ok (.iload_n 1, 1) := by decide +kernel
theorem dX8_oneHour_37 : decode cX8_oneHour 37 = .ok (.iaload, 1) := by decide +kernel
theorem dX8_oneHour_38 : decode cX8_oneHour 38 = .ok (.bipush (-4), 2) := by decide +kernel
theorem dX8_oneHour_40 : decode cX8_oneHour 40 = .ok (.if_icmp .eq 88, 3) := by decide +kernel
theorem dX8_oneHour_43 : decode cX8_oneHour 43 = .ok (.iload_n 1, 1) := by decide +kernel
theorem dX8_oneHour_44 : decode cX8_oneHour 44 = .ok (.bipush 13, 2) := by decide +kernel
theorem dX8_oneHour_46 : decode cX8_oneHour 46 = .ok (.irem, 1) := by decide +kernel
theorem dX8_oneHour_47 : decode cX8_oneHour 47 = .ok (.istore_n 2, 1) := by decide +kernel
theorem dX8_oneHour_48 : decode cX8_oneHour 48 = .ok (.aload_n 0, 1) := by decide +kernel
theorem dX8_oneHour_49 : decode cX8_oneHour 49 = .ok (.iload_n 1, 1) := by decide +kernel
theorem dX8_oneHour_50 : decode cX8_oneHour 50 = .ok (.bipush 13, 2) := by decide +kernel
theorem dX8_oneHour_52 : decode cX8_oneHour 52 = .ok (.idiv, 1) := by decide +kernel
theorem dX8_oneHour_53 : decode cX8_oneHour 53 = .ok (.iload_n 2, 1) := by decide +kernel
theorem dX8_oneHour_54 : decode cX8_oneHour 54 = .ok (.iconst 4, 1) := by decide +kernel
theorem dX8_oneHour_55 : decode cX8_oneHour 55 = .ok (.if_icmp .ge 7, 3) := by decide +kernel
theorem dX8_oneHour_58 : decode cX8_oneHour 58 = .ok (.iconst 0, 1) := by decide +kernel
theorem dX8_oneHour_59 : decode cX8_oneHour 59 = .ok (.goto 6, 3) := by decide +kernel
theorem dX8_oneHour_62 : decode cX8_oneHour 62 = .ok (.iload_n 2, 1) := by decide +kernel
theorem dX8_oneHour_63 : decode cX8_oneHour 63 = .ok (.iconst 4, 1) := by decide +kernel
theorem dX8_oneHour_64 : decode cX8_oneHour 64 = .ok (.isub, 1) := by decide +kernel
theorem dX8_oneHour_65 : decode cX8_oneHour 65 = .ok (.aload_n 0, 1) := by decide +kernel
theorem dX8_oneHour_66 : decode cX8_oneHour 66 = .ok (.getfield 68, 3) := by decide +kernel
theorem dX8_oneHour_69 : decode cX8_oneHour 69 = .ok (.iload_n 1, 1) := by decide +kernel
theorem dX8_oneHour_70 : decode cX8_oneHour 70 = .ok (.iaload, 1) := by decide +kernel
theorem dX8_oneHour_71 : decode cX8_oneHour 71 = .ok (.invokevirtual 274, 3) := by decide +kernel
theorem dX8_oneHour_74 : decode cX8_oneHour 74 = .ok (.aload_n 0, 1) := by decide +kernel
theorem dX8_oneHour_75 : decode cX8_oneHour 75 = .ok (.iload_n 1, 1) := by decide +kernel
theorem dX8_oneHour_76 : decode cX8_oneHour 76 = .ok (.bipush 13, 2) := by decide +kernel
theorem dX8_oneHour_78 : decode cX8_oneHour 78 = .ok (.idiv, 1) := by decide +kernel
theorem dX8_oneHour_79 : decode cX8_oneHour 79 = .ok (.iconst 1, 1) := by decide +kernel
theorem dX8_oneHour_80 : decode cX8_oneHour 80 = .ok (.iadd, 1) := by decide +kernel
theorem dX8_oneHour_81 : decode cX8_oneHour 81 = .ok (.iload_n 2, 1) := by decide +kernel
theorem dX8_oneHour_82 : decode cX8_oneHour 82 = .ok (.iconst 3, 1) := by decide +kernel
theorem dX8_oneHour_83 : decode cX8_oneHour 83 = .ok (.iadd, 1) := by decide +kernel
theorem dX8_oneHour_84 : decode cX8_oneHour 84 = .ok (.aload_n 0, 1) := by decide +kernel
theorem dX8_oneHour_85 : decode cX8_oneHour 85 = .ok (.getfield 68, 3) := by decide +kernel
theorem dX8_oneHour_88 : decode cX8_oneHour 88 = .ok (.iload_n 1, 1) := by decide +kernel
theorem dX8_oneHour_89 : decode cX8_oneHour 89 = .ok (.iaload, 1) := by decide +kernel
theorem dX8_oneHour_90 : decode cX8_oneHour 90 = .ok (.aload_n 0, 1) := by decide +kernel
theorem dX8_oneHour_91 : decode cX8_oneHour 91 = .ok (.getfield 28, 3) := by decide +kernel
theorem dX8_oneHour_94 : decode cX8_oneHour 94 = .ok (.bipush 7, 2) := by decide +kernel
theorem dX8_oneHour_96 : decode cX8_oneHour 96 = .ok (.iaload, 1) := by decide +kernel
theorem dX8_oneHour_97 : decode cX8_oneHour 97 = .ok (.iadd, 1) := by decide +kernel
theorem dX8_oneHour_98 : decode cX8_oneHour 98 = .ok (.invokevirtual 274, 3) := by decide +kernel
theorem dX8_oneHour_101 : decode cX8_oneHour 101 = .ok (.aload_n 0, 1) := by decide +kernel
theorem dX8_oneHour_102 : decode cX8_oneHour 102 = .ok (.iload_n 1, 1) := by decide +kernel
theorem dX8_oneHour_103 : decode cX8_oneHour 103 = .ok (.bipush 13, 2) := by decide +kernel
theorem dX8_oneHour_105 : decode cX8_oneHour 105 = .ok (.idiv, 1) := by decide +kernel
theorem dX8_oneHour_106 : decode cX8_oneHour 106 = .ok (.iconst 1, 1) := by decide +kernel
theorem dX8_oneHour_107 : decode cX8_oneHour 107 = .ok (.iadd, 1) := by decide +kernel
theorem dX8_oneHour_108 : decode cX8_oneHour 108 = .ok (.iload_n 2, 1) := by decide +kernel
theorem dX8_oneHour_109 : decode cX8_oneHour 109 = .ok (.iconst 1, 1) := by decide +kernel
theorem dX8_oneHour_110 : decode cX8_oneHour 110 = .ok (.iadd, 1) := by decide +kernel
theorem dX8_oneHour_111 : decode cX8_oneHour 111 = .ok (.aload_n 0, 1) := by decide +kernel
theorem dX8_oneHour_112 : decode cX8_oneHour 112 = .ok (.getfield 68, 3) := by decide +kernel
theorem dX8_oneHour_115 : decode cX8_oneHour 115 = .ok (.iload_n 1, 1) := by decide +kernel
theorem dX8_oneHour_116 : decode cX8_oneHour 116 = .ok (.iaload, 1) := by decide +kernel
theorem dX8_oneHour_117 : decode cX8_oneHour 117 = .ok (.aload_n 0, 1) := by decide +kernel
theorem dX8_oneHour_118 : decode cX8_oneHour 118 = .ok (.getfield 28, 3) := by decide +kernel
theorem dX8_oneHour_121 : decode cX8_oneHour 121 = .ok (.bipush 8, 2) := by decide +kernel
theorem dX8_oneHour_123 : decode cX8_oneHour 123 = .ok (.iaload, 1) := by decide +kernel
theorem dX8_oneHour_124 : decode cX8_oneHour 124 = .ok (.iadd, 1) := by decide +kernel
theorem dX8_oneHour_125 : decode cX8_oneHour 125 = .ok (.invokevirtual 274, 3) := by decide +kernel
theorem dX8_oneHour_128 : decode cX8_oneHour 128 = .ok (.iinc 1 1, 3) := by decide +kernel
theorem dX8_oneHour_131 : decode cX8_oneHour 131 = .ok (.goto (-106), 3) := by decide +kernel
theorem dX8_oneHour_134 : decode cX8_oneHour 134 = .ok (.iconst 0, 1) := by decide +kernel
theorem dX8_oneHour_135 : decode cX8_oneHour 135 = .ok (.istore_n 1, 1) := by decide +kernel
theorem dX8_oneHour_136 : decode cX8_oneHour 136 = .ok (.iload_n 1, 1) := by decide +kernel
theorem dX8_oneHour_137 : decode cX8_oneHour 137 = .ok (.sipush 793, 3) := by decide +kernel
theorem dX8_oneHour_140 : decode cX8_oneHour 140 = .ok (.if_icmp .ge 21, 3) := by decide +kernel
theorem dX8_oneHour_143 : decode cX8_oneHour 143 = .ok (.aload_n 0, 1) := by decide +kernel
theorem dX8_oneHour_144 : decode cX8_oneHour 144 = .ok (.getfield 68, 3) := by decide +kernel
theorem dX8_oneHour_147 : decode cX8_oneHour 147 = .ok (.iload_n 1, 1) := by decide +kernel
theorem dX8_oneHour_148 : decode cX8_oneHour 148 = .ok (.aload_n 0, 1) := by decide +kernel
theorem dX8_oneHour_149 : decode cX8_oneHour 149 = .ok (.getfield 71, 3) := by decide +kernel
theorem dX8_oneHour_152 : decode cX8_oneHour 152 = .ok (.iload_n 1, 1) := by decide +kernel
theorem dX8_oneHour_153 : decode cX8_oneHour 153 = .ok (.iaload, 1) := by decide +kernel
theorem dX8_oneHour_154 : decode cX8_oneHour 154 = .ok (.iastore, 1) := by decide +kernel
theorem dX8_oneHour_155 : decode cX8_oneHour 155 = .ok (.iinc 1 1, 3) := by decide +kernel
theorem dX8_oneHour_158 : decode cX8_oneHour 158 = .ok (.goto (-22), 3) := by decide +kernel
theorem dX8_oneHour_161 : decode cX8_oneHour 161 = .ok (.return_, 1) := by decide +kernel
theorem dX8_lessons_0 : decode cX8_lessons 0 = .ok (.iload_n 1, 1) := by decide +kernel
theorem dX8_lessons_1 : decode cX8_lessons 1 = .ok (.i2l, 1) := by decide +kernel
theorem dX8_lessons_2 : decode cX8_lessons 2 = .ok (.lconst 0, 1) := by decide +kernel
theorem dX8_lessons_3 : decode cX8_lessons 3 = .ok (.lconst 1, 1) := by decide +kernel
theorem dX8_lessons_4 : decode cX8_lessons 4 = .ok (.invokestatic 99, 3) := by decide +kernel
theorem dX8_lessons_7 : decode cX8_lessons 7 = .ok (.ifCond .ne 5, 3) := by decide +kernel
theorem dX8_lessons_10 : decode cX8_lessons 10 = .ok (.iconst (-1), 1) := by decide +kernel
theorem dX8_lessons_11 : decode cX8_lessons 11 = .ok (.ireturn, 1) := by decide +kernel
theorem dX8_lessons_12 : decode cX8_lessons 12 = .ok (.iconst 0, 1) := by decide +kernel
theorem dX8_lessons_13 : decode cX8_lessons 13 = .ok (.istore_n 2, 1) := by decide +kernel
theorem dX8_lessons_14 : decode cX8_lessons 14 = .ok (.iload_n 2, 1) := by decide +kernel
theorem dX8_lessons_15 : decode cX8_lessons 15 = .ok (.sipush 793, 3) := by decide +kernel
theorem dX8_lessons_18 : decode cX8_lessons 18 = .ok (.if_icmp .ge 25, 3) := by decide +kernel
theorem dX8_lessons_21 : decode cX8_lessons 21 = .ok (.aload_n 0, 1) := by decide +kernel
theorem dX8_lessons_22 : decode cX8_lessons 22 = .ok (.getfield 68, 3) := by decide +kernel
theorem dX8_lessons_25 : decode cX8_lessons 25 = .ok (.iload_n 2, 1) := by decide +kernel
theorem dX8_lessons_26 : decode cX8_lessons 26 = .ok (.iload_n 2, 1) := by decide +kernel
theorem dX8_lessons_27 : decode cX8_lessons 27 = .ok (.ifCond .ne 7, 3) := by decide +kernel
theorem dX8_lessons_30 : decode cX8_lessons 30 = .ok (.iconst 0, 1) := by decide +kernel
theorem dX8_lessons_31 : decode cX8_lessons 31 = .ok (.goto 5, 3) := by decide +kernel
theorem dX8_lessons_34 : decode cX8_lessons 34 = .ok (.bipush (-4), 2) := by decide +kernel
theorem dX8_lessons_36 : decode cX8_lessons 36 = .ok (.iastore, 1) := by decide +kernel
theorem dX8_lessons_37 : decode cX8_lessons 37 = .ok (.iinc 2 1, 3) := by decide +kernel
theorem dX8_lessons_40 : decode cX8_lessons 40 = .ok (.goto (-26), 3) := by decide +kernel
theorem dX8_lessons_43 : decode cX8_lessons 43 = .ok (.iconst 1, 1) := by decide +kernel
theorem dX8_lessons_44 : decode cX8_lessons 44 = .ok (.istore_n 2, 1) := by decide +kernel
theorem dX8_lessons_45 : decode cX8_lessons 45 = .ok (.iload_n 2, 1) := by decide +kernel
theorem dX8_lessons_46 : decode cX8_lessons 46 = .ok (.bipush 60, 2) := by decide +kernel
theorem dX8_lessons_48 : decode cX8_lessons 48 = .ok (.if_icmp .gt 57, 3) := by decide +kernel
theorem dX8_lessons_51 : decode cX8_lessons 51 = .ok (.aload_n 0, 1) := by decide +kernel
theorem dX8_lessons_52 : decode cX8_lessons 52 = .ok (.invokevirtual 278, 3) := by decide +kernel
theorem dX8_lessons_55 : decode cX8_lessons 55 = .ok (.iconst 0, 1) := by decide +kernel
theorem dX8_lessons_56 : decode cX8_lessons 56 = .ok (.istore_n 3, 1) := by decide +kernel
theorem dX8_lessons_57 : decode cX8_lessons 57 = .ok (.iload_n 3, 1) := by decide +kernel
theorem dX8_lessons_58 : decode cX8_lessons 58 = .ok (.sipush 793, 3) := by decide +kernel
theorem dX8_lessons_61 : decode cX8_lessons 61 = .ok (.if_icmp .ge 38, 3) := by decide +kernel
theorem dX8_lessons_64 : decode cX8_lessons 64 = .ok (.aload_n 0, 1) := by decide +kernel
theorem dX8_lessons_65 : decode cX8_lessons 65 = .ok (.getfield 68, 3) := by decide +kernel
theorem dX8_lessons_68 : decode cX8_lessons 68 = .ok (.iload_n 3, 1) := by decide +kernel
theorem dX8_lessons_69 : decode cX8_lessons 69 = .ok (.iaload, 1) := by decide +kernel
theorem dX8_lessons_70 : decode cX8_lessons 70 = .ok (.aload_n 0, 1) := by decide +kernel
theorem dX8_lessons_71 : decode cX8_lessons 71 = .ok (.getfield 28, 3) := by decide +kernel
theorem dX8_lessons_74 : decode cX8_lessons 74 = .ok (.bipush 10, 2) := by decide +kernel
theorem dX8_lessons_76 : decode cX8_lessons 76 = .ok (.iaload, 1) := by decide +kernel
theorem dX8_lessons_77 : decode cX8_lessons 77 = .ok (.if_icmp .lt 16, 3) := by decide +kernel
theorem dX8_lessons_80 : decode cX8_lessons 80 = .ok (.iload_n 1, 1) := by decide +kernel
theorem dX8_lessons_81 : decode cX8_lessons 81 = .ok (.ifCond .ne 7, 3) := by decide +kernel
theorem dX8_lessons_84 : decode cX8_lessons 84 = .ok (.iload_n 2, 1) := by decide +kernel
theorem dX8_lessons_85 : decode cX8_lessons 85 = .ok (.goto 7, 3) := by decide +kernel
theorem dX8_lessons_88 : decode cX8_lessons 88 = .ok (.iload_n 3, 1) := by decide +kernel
theorem dX8_lessons_89 : decode cX8_lessons 89 = .ok (.bipush 13, 2) := by decide +kernel
theorem dX8_lessons_91 : decode cX8_lessons 91 = .ok (.idiv, 1) := by decide +kernel
theorem dX8_lessons_92 : decode cX8_lessons 92 = .ok (.ireturn, 1) := by decide +kernel
theorem dX8_lessons_93 : decode cX8_lessons 93 = .ok (.iinc 3 1, 3) := by decide +kernel
theorem dX8_lessons_96 : decode cX8_lessons 96 = .ok (.goto (-39), 3) := by decide +kernel
theorem dX8_lessons_99 : decode cX8_lessons 99 = .ok (.iinc 2 1, 3) := by decide +kernel
theorem dX8_lessons_102 : decode cX8_lessons 102 = .ok (.goto (-57), 3) := by decide +kernel
theorem dX8_lessons_105 : decode cX8_lessons 105 = .ok (.bipush (-4), 2) := by decide +kernel
theorem dX8_lessons_107 : decode cX8_lessons 107 = .ok (.ireturn, 1) := by decide +kernel
theorem dX8_asks_0 : decode cX8_asks 0 = .ok (.iload_n 1, 1) := by decide +kernel
theorem dX8_asks_1 : decode cX8_asks 1 = .ok (.invokestatic 220, 3) := by decide +kernel
theorem dX8_asks_4 : decode cX8_asks 4 = .ok (.ifCond .eq 30, 3) := by decide +kernel
theorem dX8_asks_7 : decode cX8_asks 7 = .ok (.iload_n 2, 1) := by decide +kernel
theorem dX8_asks_8 : decode cX8_asks 8 = .ok (.i2l, 1) := by decide +kernel
theorem dX8_asks_9 : decode cX8_asks 9 = .ok (.ldc2_w 228, 3) := by decide +kernel
theorem dX8_asks_12 : decode cX8_asks 12 = .ok (.ldc2_w 178, 3) := by decide +kernel
theorem dX8_asks_15 : decode cX8_asks 15 = .ok (.invokestatic 99, 3) := by decide +kernel
theorem dX8_asks_18 : decode cX8_asks 18 = .ok (.ifCond .eq 16, 3) := by decide +kernel
theorem dX8_asks_21 : decode cX8_asks 21 = .ok (.aload_n 0, 1) := by decide +kernel
theorem dX8_asks_22 : decode cX8_asks 22 = .ok (.getfield 28, 3) := by decide +kernel
theorem dX8_asks_25 : decode cX8_asks 25 = .ok (.bipush 12, 2) := by decide +kernel
theorem dX8_asks_27 : decode cX8_asks 27 = .ok (.iload_n 1, 1) := by decide +kernel
theorem dX8_asks_28 : decode cX8_asks 28 = .ok (.iadd, 1) := by decide +kernel
theorem dX8_asks_29 : decode cX8_asks 29 = .ok (.iaload, 1) := by decide +kernel
theorem dX8_asks_30 : decode cX8_asks 30 = .ok (.iload_n 2, 1) := by decide +kernel
theorem dX8_asks_31 : decode cX8_asks 31 = .ok (.if_icmp .le 5, 3) := by decide +kernel
theorem dX8_asks_34 : decode cX8_asks 34 = .ok (.iconst (-1), 1) := by decide +kernel
theorem dX8_asks_35 : decode cX8_asks 35 = .ok (.ireturn, 1) := by decide +kernel
theorem dX8_asks_36 : decode cX8_asks 36 = .ok (.iconst 1, 1) := by decide +kernel
theorem dX8_asks_37 : decode cX8_asks 37 = .ok (.istore_n 3, 1) := by decide +kernel
theorem dX8_asks_38 : decode cX8_asks 38 = .ok (.iload_n 2, 1) := by decide +kernel
theorem dX8_asks_39 : decode cX8_asks 39 = .ok (.istore 4, 2) := by decide +kernel
theorem dX8_asks_41 : decode cX8_asks 41 = .ok (.iconst 0, 1) := by decide +kernel
theorem dX8_asks_42 : decode cX8_asks 42 = .ok (.istore 5, 2) := by decide +kernel
theorem dX8_asks_44 : decode cX8_asks 44 = .ok (.iload_n 3, 1) := by decide +kernel
theorem dX8_asks_45 : decode cX8_asks 45 = .ok (.iload 4, 2) := by decide +kernel
theorem dX8_asks_47 : decode cX8_asks 47 = .ok (.if_icmp .ge 43, 3) := by decide +kernel
theorem dX8_asks_50 : decode cX8_asks 50 = .ok (.iload_n 3, 1) := by decide +kernel
theorem dX8_asks_51 : decode cX8_asks 51 = .ok (.iload 4, 2) := by decide +kernel
theorem dX8_asks_53 : decode cX8_asks 53 = .ok (.iadd, 1) := by decide +kernel
theorem dX8_asks_54 : decode cX8_asks 54 = .ok (.iconst 2, 1) := by decide +kernel
theorem dX8_asks_55 : decode cX8_asks 55 = .ok (.idiv, 1) := by decide +kernel
theorem dX8_asks_56 : decode cX8_asks 56 = .ok (.istore 6, 2) := by decide +kernel
theorem dX8_asks_58 : decode cX8_asks 58 = .ok (.iinc 5 1, 3) := by decide +kernel
theorem dX8_asks_61 : decode cX8_asks 61 = .ok (.iload 6, 2) := by decide +kernel
theorem dX8_asks_63 : decode cX8_asks 63 = .ok (.aload_n 0, 1) := by decide +kernel
theorem dX8_asks_64 : decode cX8_asks 64 = .ok (.getfield 28, 3) := by decide +kernel
theorem dX8_asks_67 : decode cX8_asks 67 = .ok (.bipush 12, 2) := by decide +kernel
theorem dX8_asks_69 : decode cX8_asks 69 = .ok (.iload_n 1, 1) := by decide +kernel
theorem dX8_asks_70 : decode cX8_asks 70 = .ok (.iadd, 1) := by decide +kernel
theorem dX8_asks_71 : decode cX8_asks 71 = .ok (.iaload, 1) := by decide +kernel
theorem dX8_asks_72 : decode cX8_asks 72 = .ok (.if_icmp .lt 10, 3) := by decide +kernel
theorem dX8_asks_75 : decode cX8_asks 75 = .ok (.iload 6, 2) := by decide +kernel
theorem dX8_asks_77 : decode cX8_asks 77 = .ok (.istore 4, 2) := by decide +kernel
theorem dX8_asks_79 : decode cX8_asks 79 = .ok (.goto 8, 3) := by decide +kernel
theorem dX8_asks_82 : decode cX8_asks 82 = .ok (.iload 6, 2) := by decide +kernel
theorem dX8_asks_84 : decode cX8_asks 84 = .ok (.iconst 1, 1) := by decide +kernel
theorem dX8_asks_85 : decode cX8_asks 85 = .ok (.iadd, 1) := by decide +kernel
theorem dX8_asks_86 : decode cX8_asks 86 = .ok (.istore_n 3, 1) := by decide +kernel
theorem dX8_asks_87 : decode cX8_asks 87 = .ok (.goto (-43), 3) := by decide +kernel
theorem dX8_asks_90 : decode cX8_asks 90 = .ok (.iload 5, 2) := by decide +kernel
theorem dX8_asks_92 : decode cX8_asks 92 = .ok (.ireturn, 1) := by decide +kernel
theorem dX8_loud_0 : decode cX8_loud 0 = .ok (.iload_n 1, 1) := by decide +kernel
theorem dX8_loud_1 : decode cX8_loud 1 = .ok (.iconst 4, 1) := by decide +kernel
theorem dX8_loud_2 : decode cX8_loud 2 = .ok (.if_icmp .lt 32, 3) := by decide +kernel
theorem dX8_loud_5 : decode cX8_loud 5 = .ok (.aload_n 0, 1) := by decide +kernel
theorem dX8_loud_6 : decode cX8_loud 6 = .ok (.getfield 47, 3) := by decide +kernel
theorem dX8_loud_9 : decode cX8_loud 9 = .ok (.iload_n 1, 1) := by decide +kernel
theorem dX8_loud_10 : decode cX8_loud 10 = .ok (.iconst 4, 1) := by decide +kernel
theorem dX8_loud_11 : decode cX8_loud 11 = .ok (.isub, 1) := by decide +kernel
theorem dX8_loud_12 : decode cX8_loud 12 = .ok (.iaload, 1) := by decide +kernel
theorem dX8_loud_13 : decode cX8_loud 13 = .ok (.aload_n 0, 1) := by decide +kernel
theorem dX8_loud_14 : decode cX8_loud 14 = .ok (.getfield 47, 3) := by decide +kernel
theorem dX8_loud_17 : decode cX8_loud 17 = .ok (.iload_n 1, 1) := by decide +kernel
theorem dX8_loud_18 : decode cX8_loud 18 = .ok (.iaload, 1) := by decide +kernel
theorem dX8_loud_19 : decode cX8_loud 19 = .ok (.isub, 1) := by decide +kernel
theorem dX8_loud_20 : decode cX8_loud 20 = .ok (.aload_n 0, 1) := by decide +kernel
theorem dX8_loud_21 : decode cX8_loud 21 = .ok (.getfield 28, 3) := by decide +kernel
theorem dX8_loud_24 : decode cX8_loud 24 = .ok (.bipush 6, 2) := by decide +kernel
theorem dX8_loud_26 : decode cX8_loud 26 = .ok (.iaload, 1) := by decide +kernel
theorem dX8_loud_27 : decode cX8_loud 27 = .ok (.if_icmp .lt 7, 3) := by decide +kernel
theorem dX8_loud_30 : decode cX8_loud 30 = .ok (.iconst 1, 1) := by decide +kernel
theorem dX8_loud_31 : decode cX8_loud 31 = .ok (.goto 4, 3) := by decide +kernel
theorem dX8_loud_34 : decode cX8_loud 34 = .ok (.iconst 0, 1) := by decide +kernel
theorem dX8_loud_35 : decode cX8_loud 35 = .ok (.istore_n 2, 1) := by decide +kernel
theorem dX8_loud_36 : decode cX8_loud 36 = .ok (.iload_n 1, 1) := by decide +kernel
theorem dX8_loud_37 : decode cX8_loud 37 = .ok (.bipush 12, 2) := by decide +kernel
theorem dX8_loud_39 : decode cX8_loud 39 = .ok (.if_icmp .ge 32, 3) := by decide +kernel
theorem dX8_loud_42 : decode cX8_loud 42 = .ok (.aload_n 0, 1) := by decide +kernel
theorem dX8_loud_43 : decode cX8_loud 43 = .ok (.getfield 47, 3) := by decide +kernel
theorem dX8_loud_46 : decode cX8_loud 46 = .ok (.iload_n 1, 1) := by decide +kernel
theorem dX8_loud_47 : decode cX8_loud 47 = .ok (.iconst 4, 1) := by decide +kernel
theorem dX8_loud_48 : decode cX8_loud 48 = .ok (.iadd, 1) := by decide +kernel
theorem dX8_loud_49 : decode cX8_loud 49 = .ok (.iaload, 1) := by decide +kernel
theorem dX8_loud_50 : decode cX8_loud 50 = .ok (.aload_n 0, 1) := by decide +kernel
theorem dX8_loud_51 : decode cX8_loud 51 = .ok (.getfield 47, 3) := by decide +kernel
theorem dX8_loud_54 : decode cX8_loud 54 = .ok (.iload_n 1, 1) := by decide +kernel
theorem dX8_loud_55 : decode cX8_loud 55 = .ok (.iaload, 1) := by decide +kernel
theorem dX8_loud_56 : decode cX8_loud 56 = .ok (.isub, 1) := by decide +kernel
theorem dX8_loud_57 : decode cX8_loud 57 = .ok (.aload_n 0, 1) := by decide +kernel
theorem dX8_loud_58 : decode cX8_loud 58 = .ok (.getfield 28, 3) := by decide +kernel
theorem dX8_loud_61 : decode cX8_loud 61 = .ok (.bipush 6, 2) := by decide +kernel
theorem dX8_loud_63 : decode cX8_loud 63 = .ok (.iaload, 1) := by decide +kernel
theorem dX8_loud_64 : decode cX8_loud 64 = .ok (.if_icmp .lt 7, 3) := by decide +kernel
theorem dX8_loud_67 : decode cX8_loud 67 = .ok (.iconst 1, 1) := by decide +kernel
theorem dX8_loud_68 : decode cX8_loud 68 = .ok (.goto 4, 3) := by decide +kernel
theorem dX8_loud_71 : decode cX8_loud 71 = .ok (.iconst 0, 1) := by decide +kernel
theorem dX8_loud_72 : decode cX8_loud 72 = .ok (.istore_n 3, 1) := by decide +kernel
theorem dX8_loud_73 : decode cX8_loud 73 = .ok (.iload_n 2, 1) := by decide +kernel
theorem dX8_loud_74 : decode cX8_loud 74 = .ok (.ifCond .ne 7, 3) := by decide +kernel
theorem dX8_loud_77 : decode cX8_loud 77 = .ok (.iload_n 3, 1) := by decide +kernel
theorem dX8_loud_78 : decode cX8_loud 78 = .ok (.ifCond .eq 7, 3) := by decide +kernel
theorem dX8_loud_81 : decode cX8_loud 81 = .ok (.iconst 0, 1) := by decide +kernel
theorem dX8_loud_82 : decode cX8_loud 82 = .ok (.goto 9, 3) := by decide +kernel
theorem dX8_loud_85 : decode cX8_loud 85 = .ok (.aload_n 0, 1) := by decide +kernel
theorem dX8_loud_86 : decode cX8_loud 86 = .ok (.getfield 47, 3) := by decide +kernel
theorem dX8_loud_89 : decode cX8_loud 89 = .ok (.iload_n 1, 1) := by decide +kernel
theorem dX8_loud_90 : decode cX8_loud 90 = .ok (.iaload, 1) := by decide +kernel
theorem dX8_loud_91 : decode cX8_loud 91 = .ok (.ireturn, 1) := by decide +kernel
theorem dX8_heard_0 : decode cX8_heard 0 = .ok (.iload_n 1, 1) := by decide +kernel
theorem dX8_heard_1 : decode cX8_heard 1 = .ok (.invokestatic 172, 3) := by decide +kernel
theorem dX8_heard_4 : decode cX8_heard 4 = .ok (.ifCond .eq 27, 3) := by decide +kernel
theorem dX8_heard_7 : decode cX8_heard 7 = .ok (.iload_n 2, 1) := by decide +kernel
theorem dX8_heard_8 : decode cX8_heard 8 = .ok (.i2l, 1) := by decide +kernel
theorem dX8_heard_9 : decode cX8_heard 9 = .ok (.lconst 0, 1) := by decide +kernel
theorem dX8_heard_10 : decode cX8_heard 10 = .ok (.ldc2_w 223, 3) := by decide +kernel
theorem dX8_heard_13 : decode cX8_heard 13 = .ok (.invokestatic 99, 3) := by decide +kernel
theorem dX8_heard_16 : decode cX8_heard 16 = .ok (.ifCond .eq 15, 3) := by decide +kernel
theorem dX8_heard_19 : decode cX8_heard 19 = .ok (.iload_n 3, 1) := by decide +kernel
theorem dX8_heard_20 : decode cX8_heard 20 = .ok (.i2l, 1) := by decide +kernel
theorem dX8_heard_21 : decode cX8_heard 21 = .ok (.lconst 0, 1) := by decide +kernel
theorem dX8_heard_22 : decode cX8_heard 22 = .ok (.ldc2_w 223, 3) := by decide +kernel
theorem dX8_heard_25 : decode cX8_heard 25 = .ok (.invokestatic 99, 3) := by decide +kernel
theorem dX8_heard_28 : decode cX8_heard 28 = .ok (.ifCond .ne 5, 3) := by decide +kernel
theorem dX8_heard_31 : decode cX8_heard 31 = .ok (.iconst (-1), 1) := by decide +kernel
theorem dX8_heard_32 : decode cX8_heard 32 = .ok (.ireturn, 1) := by decide +kernel
theorem dX8_heard_33 : decode cX8_heard 33 = .ok (.aload_n 0, 1) := by decide +kernel
theorem dX8_heard_34 : decode cX8_heard 34 = .ok (.iload_n 1, 1) := by decide +kernel
theorem dX8_heard_35 : decode cX8_heard 35 = .ok (.aload_n 0, 1) := by decide +kernel
theorem dX8_heard_36 : decode cX8_heard 36 = .ok (.getfield 37, 3) := by decide +kernel
theorem dX8_heard_39 : decode cX8_heard 39 = .ok (.invokevirtual 211, 3) := by decide +kernel
theorem dX8_heard_42 : decode cX8_heard 42 = .ok (.aload_n 0, 1) := by decide +kernel
theorem dX8_heard_43 : decode cX8_heard 43 = .ok (.iconst 4, 1) := by decide +kernel
theorem dX8_heard_44 : decode cX8_heard 44 = .ok (.iload_n 3, 1) := by decide +kernel
theorem dX8_heard_45 : decode cX8_heard 45 = .ok (.imul, 1) := by decide +kernel
theorem dX8_heard_46 : decode cX8_heard 46 = .ok (.iload_n 2, 1) := by decide +kernel
theorem dX8_heard_47 : decode cX8_heard 47 = .ok (.iadd, 1) := by decide +kernel
theorem dX8_heard_48 : decode cX8_heard 48 = .ok (.invokevirtual 281, 3) := by decide +kernel
theorem dX8_heard_51 : decode cX8_heard 51 = .ok (.ireturn, 1) := by decide +kernel
theorem dX8_soundAlike_0 : decode cX8_soundAlike 0 = .ok (.aload_n 0, 1) := by decide +kernel
theorem dX8_soundAlike_1 : decode cX8_soundAlike 1 = .ok (.iload_n 1, 1) := by decide +kernel
theorem dX8_soundAlike_2 : decode cX8_soundAlike 2 = .ok (.aload_n 0, 1) := by decide +kernel
theorem dX8_soundAlike_3 : decode cX8_soundAlike 3 = .ok (.getfield 37, 3) := by decide +kernel
theorem dX8_soundAlike_6 : decode cX8_soundAlike 6 = .ok (.invokevirtual 211, 3) := by decide +kernel
theorem dX8_soundAlike_9 : decode cX8_soundAlike 9 = .ok (.iconst 0, 1) := by decide +kernel
theorem dX8_soundAlike_10 : decode cX8_soundAlike 10 = .ok (.istore_n 3, 1) := by decide +kernel
theorem dX8_soundAlike_11 : decode cX8_soundAlike 11 = .ok (.iload_n 3, 1) := by decide +kernel
theorem dX8_soundAlike_12 : decode cX8_soundAlike 12 = .ok (.bipush 16, 2) := by decide +kernel
theorem dX8_soundAlike_14 : decode cX8_soundAlike 14 = .ok (.if_icmp .ge 20, 3) := by decide +kernel
theorem dX8_soundAlike_17 : decode cX8_soundAlike 17 = .ok (.aload_n 0, 1) := by decide +kernel
theorem dX8_soundAlike_18 : decode cX8_soundAlike 18 = .ok (.getfield 59, 3) := by decide +kernel
theorem dX8_soundAlike_21 : decode cX8_soundAlike 21 = .ok (.iload_n 3, 1) := by decide +kernel
theorem dX8_soundAlike_22 : decode cX8_soundAlike 22 = .ok (.aload_n 0, 1) := by decide +kernel
theorem dX8_soundAlike_23 : decode cX8_soundAlike 23 = .ok (.iload_n 3, 1) := by decide +kernel
theorem dX8_soundAlike_24 : decode cX8_soundAlike 24 = .ok (.invokevirtual 281, 3) := by decide +kernel
theorem dX8_soundAlike_27 : decode cX8_soundAlike 27 = .ok (.iastore, 1) := by decide +kernel
theorem dX8_soundAlike_28 : decode cX8_soundAlike 28 = .ok (.iinc 3 1, 3) := by decide +kernel
theorem dX8_soundAlike_31 : decode cX8_soundAlike 31 = .ok (.goto (-20), 3) := by decide +kernel
theorem dX8_soundAlike_34 : decode cX8_soundAlike 34 = .ok (.aload_n 0, 1) := by decide +kernel
theorem dX8_soundAlike_35 : decode cX8_soundAlike 35 = .ok (.iload_n 2, 1) := by decide +kernel
theorem dX8_soundAlike_36 : decode cX8_soundAlike 36 = .ok (.aload_n 0, 1) := by decide +kernel
theorem dX8_soundAlike_37 : decode cX8_soundAlike 37 = .ok (.getfield 37, 3) := by decide +kernel
theorem dX8_soundAlike_40 : decode cX8_soundAlike 40 = .ok (.invokevirtual 211, 3) := by decide +kernel
theorem dX8_soundAlike_43 : decode cX8_soundAlike 43 = .ok (.iconst 1, 1) := by decide +kernel
theorem dX8_soundAlike_44 : decode cX8_soundAlike 44 = .ok (.istore_n 3, 1) := by decide +kernel
theorem dX8_soundAlike_45 : decode cX8_soundAlike 45 = .ok (.iconst 0, 1) := by decide +kernel
theorem dX8_soundAlike_46 : decode cX8_soundAlike 46 = .ok (.istore 4, 2) := by decide +kernel
theorem dX8_soundAlike_48 : decode cX8_soundAlike 48 = .ok (.iload 4, 2) := by decide +kernel
theorem dX8_soundAlike_50 : decode cX8_soundAlike 50 = .ok (.bipush 16, 2) := by decide +kernel
theorem dX8_soundAlike_52 : decode cX8_soundAlike 52 = .ok (.if_icmp .ge 35, 3) := by decide +kernel
theorem dX8_soundAlike_55 : decode cX8_soundAlike 55 = .ok (.iload_n 3, 1) := by decide +kernel
theorem dX8_soundAlike_56 : decode cX8_soundAlike 56 = .ok (.ifCond .eq 23, 3) := by decide +kernel
theorem dX8_soundAlike_59 : decode cX8_soundAlike 59 = .ok (.aload_n 0, 1) := by decide +kernel
theorem dX8_soundAlike_60 : decode cX8_soundAlike 60 = .ok (.getfield 59, 3) := by decide +kernel
theorem dX8_soundAlike_63 : decode cX8_soundAlike 63 = .ok (.iload 4, 2) := by decide +kernel
theorem dX8_soundAlike_65 : decode cX8_soundAlike 65 = .ok (.iaload, 1) := by decide +kernel
theorem dX8_soundAlike_66 : decode cX8_soundAlike 66 = .ok (.aload_n 0, 1) := by decide +kernel
theorem dX8_soundAlike_67 : decode cX8_soundAlike 67 = .ok (.iload 4, 2) := by decide +kernel
theorem dX8_soundAlike_69 : decode cX8_soundAlike 69 = .ok (.invokevirtual 281, 3) := by decide +kernel
theorem dX8_soundAlike_72 : decode cX8_soundAlike 72 = .ok (.if_icmp .ne 7, 3) := by decide +kernel
theorem dX8_soundAlike_75 : decode cX8_soundAlike 75 = .ok (.iconst 1, 1) := by decide +kernel
theorem dX8_soundAlike_76 : decode cX8_soundAlike 76 = .ok (.goto 4, 3) := by decide +kernel
theorem dX8_soundAlike_79 : decode cX8_soundAlike 79 = .ok (.iconst 0, 1) := by decide +kernel
theorem dX8_soundAlike_80 : decode cX8_soundAlike 80 = .ok (.istore_n 3, 1) := by decide +kernel
theorem dX8_soundAlike_81 : decode cX8_soundAlike 81 = .ok (.iinc 4 1, 3) := by decide +kernel
theorem dX8_soundAlike_84 : decode cX8_soundAlike 84 = .ok (.goto (-36), 3) := by decide +kernel
theorem dX8_soundAlike_87 : decode cX8_soundAlike 87 = .ok (.iload_n 3, 1) := by decide +kernel
theorem dX8_soundAlike_88 : decode cX8_soundAlike 88 = .ok (.ireturn, 1) := by decide +kernel
theorem dX8_sounds_0 : decode cX8_sounds 0 = .ok (.iload_n 1, 1) := by decide +kernel
theorem dX8_sounds_1 : decode cX8_sounds 1 = .ok (.invokestatic 172, 3) := by decide +kernel
theorem dX8_sounds_4 : decode cX8_sounds 4 = .ok (.ifCond .eq 27, 3) := by decide +kernel
theorem dX8_sounds_7 : decode cX8_sounds 7 = .ok (.iload_n 2, 1) := by decide +kernel
theorem dX8_sounds_8 : decode cX8_sounds 8 = .ok (.invokestatic 172, 3) := by decide +kernel
theorem dX8_sounds_11 : decode cX8_sounds 11 = .ok (.ifCond .eq 20, 3) := by decide +kernel
theorem dX8_sounds_14 : decode cX8_sounds 14 = .ok (.aload_n 0, 1) := by decide +kernel
theorem dX8_sounds_15 : decode cX8_sounds 15 = .ok (.iload_n 1, 1) := by decide +kernel
theorem dX8_sounds_16 : decode cX8_sounds 16 = .ok (.iload_n 2, 1) := by decide +kernel
theorem dX8_sounds_17 : decode cX8_sounds 17 = .ok (.invokevirtual 284, 3) := by decide +kernel
theorem dX8_sounds_20 : decode cX8_sounds 20 = .ok (.ifCond .eq 7, 3) := by decide +kernel
theorem dX8_sounds_23 : decode cX8_sounds 23 = .ok (.iconst 1, 1) := by decide +kernel
theorem dX8_sounds_24 : decode cX8_sounds 24 = .ok (.goto 8, 3) := by decide +kernel
theorem dX8_sounds_27 : decode cX8_sounds 27 = .ok (.iconst 0, 1) := by decide +kernel
theorem dX8_sounds_28 : decode cX8_sounds 28 = .ok (.goto 4, 3) := by decide +kernel
theorem dX8_sounds_31 : decode cX8_sounds 31 = .ok (.iconst (-1), 1) := by decide +kernel
theorem dX8_sounds_32 : decode cX8_sounds 32 = .ok (.ireturn, 1) := by decide +kernel
theorem dX8_beside_0 : decode cX8_beside 0 = .ok (.iload_n 1, 1) := by decide +kernel
theorem dX8_beside_1 : decode cX8_beside 1 = .ok (.i2l, 1) := by decide +kernel
theorem dX8_beside_2 : decode cX8_beside 2 = .ok (.lconst 0, 1) := by decide +kernel
theorem dX8_beside_3 : decode cX8_beside 3 = .ok (.ldc2_w 228, 3) := by decide +kernel
theorem dX8_beside_6 : decode cX8_beside 6 = .ok (.invokestatic 99, 3) := by decide +kernel
theorem dX8_beside_9 : decode cX8_beside 9 = .ok (.ifCond .ne 5, 3) := by decide +kernel
theorem dX8_beside_12 : decode cX8_beside 12 = .ok (.iconst (-1), 1) := by decide +kernel
theorem dX8_beside_13 : decode cX8_beside 13 = .ok (.ireturn, 1) := by decide +kernel
theorem dX8_beside_14 : decode cX8_beside 14 = .ok (.iconst 0, 1) := by decide +kernel
theorem dX8_beside_15 : decode cX8_beside 15 = .ok (.istore_n 2, 1) := by decide +kernel
theorem dX8_beside_16 : decode cX8_beside 16 = .ok (.iconst 0, 1) := by decide +kernel
theorem dX8_beside_17 : decode cX8_beside 17 = .ok (.istore_n 3, 1) := by decide +kernel
theorem dX8_beside_18 : decode cX8_beside 18 = .ok (.iload_n 3, 1) := by decide +kernel
theorem dX8_beside_19 : decode cX8_beside 19 = .ok (.bipush 6, 2) := by decide +kernel
theorem dX8_beside_21 : decode cX8_beside 21 = .ok (.if_icmp .ge 92, 3) := by decide +kernel
theorem dX8_beside_24 : decode cX8_beside 24 = .ok (.iload_n 3, 1) := by decide +kernel
theorem dX8_beside_25 : decode cX8_beside 25 = .ok (.iconst 1, 1) := by decide +kernel
theorem dX8_beside_26 : decode cX8_beside 26 = .ok (.iadd, 1) := by decide +kernel
theorem dX8_beside_27 : decode cX8_beside 27 = .ok (.istore 4, 2) := by decide +kernel
theorem dX8_beside_29 : decode cX8_beside 29 = .ok (.iload 4, 2) := by decide +kernel
theorem dX8_beside_31 : decode cX8_beside 31 = .ok (.bipush 6, 2) := by decide +kernel
theorem dX8_beside_33 : decode cX8_beside 33 = .ok (.if_icmp .ge 74, 3) := by decide +kernel
theorem dX8_beside_36 : decode cX8_beside 36 = .ok (.aload_n 0, 1) := by decide +kernel
theorem dX8_beside_37 : decode cX8_beside 37 = .ok (.iload_n 3, 1) := by decide +kernel
theorem dX8_beside_38 : decode cX8_beside 38 = .ok (.iload 4, 2) := by decide +kernel
theorem dX8_beside_40 : decode cX8_beside 40 = .ok (.aload_n 0, 1) := by decide +kernel
theorem dX8_beside_41 : decode cX8_beside 41 = .ok (.getfield 37, 3) := by decide +kernel
theorem dX8_beside_44 : decode cX8_beside 44 = .ok (.invokevirtual 243, 3) := by decide +kernel
theorem dX8_beside_47 : decode cX8_beside 47 = .ok (.istore 5, 2) := by decide +kernel
theorem dX8_beside_49 : decode cX8_beside 49 = .ok (.aload_n 0, 1) := by decide +kernel
theorem dX8_beside_50 : decode cX8_beside 50 = .ok (.iload_n 3, 1) := by decide +kernel
theorem dX8_beside_51 : decode cX8_beside 51 = .ok (.iload 4, 2) := by decide +kernel
theorem dX8_beside_53 : decode cX8_beside 53 = .ok (.invokevirtual 284, 3) := by decide +kernel
theorem dX8_beside_56 : decode cX8_beside 56 = .ok (.istore 6, 2) := by decide +kernel
theorem dX8_beside_58 : decode cX8_beside 58 = .ok (.iload_n 2, 1) := by decide +kernel
theorem dX8_beside_59 : decode cX8_beside 59 = .ok (.iload_n 1, 1) := by decide +kernel
theorem dX8_beside_60 : decode cX8_beside 60 = .ok (.ifCond .ne 11, 3) := by decide +kernel
theorem dX8_beside_63 : decode cX8_beside 63 = .ok (.iload 5, 2) := by decide +kernel
theorem dX8_beside_65 : decode cX8_beside 65 = .ok (.ifCond .eq 33, 3) := by decide +kernel
theorem dX8_beside_68 : decode cX8_beside 68 = .ok (.goto 26, 3) := by decide +kernel
theorem dX8_beside_71 : decode cX8_beside 71 = .ok (.iload_n 1, 1) := by decide +kernel
theorem dX8_beside_72 : decode cX8_beside 72 = .ok (.iconst 1, 1) := by decide +kernel
theorem dX8_beside_73 : decode cX8_beside 73 = .ok (.if_icmp .ne 11, 3) := by decide +kernel
theorem dX8_beside_76 : decode cX8_beside 76 = .ok (.iload 6, 2) := by decide +kernel
theorem dX8_beside_78 : decode cX8_beside 78 = .ok (.ifCond .eq 20, 3) := by decide +kernel
theorem dX8_beside_81 : decode cX8_beside 81 = .ok (.goto 13, 3) := by decide +kernel
theorem dX8_beside_84 : decode cX8_beside 84 = .ok (.iload 5, 2) := by decide +kernel
theorem dX8_beside_86 : decode cX8_beside 86 = .ok (.ifCond .eq 12, 3) := by decide +kernel
theorem dX8_beside_89 : decode cX8_beside 89 = .ok (.iload 6, 2) := by decide +kernel
theorem dX8_beside_91 : decode cX8_beside 91 = .ok (.ifCond .eq 7, 3) := by decide +kernel
theorem dX8_beside_94 : decode cX8_beside 94 = .ok (.iconst 1, 1) := by decide +kernel
theorem dX8_beside_95 : decode cX8_beside 95 = .ok (.goto 4, 3) := by decide +kernel
theorem dX8_beside_98 : decode cX8_beside 98 = .ok (.iconst 0, 1) := by decide +kernel
theorem dX8_beside_99 : decode cX8_beside 99 = .ok (.iadd, 1) := by decide +kernel
theorem dX8_beside_100 : decode cX8_beside 100 = .ok (.istore_n 2, 1) := by decide +kernel
theorem dX8_beside_101 : decode cX8_beside 101 = .ok (.iinc 4 1, 3) := by decide +kernel
theorem dX8_beside_104 : decode cX8_beside 104 = .ok (.goto (-75), 3) := by decide +kernel
theorem dX8_beside_107 : decode cX8_beside 107 = .ok (.iinc 3 1, 3) := by decide +kernel
theorem dX8_beside_110 : decode cX8_beside 110 = .ok (.goto (-92), 3) := by decide +kernel
theorem dX8_beside_113 : decode cX8_beside 113 = .ok (.iload_n 2, 1) := by decide +kernel
theorem dX8_beside_114 : decode cX8_beside 114 = .ok (.ireturn, 1) := by decide +kernel
theorem dX8_answer_0 : decode cX8_answer 0 = .ok (.iload_n 1, 1) := by decide +kernel
theorem dX8_answer_1 : decode cX8_answer 1 = .ok (.invokestatic 172, 3) := by decide +kernel
theorem dX8_answer_4 : decode cX8_answer 4 = .ok (.ifCond .eq 22, 3) := by decide +kernel
theorem dX8_answer_7 : decode cX8_answer 7 = .ok (.iload_n 2, 1) := by decide +kernel
theorem dX8_answer_8 : decode cX8_answer 8 = .ok (.i2l, 1) := by decide +kernel
theorem dX8_answer_9 : decode cX8_answer 9 = .ok (.lconst 0, 1) := by decide +kernel
theorem dX8_answer_10 : decode cX8_answer 10 = .ok (.ldc2_w 182, 3) := by decide +kernel
theorem dX8_answer_13 : decode cX8_answer 13 = .ok (.invokestatic 99, 3) := by decide +kernel
theorem dX8_answer_16 : decode cX8_answer 16 = .ok (.ifCond .eq 10, 3) := by decide +kernel
theorem dX8_answer_19 : decode cX8_answer 19 = .ok (.iload_n 3, 1) := by decide +kernel
theorem dX8_answer_20 : decode cX8_answer 20 = .ok (.invokestatic 220, 3) := by decide +kernel
theorem dX8_answer_23 : decode cX8_answer 23 = .ok (.ifCond .ne 5, 3) := by decide +kernel
theorem dX8_answer_26 : decode cX8_answer 26 = .ok (.iconst (-1), 1) := by decide +kernel
theorem dX8_answer_27 : decode cX8_answer 27 = .ok (.ireturn, 1) := by decide +kernel
theorem dX8_answer_28 : decode cX8_answer 28 = .ok (.aload_n 0, 1) := by decide +kernel
theorem dX8_answer_29 : decode cX8_answer 29 = .ok (.getfield 288, 3) := by decide +kernel
theorem dX8_answer_32 : decode cX8_answer 32 = .ok (.bipush 12, 2) := by decide +kernel
theorem dX8_answer_34 : decode cX8_answer 34 = .ok (.if_icmp .ne 6, 3) := by decide +kernel
theorem dX8_answer_37 : decode cX8_answer 37 = .ok (.bipush (-3), 2) := by decide +kernel
theorem dX8_answer_39 : decode cX8_answer 39 = .ok (.ireturn, 1) := by decide +kernel
theorem dX8_answer_40 : decode cX8_answer 40 = .ok (.aload_n 0, 1) := by decide +kernel
theorem dX8_answer_41 : decode cX8_answer 41 = .ok (.getfield 74, 3) := by decide +kernel
theorem dX8_answer_44 : decode cX8_answer 44 = .ok (.aload_n 0, 1) := by decide +kernel
theorem dX8_answer_45 : decode cX8_answer 45 = .ok (.getfield 288, 3) := by decide +kernel
theorem dX8_answer_48 : decode cX8_answer 48 = .ok (.iload_n 1, 1) := by decide +kernel
theorem dX8_answer_49 : decode cX8_answer 49 = .ok (.iastore, 1) := by decide +kernel
theorem dX8_answer_50 : decode cX8_answer 50 = .ok (.aload_n 0, 1) := by decide +kernel
theorem dX8_answer_51 : decode cX8_answer 51 = .ok (.getfield 77, 3) := by decide +kernel
theorem dX8_answer_54 : decode cX8_answer 54 = .ok (.aload_n 0, 1) := by decide +kernel
theorem dX8_answer_55 : decode cX8_answer 55 = .ok (.getfield 288, 3) := by decide +kernel
theorem dX8_answer_58 : decode cX8_answer 58 = .ok (.iload_n 2, 1) := by decide +kernel
theorem dX8_answer_59 : decode cX8_answer 59 = .ok (.iastore, 1) := by decide +kernel
theorem dX8_answer_60 : decode cX8_answer 60 = .ok (.aload_n 0, 1) := by decide +kernel
theorem dX8_answer_61 : decode cX8_answer 61 = .ok (.getfield 80, 3) := by decide +kernel
theorem dX8_answer_64 : decode cX8_answer 64 = .ok (.aload_n 0, 1) := by decide +kernel
theorem dX8_answer_65 : decode cX8_answer 65 = .ok (.getfield 288, 3) := by decide +kernel
theorem dX8_answer_68 : decode cX8_answer 68 = .ok (.iload_n 3, 1) := by decide +kernel
theorem dX8_answer_69 : decode cX8_answer 69 = .ok (.iastore, 1) := by decide +kernel
theorem dX8_answer_70 : decode cX8_answer 70 = .ok (.aload_n 0, 1) := by decide +kernel
theorem dX8_answer_71 : decode cX8_answer 71 = .ok (.getfield 83, 3) := by decide +kernel
theorem dX8_answer_74 : decode cX8_answer 74 = .ok (.aload_n 0, 1) := by decide +kernel
theorem dX8_answer_75 : decode cX8_answer 75 = .ok (.getfield 288, 3) := by decide +kernel
theorem dX8_answer_78 : decode cX8_answer 78 = .ok (.iload 4, 2) := by decide +kernel
theorem dX8_answer_80 : decode cX8_answer 80 = .ok (.bastore, 1) := by decide +kernel
theorem dX8_answer_81 : decode cX8_answer 81 = .ok (.aload_n 0, 1) := by decide +kernel
theorem dX8_answer_82 : decode cX8_answer 82 = .ok (.dup, 1) := by decide +kernel
theorem dX8_answer_83 : decode cX8_answer 83 = .ok (.getfield 288, 3) := by decide +kernel
theorem dX8_answer_86 : decode cX8_answer 86 = .ok (.iconst 1, 1) := by decide +kernel
theorem dX8_answer_87 : decode cX8_answer 87 = .ok (.iadd, 1) := by decide +kernel
theorem dX8_answer_88 : decode cX8_answer 88 = .ok (.putfield 288, 3) := by decide +kernel
theorem dX8_answer_91 : decode cX8_answer 91 = .ok (.aload_n 0, 1) := by decide +kernel
theorem dX8_answer_92 : decode cX8_answer 92 = .ok (.getfield 288, 3) := by decide +kernel
theorem dX8_answer_95 : decode cX8_answer 95 = .ok (.ireturn, 1) := by decide +kernel
theorem dX8_dead_0 : decode cX8_dead 0 = .ok (.iconst 0, 1) := by decide +kernel
theorem dX8_dead_1 : decode cX8_dead 1 = .ok (.istore_n 1, 1) := by decide +kernel
theorem dX8_dead_2 : decode cX8_dead 2 = .ok (.iconst 0, 1) := by decide +kernel
theorem dX8_dead_3 : decode cX8_dead 3 = .ok (.istore_n 2, 1) := by decide +kernel
theorem dX8_dead_4 : decode cX8_dead 4 = .ok (.aload_n 0, 1) := by decide +kernel
theorem dX8_dead_5 : decode cX8_dead 5 = .ok (.getfield 28, 3) := by decide +kernel
theorem dX8_dead_8 : decode cX8_dead 8 = .ok (.iconst 5, 1) := by decide +kernel
theorem dX8_dead_9 : decode cX8_dead 9 = .ok (.iaload, 1) := by decide +kernel
theorem dX8_dead_10 : decode cX8_dead 10 = .ok (.istore_n 3, 1) := by decide +kernel
theorem dX8_dead_11 : decode cX8_dead 11 = .ok (.aload_n 0, 1) := by decide +kernel
theorem dX8_dead_12 : decode cX8_dead 12 = .ok (.getfield 28, 3) := by decide +kernel
theorem dX8_dead_15 : decode cX8_dead 15 = .ok (.iconst 5, 1) := by decide +kernel
theorem dX8_dead_16 : decode cX8_dead 16 = .ok (.iconst 0, 1) := by decide +kernel
theorem dX8_dead_17 : decode cX8_dead 17 = .ok (.iastore, 1) := by decide +kernel
theorem dX8_dead_18 : decode cX8_dead 18 = .ok (.aload_n 0, 1) := by decide +kernel
theorem dX8_dead_19 : decode cX8_dead 19 = .ok (.iconst 1, 1) := by decide +kernel
theorem dX8_dead_20 : decode cX8_dead 20 = .ok (.putfield 194, 3) := by decide +kernel
theorem dX8_dead_23 : decode cX8_dead 23 = .ok (.aload_n 0, 1) := by decide +kernel
theorem dX8_dead_24 : decode cX8_dead 24 = .ok (.iconst 1, 1) := by decide +kernel
theorem dX8_dead_25 : decode cX8_dead 25 = .ok (.putfield 217, 3) := by decide +kernel
theorem dX8_dead_28 : decode cX8_dead 28 = .ok (.iconst 0, 1) := by decide +kernel
theorem dX8_dead_29 : decode cX8_dead 29 = .ok (.istore 4, 2) := by decide +kernel
theorem dX8_dead_31 : decode cX8_dead 31 = .ok (.iload 4, 2) := by decide +kernel
theorem dX8_dead_33 : decode cX8_dead 33 = .ok (.aload_n 0, 1) := by decide +kernel
theorem dX8_dead_34 : decode cX8_dead 34 = .ok (.getfield 288, 3) := by decide +kernel
theorem dX8_dead_37 : decode cX8_dead 37 = .ok (.if_icmp .ge 91, 3) := by decide +kernel
theorem dX8_dead_40 : decode cX8_dead 40 = .ok (.iconst 1, 1) := by decide +kernel
theorem dX8_dead_41 : decode cX8_dead 41 = .ok (.aload_n 0, 1) := by decide +kernel
theorem dX8_dead_42 : decode cX8_dead 42 = .ok (.getfield 80, 3) := by decide +kernel
theorem dX8_dead_45 : decode cX8_dead 45 = .ok (.iload 4, 2) := by decide +kernel
theorem dX8_dead_47 : decode cX8_dead 47 = .ok (.iaload, 1) := by decide +kernel
theorem dX8_dead_48 : decode cX8_dead 48 = .ok (.ishl, 1) := by decide +kernel
theorem dX8_dead_49 : decode cX8_dead 49 = .ok (.istore 5, 2) := by decide +kernel
theorem dX8_dead_51 : decode cX8_dead 51 = .ok (.aload_n 0, 1) := by decide +kernel
theorem dX8_dead_52 : decode cX8_dead 52 = .ok (.aload_n 0, 1) := by decide +kernel
theorem dX8_dead_53 : decode cX8_dead 53 = .ok (.getfield 74, 3) := by decide +kernel
theorem dX8_dead_56 : decode cX8_dead 56 = .ok (.iload 4, 2) := by decide +kernel
theorem dX8_dead_58 : decode cX8_dead 58 = .ok (.iaload, 1) := by decide +kernel
theorem dX8_dead_59 : decode cX8_dead 59 = .ok (.aload_n 0, 1) := by decide +kernel
theorem dX8_dead_60 : decode cX8_dead 60 = .ok (.getfield 77, 3) := by decide +kernel
theorem dX8_dead_63 : decode cX8_dead 63 = .ok (.iload 4, 2) := by decide +kernel
theorem dX8_dead_65 : decode cX8_dead 65 = .ok (.iaload, 1) := by decide +kernel
theorem dX8_dead_66 : decode cX8_dead 66 = .ok (.invokevirtual 225, 3) := by decide +kernel
theorem dX8_dead_69 : decode cX8_dead 69 = .ok (.iload_n 2, 1) := by decide +kernel
theorem dX8_dead_70 : decode cX8_dead 70 = .ok (.aload_n 0, 1) := by decide +kernel
theorem dX8_dead_71 : decode cX8_dead 71 = .ok (.getfield 83, 3) := by decide +kernel
theorem dX8_dead_74 : decode cX8_dead 74 = .ok (.iload 4, 2) := by decide +kernel
theorem dX8_dead_76 : decode cX8_dead 76 = .ok (.baload, 1) := by decide +kernel
theorem dX8_dead_77 : decode cX8_dead 77 = .ok (.ifCond .eq 8, 3) := by decide +kernel
theorem dX8_dead_80 : decode cX8_dead 80 = .ok (.iload 5, 2) := by decide +kernel
theorem dX8_dead_82 : decode cX8_dead 82 = .ok (.goto 4, 3) := by decide +kernel
theorem dX8_dead_85 : decode cX8_dead 85 = .ok (.iconst 0, 1) := by decide +kernel
theorem dX8_dead_86 : decode cX8_dead 86 = .ok (.ior, 1) := by decide +kernel
theorem dX8_dead_87 : decode cX8_dead 87 = .ok (.istore_n 2, 1) := by decide +kernel
theorem dX8_dead_88 : decode cX8_dead 88 = .ok (.iload_n 1, 1) := by decide +kernel
theorem dX8_dead_89 : decode cX8_dead 89 = .ok (.aload_n 0, 1) := by decide +kernel
theorem dX8_dead_90 : decode cX8_dead 90 = .ok (.getfield 83, 3) := by decide +kernel
theorem dX8_dead_93 : decode cX8_dead 93 = .ok (.iload 4, 2) := by decide +kernel
theorem dX8_dead_95 : decode cX8_dead 95 = .ok (.baload, 1) := by decide +kernel
theorem dX8_dead_96 : decode cX8_dead 96 = .ok (.ifCond .ne 23, 3) := by decide +kernel
theorem dX8_dead_99 : decode cX8_dead 99 = .ok (.aload_n 0, 1) := by decide +kernel
theorem dX8_dead_100 : decode cX8_dead 100 = .ok (.getfield 50, 3) := by decide +kernel
theorem dX8_dead_103 : decode cX8_dead 103 = .ok (.aload_n 0, 1) := by decide +kernel
theorem dX8_dead_104 : decode cX8_dead 104 = .ok (.getfield 80, 3) := by decide +kernel
theorem dX8_dead_107 : decode cX8_dead 107 = .ok (.iload 4, 2) := by decide +kernel
theorem dX8_dead_109 : decode cX8_dead 109 = .ok (.iaload, 1) := by decide +kernel
theorem dX8_dead_110 : decode cX8_dead 110 = .ok (.iaload, 1) := by decide +kernel
theorem dX8_dead_111 : decode cX8_dead 111 = .ok (.ifCond .le 8, 3) := by decide +kernel
theorem dX8_dead_114 : decode cX8_dead 114 = .ok (.iload 5, 2) := by decide +kernel
theorem dX8_dead_116 : decode cX8_dead 116 = .ok (.goto 4, 3) := by decide +kernel
theorem dX8_dead_119 : decode cX8_dead 119 = .ok (.iconst 0, 1) := by decide +kernel
theorem dX8_dead_120 : decode cX8_dead 120 = .ok (.ior, 1) := by decide +kernel
theorem dX8_dead_121 : decode cX8_dead 121 = .ok (.istore_n 1, 1) := by decide +kernel
theorem dX8_dead_122 : decode cX8_dead 122 = .ok (.iinc 4 1, 3) := by decide +kernel
theorem dX8_dead_125 : decode cX8_dead 125 = .ok (.goto (-94), 3) := by decide +kernel
theorem dX8_dead_128 : decode cX8_dead 128 = .ok (.aload_n 0, 1) := by decide +kernel
theorem dX8_dead_129 : decode cX8_dead 129 = .ok (.iconst 0, 1) := by decide +kernel
theorem dX8_dead_130 : decode cX8_dead 130 = .ok (.putfield 194, 3) := by decide +kernel
theorem dX8_dead_133 : decode cX8_dead 133 = .ok (.aload_n 0, 1) := by decide +kernel
theorem dX8_dead_134 : decode cX8_dead 134 = .ok (.iconst 0, 1) := by decide +kernel
theorem dX8_dead_135 : decode cX8_dead 135 = .ok (.putfield 217, 3) := by decide +kernel
theorem dX8_dead_138 : decode cX8_dead 138 = .ok (.aload_n 0, 1) := by decide +kernel
theorem dX8_dead_139 : decode cX8_dead 139 = .ok (.getfield 28, 3) := by decide +kernel
theorem dX8_dead_142 : decode cX8_dead 142 = .ok (.iconst 5, 1) := by decide +kernel
theorem dX8_dead_143 : decode cX8_dead 143 = .ok (.iload_n 3, 1) := by decide +kernel
theorem dX8_dead_144 : decode cX8_dead 144 = .ok (.iastore, 1) := by decide +kernel
theorem dX8_dead_145 : decode cX8_dead 145 = .ok (.iload_n 1, 1) := by decide +kernel
theorem dX8_dead_146 : decode cX8_dead 146 = .ok (.iload_n 2, 1) := by decide +kernel
theorem dX8_dead_147 : decode cX8_dead 147 = .ok (.iconst (-1), 1) := by decide +kernel
theorem dX8_dead_148 : decode cX8_dead 148 = .ok (.ixor, 1) := by decide +kernel
theorem dX8_dead_149 : decode cX8_dead 149 = .ok (.iand, 1) := by decide +kernel
theorem dX8_dead_150 : decode cX8_dead 150 = .ok (.ireturn, 1) := by decide +kernel
theorem dX8_kill_0 : decode cX8_kill 0 = .ok (.iload_n 1, 1) := by decide +kernel
theorem dX8_kill_1 : decode cX8_kill 1 = .ok (.invokestatic 220, 3) := by decide +kernel
theorem dX8_kill_4 : decode cX8_kill 4 = .ok (.ifCond .ne 5, 3) := by decide +kernel
theorem dX8_kill_7 : decode cX8_kill 7 = .ok (.iconst (-1), 1) := by decide +kernel
theorem dX8_kill_8 : decode cX8_kill 8 = .ok (.ireturn, 1) := by decide +kernel
theorem dX8_kill_9 : decode cX8_kill 9 = .ok (.aload_n 0, 1) := by decide +kernel
theorem dX8_kill_10 : decode cX8_kill 10 = .ok (.getfield 28, 3) := by decide +kernel
theorem dX8_kill_13 : decode cX8_kill 13 = .ok (.bipush 11, 2) := by decide +kernel
theorem dX8_kill_15 : decode cX8_kill 15 = .ok (.iaload, 1) := by decide +kernel
theorem dX8_kill_16 : decode cX8_kill 16 = .ok (.iload_n 1, 1) := by decide +kernel
theorem dX8_kill_17 : decode cX8_kill 17 = .ok (.ishr, 1) := by decide +kernel
theorem dX8_kill_18 : decode cX8_kill 18 = .ok (.iconst 1, 1) := by decide +kernel
theorem dX8_kill_19 : decode cX8_kill 19 = .ok (.iand, 1) := by decide +kernel
theorem dX8_kill_20 : decode cX8_kill 20 = .ok (.istore_n 3, 1) := by decide +kernel
theorem dX8_kill_21 : decode cX8_kill 21 = .ok (.aload_n 0, 1) := by decide +kernel
theorem dX8_kill_22 : decode cX8_kill 22 = .ok (.getfield 28, 3) := by decide +kernel
theorem dX8_kill_25 : decode cX8_kill 25 = .ok (.bipush 11, 2) := by decide +kernel
theorem dX8_kill_27 : decode cX8_kill 27 = .ok (.iload_n 2, 1) := by decide +kernel
theorem dX8_kill_28 : decode cX8_kill 28 = .ok (.ifCond .eq 17, 3) := by decide +kernel
theorem dX8_kill_31 : decode cX8_kill 31 = .ok (.aload_n 0, 1) := by decide +kernel
theorem dX8_kill_32 : decode cX8_kill 32 = .ok (.getfield 28, 3) := by decide +kernel
theorem dX8_kill_35 : decode cX8_kill 35 = .ok (.bipush 11, 2) := by decide +kernel
theorem dX8_kill_37 : decode cX8_kill 37 = .ok (.iaload, 1) := by decide +kernel
theorem dX8_kill_38 : decode cX8_kill 38 = .ok (.iconst 1, 1) := by decide +kernel
theorem dX8_kill_39 : decode cX8_kill 39 = .ok (.iload_n 1, 1) := by decide +kernel
theorem dX8_kill_40 : decode cX8_kill 40 = .ok (.ishl, 1) := by decide +kernel
theorem dX8_kill_41 : decode cX8_kill 41 = .ok (.ior, 1) := by decide +kernel
theorem dX8_kill_42 : decode cX8_kill 42 = .ok (.goto 16, 3) := by decide +kernel
theorem dX8_kill_45 : decode cX8_kill 45 = .ok (.aload_n 0, 1) := by decide +kernel
theorem dX8_kill_46 : decode cX8_kill 46 = .ok (.getfield 28, 3) := by decide +kernel
theorem dX8_kill_49 : decode cX8_kill 49 = .ok (.bipush 11, 2) := by decide +kernel
theorem dX8_kill_51 : decode cX8_kill 51 = .ok (.iaload, 1) := by decide +kernel
theorem dX8_kill_52 : decode cX8_kill 52 = .ok (.iconst 1, 1) := by decide +kernel
theorem dX8_kill_53 : decode cX8_kill 53 = .ok (.iload_n 1, 1) := by decide +kernel
theorem dX8_kill_54 : decode cX8_kill 54 = .ok (.ishl, 1) := by decide +kernel
theorem dX8_kill_55 : decode cX8_kill 55 = .ok (.iconst (-1), 1) := by decide +kernel
theorem dX8_kill_56 : decode cX8_kill 56 = .ok (.ixor, 1) := by decide +kernel
theorem dX8_kill_57 : decode cX8_kill 57 = .ok (.iand, 1) := by decide +kernel
theorem dX8_kill_58 : decode cX8_kill 58 = .ok (.iastore, 1) := by decide +kernel
theorem dX8_kill_59 : decode cX8_kill 59 = .ok (.iload_n 3, 1) := by decide +kernel
theorem dX8_kill_60 : decode cX8_kill 60 = .ok (.ireturn, 1) := by decide +kernel
theorem dX8_sheet_0 : decode cX8_sheet 0 = .ok (.iload_n 1, 1) := by decide +kernel
theorem dX8_sheet_1 : decode cX8_sheet 1 = .ok (.i2l, 1) := by decide +kernel
theorem dX8_sheet_2 : decode cX8_sheet 2 = .ok (.lconst 0, 1) := by decide +kernel
theorem dX8_sheet_3 : decode cX8_sheet 3 = .ok (.ldc2_w 223, 3) := by decide +kernel
theorem dX8_sheet_6 : decode cX8_sheet 6 = .ok (.invokestatic 99, 3) := by decide +kernel
theorem dX8_sheet_9 : decode cX8_sheet 9 = .ok (.ifCond .eq 21, 3) := by decide +kernel
theorem dX8_sheet_12 : decode cX8_sheet 12 = .ok (.iload_n 2, 1) := by decide +kernel
theorem dX8_sheet_13 : decode cX8_sheet 13 = .ok (.i2l, 1) := by decide +kernel
theorem dX8_sheet_14 : decode cX8_sheet 14 = .ok (.lconst 0, 1) := by decide +kernel
theorem dX8_sheet_15 : decode cX8_sheet 15 = .ok (.ldc2_w 228, 3) := by decide +kernel
theorem dX8_sheet_18 : decode cX8_sheet 18 = .ok (.invokestatic 99, 3) := by decide +kernel
theorem dX8_sheet_21 : decode cX8_sheet 21 = .ok (.ifCond .eq 9, 3) := by decide +kernel
theorem dX8_sheet_24 : decode cX8_sheet 24 = .ok (.iload_n 3, 1) := by decide +kernel
theorem dX8_sheet_25 : decode cX8_sheet 25 = .ok (.bipush 64, 2) := by decide +kernel
theorem dX8_sheet_27 : decode cX8_sheet 27 = .ok (.if_icmp .le 5, 3) := by decide +kernel
theorem dX8_sheet_30 : decode cX8_sheet 30 = .ok (.iconst (-1), 1) := by decide +kernel
theorem dX8_sheet_31 : decode cX8_sheet 31 = .ok (.ireturn, 1) := by decide +kernel
theorem dX8_sheet_32 : decode cX8_sheet 32 = .ok (.iload_n 3, 1) := by decide +kernel
theorem dX8_sheet_33 : decode cX8_sheet 33 = .ok (.ifCond .ge 6, 3) := by decide +kernel
theorem dX8_sheet_36 : decode cX8_sheet 36 = .ok (.bipush (-14), 2) := by decide +kernel
theorem dX8_sheet_38 : decode cX8_sheet 38 = .ok (.ireturn, 1) := by decide +kernel
theorem dX8_sheet_39 : decode cX8_sheet 39 = .ok (.aload_n 0, 1) := by decide +kernel
theorem dX8_sheet_40 : decode cX8_sheet 40 = .ok (.getfield 87, 3) := by decide +kernel
theorem dX8_sheet_43 : decode cX8_sheet 43 = .ok (.iload_n 1, 1) := by decide +kernel
theorem dX8_sheet_44 : decode cX8_sheet 44 = .ok (.iload_n 2, 1) := by decide +kernel
theorem dX8_sheet_45 : decode cX8_sheet 45 = .ok (.iastore, 1) := by decide +kernel
theorem dX8_sheet_46 : decode cX8_sheet 46 = .ok (.aload_n 0, 1) := by decide +kernel
theorem dX8_sheet_47 : decode cX8_sheet 47 = .ok (.getfield 90, 3) := by decide +kernel
theorem dX8_sheet_50 : decode cX8_sheet 50 = .ok (.iload_n 1, 1) := by decide +kernel
theorem dX8_sheet_51 : decode cX8_sheet 51 = .ok (.iload_n 3, 1) := by decide +kernel
theorem dX8_sheet_52 : decode cX8_sheet 52 = .ok (.iastore, 1) := by decide +kernel
theorem dX8_sheet_53 : decode cX8_sheet 53 = .ok (.iconst 0, 1) := by decide +kernel
theorem dX8_sheet_54 : decode cX8_sheet 54 = .ok (.istore 4, 2) := by decide +kernel
theorem dX8_sheet_56 : decode cX8_sheet 56 = .ok (.iload 4, 2) := by decide +kernel
theorem dX8_sheet_58 : decode cX8_sheet 58 = .ok (.bipush 64, 2) := by decide +kernel
theorem dX8_sheet_60 : decode cX8_sheet 60 = .ok (.if_icmp .ge 22, 3) := by decide +kernel
theorem dX8_sheet_63 : decode cX8_sheet 63 = .ok (.aload_n 0, 1) := by decide +kernel
theorem dX8_sheet_64 : decode cX8_sheet 64 = .ok (.getfield 93, 3) := by decide +kernel
theorem dX8_sheet_67 : decode cX8_sheet 67 = .ok (.bipush 64, 2) := by decide +kernel
theorem dX8_sheet_69 : decode cX8_sheet 69 = .ok (.iload_n 1, 1) := by decide +kernel
theorem dX8_sheet_70 : decode cX8_sheet 70 = .ok (.imul, 1) := by decide +kernel
theorem dX8_sheet_71 : decode cX8_sheet 71 = .ok (.iload 4, 2) := by decide +kernel
theorem dX8_sheet_73 : decode cX8_sheet 73 = .ok (.iadd, 1) := by decide +kernel
theorem dX8_sheet_74 : decode cX8_sheet 74 = .ok (.iconst 0, 1) := by decide +kernel
theorem dX8_sheet_75 : decode cX8_sheet 75 = .ok (.iastore, 1) := by decide +kernel
theorem dX8_sheet_76 : decode cX8_sheet 76 = .ok (.iinc 4 1, 3) := by decide +kernel
theorem dX8_sheet_79 : decode cX8_sheet 79 = .ok (.goto (-23), 3) := by decide +kernel
theorem dX8_sheet_82 : decode cX8_sheet 82 = .ok (.iconst 1, 1) := by decide +kernel
theorem dX8_sheet_83 : decode cX8_sheet 83 = .ok (.ireturn, 1) := by decide +kernel
theorem dX8_lay_0 : decode cX8_lay 0 = .ok (.iload_n 1, 1) := by decide +kernel
theorem dX8_lay_1 : decode cX8_lay 1 = .ok (.i2l, 1) := by decide +kernel
theorem dX8_lay_2 : decode cX8_lay 2 = .ok (.lconst 0, 1) := by decide +kernel
theorem dX8_lay_3 : decode cX8_lay 3 = .ok (.ldc2_w 223, 3) := by decide +kernel
theorem dX8_lay_6 : decode cX8_lay 6 = .ok (.invokestatic 99, 3) := by decide +kernel
theorem dX8_lay_9 : decode cX8_lay 9 = .ok (.ifCond .ne 5, 3) := by decide +kernel
theorem dX8_lay_12 : decode cX8_lay 12 = .ok (.iconst (-1), 1) := by decide +kernel
theorem dX8_lay_13 : decode cX8_lay 13 = .ok (.ireturn, 1) := by decide +kernel
theorem dX8_lay_14 : decode cX8_lay 14 = .ok (.aload_n 0, 1) := by decide +kernel
theorem dX8_lay_15 : decode cX8_lay 15 = .ok (.getfield 87, 3) := by decide +kernel
theorem dX8_lay_18 : decode cX8_lay 18 = .ok (.iload_n 1, 1) := by decide +kernel
theorem dX8_lay_19 : decode cX8_lay 19 = .ok (.iaload, 1) := by decide +kernel
theorem dX8_lay_20 : decode cX8_lay 20 = .ok (.bipush (-4), 2) := by decide +kernel
theorem dX8_lay_22 : decode cX8_lay 22 = .ok (.if_icmp .ne 6, 3) := by decide +kernel
theorem dX8_lay_25 : decode cX8_lay 25 = .ok (.bipush (-11), 2) := by decide +kernel
theorem dX8_lay_27 : decode cX8_lay 27 = .ok (.ireturn, 1) := by decide +kernel
theorem dX8_lay_28 : decode cX8_lay 28 = .ok (.iload_n 2, 1) := by decide +kernel
theorem dX8_lay_29 : decode cX8_lay 29 = .ok (.i2l, 1) := by decide +kernel
theorem dX8_lay_30 : decode cX8_lay 30 = .ok (.lconst 0, 1) := by decide +kernel
theorem dX8_lay_31 : decode cX8_lay 31 = .ok (.aload_n 0, 1) := by decide +kernel
theorem dX8_lay_32 : decode cX8_lay 32 = .ok (.getfield 90, 3) := by decide +kernel
theorem dX8_lay_35 : decode cX8_lay 35 = .ok (.iload_n 1, 1) := by decide +kernel
theorem dX8_lay_36 : decode cX8_lay 36 = .ok (.iaload, 1) := by decide +kernel
theorem dX8_lay_37 : decode cX8_lay 37 = .ok (.iconst 1, 1) := by decide +kernel
theorem dX8_lay_38 : decode cX8_lay 38 = .ok (.isub, 1) := by decide +kernel
theorem dX8_lay_39 : decode cX8_lay 39 = .ok (.i2l, 1) := by decide +kernel
theorem dX8_lay_40 : decode cX8_lay 40 = .ok (.invokestatic 99, 3) := by decide +kernel
theorem dX8_lay_43 : decode cX8_lay 43 = .ok (.ifCond .ne 6, 3) := by decide +kernel
theorem dX8_lay_46 : decode cX8_lay 46 = .ok (.bipush (-12), 2) := by decide +kernel
theorem dX8_lay_48 : decode cX8_lay 48 = .ok (.ireturn, 1) := by decide +kernel
theorem dX8_lay_49 : decode cX8_lay 49 = .ok (.aload_n 0, 1) := by decide +kernel
theorem dX8_lay_50 : decode cX8_lay 50 = .ok (.getfield 93, 3) := by decide +kernel
theorem dX8_lay_53 : decode cX8_lay 53 = .ok (.bipush 64, 2) := by decide +kernel
theorem dX8_lay_55 : decode cX8_lay 55 = .ok (.iload_n 1, 1) := by decide +kernel
theorem dX8_lay_56 : decode cX8_lay 56 = .ok (.imul, 1) := by decide +kernel
theorem dX8_lay_57 : decode cX8_lay 57 = .ok (.iload_n 2, 1) := by decide +kernel
theorem dX8_lay_58 : decode cX8_lay 58 = .ok (.iadd, 1) := by decide +kernel
theorem dX8_lay_59 : decode cX8_lay 59 = .ok (.aload_n 0, 1) := by decide +kernel
theorem dX8_lay_60 : decode cX8_lay 60 = .ok (.getfield 87, 3) := by decide +kernel
theorem dX8_lay_63 : decode cX8_lay 63 = .ok (.iload_n 1, 1) := by decide +kernel
theorem dX8_lay_64 : decode cX8_lay 64 = .ok (.iaload, 1) := by decide +kernel
theorem dX8_lay_65 : decode cX8_lay 65 = .ok (.ifCond .ne 13, 3) := by decide +kernel
theorem dX8_lay_68 : decode cX8_lay 68 = .ok (.iload_n 3, 1) := by decide +kernel
theorem dX8_lay_69 : decode cX8_lay 69 = .ok (.bipush 24, 2) := by decide +kernel
theorem dX8_lay_71 : decode cX8_lay 71 = .ok (.ishl, 1) := by decide +kernel
theorem dX8_lay_72 : decode cX8_lay 72 = .ok (.bipush 24, 2) := by decide +kernel
theorem dX8_lay_74 : decode cX8_lay 74 = .ok (.ishr, 1) := by decide +kernel
theorem dX8_lay_75 : decode cX8_lay 75 = .ok (.goto 24, 3) := by decide +kernel
theorem dX8_lay_78 : decode cX8_lay 78 = .ok (.aload_n 0, 1) := by decide +kernel
theorem dX8_lay_79 : decode cX8_lay 79 = .ok (.getfield 87, 3) := by decide +kernel
theorem dX8_lay_82 : decode cX8_lay 82 = .ok (.iload_n 1, 1) := by decide +kernel
theorem dX8_lay_83 : decode cX8_lay 83 = .ok (.iaload, 1) := by decide +kernel
theorem dX8_lay_84 : decode cX8_lay 84 = .ok (.iconst 1, 1) := by decide +kernel
theorem dX8_lay_85 : decode cX8_lay 85 = .ok (.if_icmp .ne 13, 3) := by decide +kernel
theorem dX8_lay_88 : decode cX8_lay 88 = .ok (.iload_n 3, 1) := by decide +kernel
theorem dX8_lay_89 : decode cX8_lay 89 = .ok (.bipush 16, 2) := by decide +kernel
theorem dX8_lay_91 : decode cX8_lay 91 = .ok (.ishl, 1) := by decide +kernel
theorem dX8_lay_92 : decode cX8_lay 92 = .ok (.bipush 16, 2) := by decide +kernel
theorem dX8_lay_94 : decode cX8_lay 94 = .ok (.ishr, 1) := by decide +kernel
theorem dX8_lay_95 : decode cX8_lay 95 = .ok (.goto 4, 3) := by decide +kernel
theorem dX8_lay_98 : decode cX8_lay 98 = .ok (.iload_n 3, 1) := by decide +kernel
theorem dX8_lay_99 : decode cX8_lay 99 = .ok (.iastore, 1) := by decide +kernel
theorem dX8_lay_100 : decode cX8_lay 100 = .ok (.iconst 1, 1) := by decide +kernel
theorem dX8_lay_101 : decode cX8_lay 101 = .ok (.ireturn, 1) := by decide +kernel
theorem dX8_read_0 : decode cX8_read 0 = .ok (.iload_n 1, 1) := by decide +kernel
theorem dX8_read_1 : decode cX8_read 1 = .ok (.invokestatic 172, 3) := by decide +kernel
theorem dX8_read_4 : decode cX8_read 4 = .ok (.ifCond .eq 51, 3) := by decide +kernel
theorem dX8_read_7 : decode cX8_read 7 = .ok (.iload_n 2, 1) := by decide +kernel
theorem dX8_read_8 : decode cX8_read 8 = .ok (.i2l, 1) := by decide +kernel
theorem dX8_read_9 : decode cX8_read 9 = .ok (.lconst 0, 1) := by decide +kernel
theorem dX8_read_10 : decode cX8_read 10 = .ok (.ldc2_w 223, 3) := by decide +kernel
theorem dX8_read_13 : decode cX8_read 13 = .ok (.invokestatic 99, 3) := by decide +kernel
theorem dX8_read_16 : decode cX8_read 16 = .ok (.ifCond .eq 39, 3) := by decide +kernel
theorem dX8_read_19 : decode cX8_read 19 = .ok (.iload_n 3, 1) := by decide +kernel
theorem dX8_read_20 : decode cX8_read 20 = .ok (.i2l, 1) := by decide +kernel
theorem dX8_read_21 : decode cX8_read 21 = .ok (.lconst 0, 1) := by decide +kernel
theorem dX8_read_22 : decode cX8_read 22 = .ok (.ldc2_w 228, 3) := by decide +kernel
theorem dX8_read_25 : decode cX8_read 25 = .ok (.invokestatic 99, 3) := by decide +kernel
theorem dX8_read_28 : decode cX8_read 28 = .ok (.ifCond .eq 27, 3) := by decide +kernel
theorem dX8_read_31 : decode cX8_read 31 = .ok (.iload 6, 2) := by decide +kernel
theorem dX8_read_33 : decode cX8_read 33 = .ok (.ifCond .lt 22, 3) := by decide +kernel
theorem dX8_read_36 : decode cX8_read 36 = .ok (.iload 5, 2) := by decide +kernel
theorem dX8_read_38 : decode cX8_read 38 = .ok (.ifCond .lt 17, 3) := by decide +kernel
theorem dX8_read_41 : decode cX8_read 41 = .ok (.iload 5, 2) := by decide +kernel
theorem dX8_read_43 : decode cX8_read 43 = .ok (.i2l, 1) := by decide +kernel
theorem dX8_read_44 : decode cX8_read 44 = .ok (.iload 6, 2) := by decide +kernel
theorem dX8_read_46 : decode cX8_read 46 = .ok (.i2l, 1) := by decide +kernel
theorem dX8_read_47 : decode cX8_read 47 = .ok (.ladd, 1) := by decide +kernel
theorem dX8_read_48 : decode cX8_read 48 = .ok (.ldc2_w 291, 3) := by decide +kernel
theorem dX8_read_51 : decode cX8_read 51 = .ok (.lcmp, 1) := by decide +kernel
theorem dX8_read_52 : decode cX8_read 52 = .ok (.ifCond .le 5, 3) := by decide +kernel
theorem dX8_read_55 : decode cX8_read 55 = .ok (.iconst (-1), 1) := by decide +kernel
theorem dX8_read_56 : decode cX8_read 56 = .ok (.ireturn, 1) := by decide +kernel
theorem dX8_read_57 : decode cX8_read 57 = .ok (.iconst 0, 1) := by decide +kernel
theorem dX8_read_58 : decode cX8_read 58 = .ok (.istore 7, 2) := by decide +kernel
theorem dX8_read_60 : decode cX8_read 60 = .ok (.iconst 0, 1) := by decide +kernel
theorem dX8_read_61 : decode cX8_read 61 = .ok (.istore 8, 2) := by decide +kernel
theorem dX8_read_63 : decode cX8_read 63 = .ok (.iconst 0, 1) := by decide +kernel
theorem dX8_read_64 : decode cX8_read 64 = .ok (.istore 9, 2) := by decide +kernel
theorem dX8_read_66 : decode cX8_read 66 = .ok (.iload 9, 2) := by decide +kernel
theorem dX8_read_68 : decode cX8_read 68 = .ok (.iload 6, 2) := by decide +kernel
theorem dX8_read_70 : decode cX8_read 70 = .ok (.if_icmp .ge 125, 3) := by decide +kernel
theorem dX8_read_73 : decode cX8_read 73 = .ok (.iload 7, 2) := by decide +kernel
theorem dX8_read_75 : decode cX8_read 75 = .ok (.ifCond .ne 120, 3) := by decide +kernel
theorem dX8_read_78 : decode cX8_read 78 = .ok (.aload_n 0, 1) := by decide +kernel
theorem dX8_read_79 : decode cX8_read 79 = .ok (.getfield 87, 3) := by decide +kernel
theorem dX8_read_82 : decode cX8_read 82 = .ok (.iload_n 2, 1) := by decide +kernel
theorem dX8_read_83 : decode cX8_read 83 = .ok (.iaload, 1) := by decide +kernel
theorem dX8_read_84 : decode cX8_read 84 = .ok (.bipush (-4), 2) := by decide +kernel
theorem dX8_read_86 : decode cX8_read 86 = .ok (.if_icmp .ne 7, 3) := by decide +kernel
theorem dX8_read_89 : decode cX8_read 89 = .ok (.iconst 1, 1) := by decide +kernel
theorem dX8_read_90 : decode cX8_read 90 = .ok (.goto 45, 3) := by decide +kernel
theorem dX8_read_93 : decode cX8_read 93 = .ok (.aload_n 0, 1) := by decide +kernel
theorem dX8_read_94 : decode cX8_read 94 = .ok (.getfield 87, 3) := by decide +kernel
theorem dX8_read_97 : decode cX8_read 97 = .ok (.iload_n 2, 1) := by decide +kernel
theorem dX8_read_98 : decode cX8_read 98 = .ok (.iaload, 1) := by decide +kernel
theorem dX8_read_99 : decode cX8_read 99 = .ok (.iload_n 3, 1) := by decide +kernel
theorem dX8_read_100 : decode cX8_read 100 = .ok (.if_icmp .eq 7, 3) := by decide +kernel
theorem dX8_read_103 : decode cX8_read 103 = .ok (.iconst 3, 1) := by decide +kernel
theorem dX8_read_104 : decode cX8_read 104 = .ok (.goto 31, 3) := by decide +kernel
theorem dX8_read_107 : decode cX8_read 107 = .ok (.iload 4, 2) := by decide +kernel
theorem dX8_read_109 : decode cX8_read 109 = .ok (.i2l, 1) := by decide +kernel
theorem dX8_read_110 : decode cX8_read 110 = .ok (.iload 9, 2) := by decide +kernel
theorem dX8_read_112 : decode cX8_read 112 = .ok (.i2l, 1) := by decide +kernel
theorem dX8_read_113 : decode cX8_read 113 = .ok (.ladd, 1) := by decide +kernel
theorem dX8_read_114 : decode cX8_read 114 = .ok (.lconst 0, 1) := by decide +kernel
theorem dX8_read_115 : decode cX8_read 115 = .ok (.aload_n 0, 1) := by decide +kernel
theorem dX8_read_116 : decode cX8_read 116 = .ok (.getfield 90, 3) := by decide +kernel
theorem dX8_read_119 : decode cX8_read 119 = .ok (.iload_n 2, 1) := by decide +kernel
theorem dX8_read_120 : decode cX8_read 120 = .ok (.iaload, 1) := by decide +kernel
theorem dX8_read_121 : decode cX8_read 121 = .ok (.iconst 1, 1) := by decide +kernel
theorem dX8_read_122 : decode cX8_read 122 = .ok (.isub, 1) := by decide +kernel
theorem dX8_read_123 : decode cX8_read 123 = .ok (.i2l, 1) := by decide +kernel
theorem dX8_read_124 : decode cX8_read 124 = .ok (.invokestatic 99, 3) := by decide +kernel
theorem dX8_read_127 : decode cX8_read 127 = .ok (.ifCond .ne 7, 3) := by decide +kernel
theorem dX8_read_130 : decode cX8_read 130 = .ok (.iconst 2, 1) := by decide +kernel
theorem dX8_read_131 : decode cX8_read 131 = .ok (.goto 4, 3) := by decide +kernel
theorem dX8_read_134 : decode cX8_read 134 = .ok (.iconst 0, 1) := by decide +kernel
theorem dX8_read_135 : decode cX8_read 135 = .ok (.istore 7, 2) := by decide +kernel
theorem dX8_read_137 : decode cX8_read 137 = .ok (.iload 7, 2) := by decide +kernel
theorem dX8_read_139 : decode cX8_read 139 = .ok (.ifCond .ne 35, 3) := by decide +kernel
theorem dX8_read_142 : decode cX8_read 142 = .ok (.aload_n 0, 1) := by decide +kernel
theorem dX8_read_143 : decode cX8_read 143 = .ok (.getfield 93, 3) := by decide +kernel
theorem dX8_read_146 : decode cX8_read 146 = .ok (.bipush 64, 2) := by decide +kernel
theorem dX8_read_148 : decode cX8_read 148 = .ok (.iload_n 2, 1) := by decide +kernel
theorem dX8_read_149 : decode cX8_read 149 = .ok (.imul, 1) := by decide +kernel
theorem dX8_read_150 : decode cX8_read 150 = .ok (.iload 4, 2) := by decide +kernel
theorem dX8_read_152 : decode cX8_read 152 = .ok (.iadd, 1) := by decide +kernel
theorem dX8_read_153 : decode cX8_read 153 = .ok (.iload 9, 2) := by decide +kernel
theorem dX8_read_155 : decode cX8_read 155 = .ok (.iadd, 1) := by decide +kernel
theorem dX8_read_156 : decode cX8_read 156 = .ok (.iaload, 1) := by decide +kernel
theorem dX8_read_157 : decode cX8_read 157 = .ok (.i2l, 1) := by decide +kernel
theorem dX8_read_158 : decode cX8_read 158 = .ok (.lconst 0, 1) := by decide +kernel
theorem dX8_read_159 : decode cX8_read 159 = .ok (.ldc2_w 178, 3) := by decide +kernel
theorem dX8_read_162 : decode cX8_read 162 = .ok (.invokestatic 99, 3) := by decide +kernel
theorem dX8_read_165 : decode cX8_read 165 = .ok (.ifCond .ne 9, 3) := by decide +kernel
theorem dX8_read_168 : decode cX8_read 168 = .ok (.bipush (-20), 2) := by decide +kernel
theorem dX8_read_170 : decode cX8_read 170 = .ok (.iload 9, 2) := by decide +kernel
theorem dX8_read_172 : decode cX8_read 172 = .ok (.isub, 1) := by decide +kernel
theorem dX8_read_173 : decode cX8_read 173 = .ok (.ireturn, 1) := by decide +kernel
theorem dX8_read_174 : decode cX8_read 174 = .ok (.iload 8, 2) := by decide +kernel
theorem dX8_read_176 : decode cX8_read 176 = .ok (.iload 7, 2) := by decide +kernel
theorem dX8_read_178 : decode cX8_read 178 = .ok (.ifCond .ne 7, 3) := by decide +kernel
theorem dX8_read_181 : decode cX8_read 181 = .ok (.iconst 1, 1) := by decide +kernel
theorem dX8_read_182 : decode cX8_read 182 = .ok (.goto 4, 3) := by decide +kernel
theorem dX8_read_185 : decode cX8_read 185 = .ok (.iconst 0, 1) := by decide +kernel
theorem dX8_read_186 : decode cX8_read 186 = .ok (.iadd, 1) := by decide +kernel
theorem dX8_read_187 : decode cX8_read 187 = .ok (.istore 8, 2) := by decide +kernel
theorem dX8_read_189 : decode cX8_read 189 = .ok (.iinc 9 1, 3) := by decide +kernel
theorem dX8_read_192 : decode cX8_read 192 = .ok (.goto (-126), 3) := by decide +kernel
theorem dX8_read_195 : decode cX8_read 195 = .ok (.iconst 0, 1) := by decide +kernel
theorem dX8_read_196 : decode cX8_read 196 = .ok (.istore 9, 2) := by decide +kernel
theorem dX8_read_198 : decode cX8_read 198 = .ok (.iload 9, 2) := by decide +kernel
theorem dX8_read_200 : decode cX8_read 200 = .ok (.iload 6, 2) := by decide +kernel
theorem dX8_read_202 : decode cX8_read 202 = .ok (.if_icmp .ge 50, 3) := by decide +kernel
theorem dX8_read_205 : decode cX8_read 205 = .ok (.aload_n 0, 1) := by decide +kernel
theorem dX8_read_206 : decode cX8_read 206 = .ok (.getfield 34, 3) := by decide +kernel
theorem dX8_read_209 : decode cX8_read 209 = .ok (.bipush 64, 2) := by decide +kernel
theorem dX8_read_211 : decode cX8_read 211 = .ok (.iload_n 1, 1) := by decide +kernel
theorem dX8_read_212 : decode cX8_read 212 = .ok (.imul, 1) := by decide +kernel
theorem dX8_read_213 : decode cX8_read 213 = .ok (.iload 5, 2) := by decide +kernel
theorem dX8_read_215 : decode cX8_read 215 = .ok (.iadd, 1) := by decide +kernel
theorem dX8_read_216 : decode cX8_read 216 = .ok (.iload 9, 2) := by decide +kernel
theorem dX8_read_218 : decode cX8_read 218 = .ok (.iadd, 1) := by decide +kernel
theorem dX8_read_219 : decode cX8_read 219 = .ok (.iload 9, 2) := by decide +kernel
theorem dX8_read_221 : decode cX8_read 221 = .ok (.iload 8, 2) := by decide +kernel
theorem dX8_read_223 : decode cX8_read 223 = .ok (.if_icmp .ge 21, 3) := by decide +kernel
theorem dX8_read_226 : decode cX8_read 226 = .ok (.aload_n 0, 1) := by decide +kernel
theorem dX8_read_227 : decode cX8_read 227 = .ok (.getfield 93, 3) := by decide +kernel
theorem dX8_read_230 : decode cX8_read 230 = .ok (.bipush 64, 2) := by decide +kernel
theorem dX8_read_232 : decode cX8_read 232 = .ok (.iload_n 2, 1) := by decide +kernel
theorem dX8_read_233 : decode cX8_read 233 = .ok (.imul, 1) := by decide +kernel
theorem dX8_read_234 : decode cX8_read 234 = .ok (.iload 4, 2) := by decide +kernel
theorem dX8_read_236 : decode cX8_read 236 = .ok (.iadd, 1) := by decide +kernel
theorem dX8_read_237 : decode cX8_read 237 = .ok (.iload 9, 2) := by decide +kernel
theorem dX8_read_239 : decode cX8_read 239 = .ok (.iadd, 1) := by decide +kernel
theorem dX8_read_240 : decode cX8_read 240 = .ok (.iaload, 1) := by decide +kernel
theorem dX8_read_241 : decode cX8_read 241 = .ok (.goto 4, 3) := by decide +kernel
theorem dX8_read_244 : decode cX8_read 244 = .ok (.iconst 0, 1) := by decide +kernel
theorem dX8_read_245 : decode cX8_read 245 = .ok (.iastore, 1) := by decide +kernel
theorem dX8_read_246 : decode cX8_read 246 = .ok (.iinc 9 1, 3) := by decide +kernel
theorem dX8_read_249 : decode cX8_read 249 = .ok (.goto (-51), 3) := by decide +kernel
theorem dX8_read_252 : decode cX8_read 252 = .ok (.aload_n 0, 1) := by decide +kernel
theorem dX8_read_253 : decode cX8_read 253 = .ok (.iload 7, 2) := by decide +kernel
theorem dX8_read_255 : decode cX8_read 255 = .ok (.putfield 293, 3) := by decide +kernel
theorem dX8_read_258 : decode cX8_read 258 = .ok (.iload 8, 2) := by decide +kernel
theorem dX8_read_260 : decode cX8_read 260 = .ok (.ireturn, 1) := by decide +kernel
theorem dX8_torn_0 : decode cX8_torn 0 = .ok (.aload_n 0, 1) := by decide +kernel
theorem dX8_torn_1 : decode cX8_torn 1 = .ok (.getfield 293, 3) := by decide +kernel
theorem dX8_torn_4 : decode cX8_torn 4 = .ok (.ireturn, 1) := by decide +kernel
theorem dX8_count_0 : decode cX8_count 0 = .ok (.iconst 0, 1) := by decide +kernel
theorem dX8_count_1 : decode cX8_count 1 = .ok (.istore_n 2, 1) := by decide +kernel
theorem dX8_count_2 : decode cX8_count 2 = .ok (.iconst 0, 1) := by decide +kernel
theorem dX8_count_3 : decode cX8_count 3 = .ok (.istore_n 3, 1) := by decide +kernel
theorem dX8_count_4 : decode cX8_count 4 = .ok (.iload_n 3, 1) := by decide +kernel
theorem dX8_count_5 : decode cX8_count 5 = .ok (.sipush 384, 3) := by decide +kernel
theorem dX8_count_8 : decode cX8_count 8 = .ok (.if_icmp .ge 26, 3) := by decide +kernel
theorem dX8_count_11 : decode cX8_count 11 = .ok (.iload_n 2, 1) := by decide +kernel
theorem dX8_count_12 : decode cX8_count 12 = .ok (.aload_n 0, 1) := by decide +kernel
theorem dX8_count_13 : decode cX8_count 13 = .ok (.getfield 34, 3) := by decide +kernel
theorem dX8_count_16 : decode cX8_count 16 = .ok (.iload_n 3, 1) := by decide +kernel
theorem dX8_count_17 : decode cX8_count 17 = .ok (.iaload, 1) := by decide +kernel
theorem dX8_count_18 : decode cX8_count 18 = .ok (.ifCond .le 7, 3) := by decide +kernel
theorem dX8_count_21 : decode cX8_count 21 = .ok (.iconst 1, 1) := by decide +kernel
theorem dX8_count_22 : decode cX8_count 22 = .ok (.goto 4, 3) := by decide +kernel
theorem dX8_count_25 : decode cX8_count 25 = .ok (.iconst 0, 1) := by decide +kernel
theorem dX8_count_26 : decode cX8_count 26 = .ok (.iadd, 1) := by decide +kernel
theorem dX8_count_27 : decode cX8_count 27 = .ok (.istore_n 2, 1) := by decide +kernel
theorem dX8_count_28 : decode cX8_count 28 = .ok (.iinc 3 1, 3) := by decide +kernel
theorem dX8_count_31 : decode cX8_count 31 = .ok (.goto (-27), 3) := by decide +kernel
theorem dX8_count_34 : decode cX8_count 34 = .ok (.iload_n 1, 1) := by decide +kernel
theorem dX8_count_35 : decode cX8_count 35 = .ok (.tableswitch 100 0 6 #[41, 46, 57, 65, 70, 72, 77], 41) := by decide +kernel
theorem dX8_count_76 : decode cX8_count 76 = .ok (.aload_n 0, 1) := by decide +kernel
theorem dX8_count_77 : decode cX8_count 77 = .ok (.getfield 37, 3) := by decide +kernel
theorem dX8_count_80 : decode cX8_count 80 = .ok (.ireturn, 1) := by decide +kernel
theorem dX8_count_81 : decode cX8_count 81 = .ok (.aload_n 0, 1) := by decide +kernel
theorem dX8_count_82 : decode cX8_count 82 = .ok (.getfield 28, 3) := by decide +kernel
theorem dX8_count_85 : decode cX8_count 85 = .ok (.bipush 11, 2) := by decide +kernel
theorem dX8_count_87 : decode cX8_count 87 = .ok (.iaload, 1) := by decide +kernel
theorem dX8_count_88 : decode cX8_count 88 = .ok (.invokestatic 262, 3) := by decide +kernel
theorem dX8_count_91 : decode cX8_count 91 = .ok (.ireturn, 1) := by decide +kernel
theorem dX8_count_92 : decode cX8_count 92 = .ok (.aload_n 0, 1) := by decide +kernel
theorem dX8_count_93 : decode cX8_count 93 = .ok (.invokevirtual 240, 3) := by decide +kernel
theorem dX8_count_96 : decode cX8_count 96 = .ok (.invokestatic 262, 3) := by decide +kernel
theorem dX8_count_99 : decode cX8_count 99 = .ok (.ireturn, 1) := by decide +kernel
theorem dX8_count_100 : decode cX8_count 100 = .ok (.aload_n 0, 1) := by decide +kernel
theorem dX8_count_101 : decode cX8_count 101 = .ok (.getfield 288, 3) := by decide +kernel
theorem dX8_count_104 : decode cX8_count 104 = .ok (.ireturn, 1) := by decide +kernel
theorem dX8_count_105 : decode cX8_count 105 = .ok (.iload_n 2, 1) := by decide +kernel
theorem dX8_count_106 : decode cX8_count 106 = .ok (.ireturn, 1) := by decide +kernel
theorem dX8_count_107 : decode cX8_count 107 = .ok (.aload_n 0, 1) := by decide +kernel
theorem dX8_count_108 : decode cX8_count 108 = .ok (.getfield 96, 3) := by decide +kernel
theorem dX8_count_111 : decode cX8_count 111 = .ok (.ireturn, 1) := by decide +kernel
theorem dX8_count_112 : decode cX8_count 112 = .ok (.aload_n 0, 1) := by decide +kernel
theorem dX8_count_113 : decode cX8_count 113 = .ok (.getfield 87, 3) := by decide +kernel
theorem dX8_count_116 : decode cX8_count 116 = .ok (.iconst 0, 1) := by decide +kernel
theorem dX8_count_117 : decode cX8_count 117 = .ok (.iaload, 1) := by decide +kernel
theorem dX8_count_118 : decode cX8_count 118 = .ok (.bipush (-4), 2) := by decide +kernel
theorem dX8_count_120 : decode cX8_count 120 = .ok (.if_icmp .ne 8, 3) := by decide +kernel
theorem dX8_count_123 : decode cX8_count 123 = .ok (.bipush (-4), 2) := by decide +kernel
theorem dX8_count_125 : decode cX8_count 125 = .ok (.goto 9, 3) := by decide +kernel
theorem dX8_count_128 : decode cX8_count 128 = .ok (.aload_n 0, 1) := by decide +kernel
theorem dX8_count_129 : decode cX8_count 129 = .ok (.getfield 90, 3) := by decide +kernel
theorem dX8_count_132 : decode cX8_count 132 = .ok (.iconst 0, 1) := by decide +kernel
theorem dX8_count_133 : decode cX8_count 133 = .ok (.iaload, 1) := by decide +kernel
theorem dX8_count_134 : decode cX8_count 134 = .ok (.ireturn, 1) := by decide +kernel
theorem dX8_count_135 : decode cX8_count 135 = .ok (.iconst (-1), 1) := by decide +kernel
theorem dX8_count_136 : decode cX8_count 136 = .ok (.ireturn, 1) := by decide +kernel
theorem dJ6_bitCount_0f7a4_0 : decode cJ6_bitCount_0f7a4 0 = .ok (.iload_n 0, 1) := by decide +kernel
theorem dJ6_bitCount_0f7a4_1 : decode cJ6_bitCount_0f7a4 1 = .ok (.iload_n 0, 1) := by decide +kernel
theorem dJ6_bitCount_0f7a4_2 : decode cJ6_bitCount_0f7a4 2 = .ok (.iconst 1, 1) := by decide +kernel
theorem dJ6_bitCount_0f7a4_3 : decode cJ6_bitCount_0f7a4 3 = .ok (.iushr, 1) := by decide +kernel
theorem dJ6_bitCount_0f7a4_4 : decode cJ6_bitCount_0f7a4 4 = .ok (.ldc_w 265, 3) := by decide +kernel
theorem dJ6_bitCount_0f7a4_7 : decode cJ6_bitCount_0f7a4 7 = .ok (.iand, 1) := by decide +kernel
theorem dJ6_bitCount_0f7a4_8 : decode cJ6_bitCount_0f7a4 8 = .ok (.isub, 1) := by decide +kernel
theorem dJ6_bitCount_0f7a4_9 : decode cJ6_bitCount_0f7a4 9 = .ok (.istore_n 0, 1) := by decide +kernel
theorem dJ6_bitCount_0f7a4_10 : decode cJ6_bitCount_0f7a4 10 = .ok (.iload_n 0, 1) := by decide +kernel
theorem dJ6_bitCount_0f7a4_11 : decode cJ6_bitCount_0f7a4 11 = .ok (.ldc_w 266, 3) := by decide +kernel
theorem dJ6_bitCount_0f7a4_14 : decode cJ6_bitCount_0f7a4 14 = .ok (.iand, 1) := by decide +kernel
theorem dJ6_bitCount_0f7a4_15 : decode cJ6_bitCount_0f7a4 15 = .ok (.iload_n 0, 1) := by decide +kernel
theorem dJ6_bitCount_0f7a4_16 : decode cJ6_bitCount_0f7a4 16 = .ok (.iconst 2, 1) := by decide +kernel
theorem dJ6_bitCount_0f7a4_17 : decode cJ6_bitCount_0f7a4 17 = .ok (.iushr, 1) := by decide +kernel
theorem dJ6_bitCount_0f7a4_18 : decode cJ6_bitCount_0f7a4 18 = .ok (.ldc_w 266, 3) := by decide +kernel
theorem dJ6_bitCount_0f7a4_21 : decode cJ6_bitCount_0f7a4 21 = .ok (.iand, 1) := by decide +kernel
theorem dJ6_bitCount_0f7a4_22 : decode cJ6_bitCount_0f7a4 22 = .ok (.iadd, 1) := by decide +kernel
theorem dJ6_bitCount_0f7a4_23 : decode cJ6_bitCount_0f7a4 23 = .ok (.istore_n 0, 1) := by decide +kernel
theorem dJ6_bitCount_0f7a4_24 : decode cJ6_bitCount_0f7a4 24 = .ok (.iload_n 0, 1) := by decide +kernel
theorem dJ6_bitCount_0f7a4_25 : decode cJ6_bitCount_0f7a4 25 = .ok (.iload_n 0, 1) := by decide +kernel
theorem dJ6_bitCount_0f7a4_26 : decode cJ6_bitCount_0f7a4 26 = .ok (.iconst 4, 1) := by decide +kernel
theorem dJ6_bitCount_0f7a4_27 : decode cJ6_bitCount_0f7a4 27 = .ok (.iushr, 1) := by decide +kernel
theorem dJ6_bitCount_0f7a4_28 : decode cJ6_bitCount_0f7a4 28 = .ok (.iadd, 1) := by decide +kernel
theorem dJ6_bitCount_0f7a4_29 : decode cJ6_bitCount_0f7a4 29 = .ok (.ldc_w 267, 3) := by decide +kernel
theorem dJ6_bitCount_0f7a4_32 : decode cJ6_bitCount_0f7a4 32 = .ok (.iand, 1) := by decide +kernel
theorem dJ6_bitCount_0f7a4_33 : decode cJ6_bitCount_0f7a4 33 = .ok (.istore_n 0, 1) := by decide +kernel
theorem dJ6_bitCount_0f7a4_34 : decode cJ6_bitCount_0f7a4 34 = .ok (.iload_n 0, 1) := by decide +kernel
theorem dJ6_bitCount_0f7a4_35 : decode cJ6_bitCount_0f7a4 35 = .ok (.iload_n 0, 1) := by decide +kernel
theorem dJ6_bitCount_0f7a4_36 : decode cJ6_bitCount_0f7a4 36 = .ok (.bipush 8, 2) := by decide +kernel
theorem dJ6_bitCount_0f7a4_38 : decode cJ6_bitCount_0f7a4 38 = .ok (.iushr, 1) := by decide +kernel
theorem dJ6_bitCount_0f7a4_39 : decode cJ6_bitCount_0f7a4 39 = .ok (.iadd, 1) := by decide +kernel
theorem dJ6_bitCount_0f7a4_40 : decode cJ6_bitCount_0f7a4 40 = .ok (.istore_n 0, 1) := by decide +kernel
theorem dJ6_bitCount_0f7a4_41 : decode cJ6_bitCount_0f7a4 41 = .ok (.iload_n 0, 1) := by decide +kernel
theorem dJ6_bitCount_0f7a4_42 : decode cJ6_bitCount_0f7a4 42 = .ok (.iload_n 0, 1) := by decide +kernel
theorem dJ6_bitCount_0f7a4_43 : decode cJ6_bitCount_0f7a4 43 = .ok (.bipush 16, 2) := by decide +kernel
theorem dJ6_bitCount_0f7a4_45 : decode cJ6_bitCount_0f7a4 45 = .ok (.iushr, 1) := by decide +kernel
theorem dJ6_bitCount_0f7a4_46 : decode cJ6_bitCount_0f7a4 46 = .ok (.iadd, 1) := by decide +kernel
theorem dJ6_bitCount_0f7a4_47 : decode cJ6_bitCount_0f7a4 47 = .ok (.istore_n 0, 1) := by decide +kernel
theorem dJ6_bitCount_0f7a4_48 : decode cJ6_bitCount_0f7a4 48 = .ok (.iload_n 0, 1) := by decide +kernel
theorem dJ6_bitCount_0f7a4_49 : decode cJ6_bitCount_0f7a4 49 = .ok (.bipush 63, 2) := by decide +kernel
theorem dJ6_bitCount_0f7a4_51 : decode cJ6_bitCount_0f7a4 51 = .ok (.iand, 1) := by decide +kernel
theorem dJ6_bitCount_0f7a4_52 : decode cJ6_bitCount_0f7a4 52 = .ok (.ireturn, 1) := by decide +kernel
theorem dJ9_abs_0f7a4_0 : decode cJ9_abs_0f7a4 0 = .ok (.iload_n 0, 1) := by decide +kernel
theorem dJ9_abs_0f7a4_1 : decode cJ9_abs_0f7a4 1 = .ok (.ifCond .ge 8, 3) := by decide +kernel
theorem dJ9_abs_0f7a4_4 : decode cJ9_abs_0f7a4 4 = .ok (.iload_n 0, 1) := by decide +kernel
theorem dJ9_abs_0f7a4_5 : decode cJ9_abs_0f7a4 5 = .ok (.ineg, 1) := by decide +kernel
theorem dJ9_abs_0f7a4_6 : decode cJ9_abs_0f7a4 6 = .ok (.goto 4, 3) := by decide +kernel
theorem dJ9_abs_0f7a4_9 : decode cJ9_abs_0f7a4 9 = .ok (.iload_n 0, 1) := by decide +kernel
theorem dJ9_abs_0f7a4_10 : decode cJ9_abs_0f7a4 10 = .ok (.ireturn, 1) := by decide +kernel
theorem dJ9_max_7cf53_0 : decode cJ9_max_7cf53 0 = .ok (.iload_n 0, 1) := by decide +kernel
theorem dJ9_max_7cf53_1 : decode cJ9_max_7cf53 1 = .ok (.iload_n 1, 1) := by decide +kernel
theorem dJ9_max_7cf53_2 : decode cJ9_max_7cf53 2 = .ok (.if_icmp .lt 7, 3) := by decide +kernel
theorem dJ9_max_7cf53_5 : decode cJ9_max_7cf53 5 = .ok (.iload_n 0, 1) := by decide +kernel
theorem dJ9_max_7cf53_6 : decode cJ9_max_7cf53 6 = .ok (.goto 4, 3) := by decide +kernel
theorem dJ9_max_7cf53_9 : decode cJ9_max_7cf53 9 = .ok (.iload_n 1, 1) := by decide +kernel
theorem dJ9_max_7cf53_10 : decode cJ9_max_7cf53 10 = .ok (.ireturn, 1) := by decide +kernel
theorem dJ9_min_7cf53_0 : decode cJ9_min_7cf53 0 = .ok (.iload_n 0, 1) := by decide +kernel
theorem dJ9_min_7cf53_1 : decode cJ9_min_7cf53 1 = .ok (.iload_n 1, 1) := by decide +kernel
theorem dJ9_min_7cf53_2 : decode cJ9_min_7cf53 2 = .ok (.if_icmp .gt 7, 3) := by decide +kernel
theorem dJ9_min_7cf53_5 : decode cJ9_min_7cf53 5 = .ok (.iload_n 0, 1) := by decide +kernel
theorem dJ9_min_7cf53_6 : decode cJ9_min_7cf53 6 = .ok (.goto 4, 3) := by decide +kernel
theorem dJ9_min_7cf53_9 : decode cJ9_min_7cf53 9 = .ok (.iload_n 1, 1) := by decide +kernel
theorem dJ9_min_7cf53_10 : decode cJ9_min_7cf53 10 = .ok (.ireturn, 1) := by decide +kernel
theorem dJ0_length_8abf5_0 : decode cJ0_length_8abf5 0 = .ok (.aload_n 0, 1) := by decide +kernel
theorem dJ0_length_8abf5_1 : decode cJ0_length_8abf5 1 = .ok (.getfield 9, 3) := by decide +kernel
theorem dJ0_length_8abf5_4 : decode cJ0_length_8abf5 4 = .ok (.arraylength, 1) := by decide +kernel
theorem dJ0_length_8abf5_5 : decode cJ0_length_8abf5 5 = .ok (.aload_n 0, 1) := by decide +kernel
theorem dJ0_length_8abf5_6 : decode cJ0_length_8abf5 6 = .ok (.invokevirtual 335, 3) := by decide +kernel
theorem dJ0_length_8abf5_9 : decode cJ0_length_8abf5 9 = .ok (.ishr, 1) := by decide +kernel
theorem dJ0_length_8abf5_10 : decode cJ0_length_8abf5 10 = .ok (.ireturn, 1) := by decide +kernel
theorem dJ0_charAt_5068e_0 : decode cJ0_charAt_5068e 0 = .ok (.aload_n 0, 1) := by decide +kernel
theorem dJ0_charAt_5068e_1 : decode cJ0_charAt_5068e 1 = .ok (.invokevirtual 492, 3) := by decide +kernel
theorem dJ0_charAt_5068e_4 : decode cJ0_charAt_5068e 4 = .ok (.ifCond .eq 12, 3) := by decide +kernel
theorem dJ0_charAt_5068e_7 : decode cJ0_charAt_5068e 7 = .ok (.aload_n 0, 1) := by decide +kernel
theorem dJ0_charAt_5068e_8 : decode cJ0_charAt_5068e 8 = .ok (.getfield 9, 3) := by decide +kernel
theorem dJ0_charAt_5068e_11 : decode cJ0_charAt_5068e 11 = .ok (.iload_n 1, 1) := by decide +kernel
theorem dJ0_charAt_5068e_12 : decode cJ0_charAt_5068e 12 = .ok (.invokestatic 495, 3) := by decide +kernel
theorem dJ0_charAt_5068e_15 : decode cJ0_charAt_5068e 15 = .ok (.ireturn, 1) := by decide +kernel
theorem dJ0_charAt_5068e_16 : decode cJ0_charAt_5068e 16 = .ok (.aload_n 0, 1) := by decide +kernel
theorem dJ0_charAt_5068e_17 : decode cJ0_charAt_5068e 17 = .ok (.getfield 9, 3) := by decide +kernel
theorem dJ0_charAt_5068e_20 : decode cJ0_charAt_5068e 20 = .ok (.iload_n 1, 1) := by decide +kernel
theorem dJ0_charAt_5068e_21 : decode cJ0_charAt_5068e 21 = .ok (.invokestatic 498, 3) := by decide +kernel
theorem dJ0_charAt_5068e_24 : decode cJ0_charAt_5068e 24 = .ok (.ireturn, 1) := by decide +kernel
theorem dJ0_coder_7d493_0 : decode cJ0_coder_7d493 0 = .ok (.getstatic 38, 3) := by decide +kernel
theorem dJ0_coder_7d493_3 : decode cJ0_coder_7d493 3 = .ok (.ifCond .eq 10, 3) := by decide +kernel
theorem dJ0_coder_7d493_6 : decode cJ0_coder_7d493 6 = .ok (.aload_n 0, 1) := by decide +kernel
theorem dJ0_coder_7d493_7 : decode cJ0_coder_7d493 7 = .ok (.getfield 15, 3) := by decide +kernel
theorem dJ0_coder_7d493_10 : decode cJ0_coder_7d493 10 = .ok (.goto 4, 3) := by decide +kernel
theorem dJ0_coder_7d493_13 : decode cJ0_coder_7d493 13 = .ok (.iconst 1, 1) := by decide +kernel
theorem dJ0_coder_7d493_14 : decode cJ0_coder_7d493 14 = .ok (.ireturn, 1) := by decide +kernel
theorem dJ0_isLatin1_aae02_0 : decode cJ0_isLatin1_aae02 0 = .ok (.getstatic 38, 3) := by decide +kernel
theorem dJ0_isLatin1_aae02_3 : decode cJ0_isLatin1_aae02 3 = .ok (.ifCond .eq 14, 3) := by decide +kernel
theorem dJ0_isLatin1_aae02_6 : decode cJ0_isLatin1_aae02 6 = .ok (.aload_n 0, 1) := by decide +kernel
theorem dJ0_isLatin1_aae02_7 : decode cJ0_isLatin1_aae02 7 = .ok (.getfield 15, 3) := by decide +kernel
theorem dJ0_isLatin1_aae02_10 : decode cJ0_isLatin1_aae02 10 = .ok (.ifCond .ne 7, 3) := by decide +kernel
theorem dJ0_isLatin1_aae02_13 : decode cJ0_isLatin1_aae02 13 = .ok (.iconst 1, 1) := by decide +kernel
theorem dJ0_isLatin1_aae02_14 : decode cJ0_isLatin1_aae02 14 = .ok (.goto 4, 3) := by decide +kernel
theorem dJ0_isLatin1_aae02_17 : decode cJ0_isLatin1_aae02 17 = .ok (.iconst 0, 1) := by decide +kernel
theorem dJ0_isLatin1_aae02_18 : decode cJ0_isLatin1_aae02 18 = .ok (.ireturn, 1) := by decide +kernel
theorem dJ0_checkIndex_df160_0 : decode cJ0_checkIndex_df160 0 = .ok (.iload_n 0, 1) := by decide +kernel
theorem dJ0_checkIndex_df160_1 : decode cJ0_checkIndex_df160 1 = .ok (.iload_n 1, 1) := by decide +kernel
theorem dJ0_checkIndex_df160_2 : decode cJ0_checkIndex_df160 2 = .ok (.getstatic 1053, 3) := by decide +kernel
theorem dJ0_checkIndex_df160_5 : decode cJ0_checkIndex_df160 5 = .ok (.invokestatic 1059, 3) := by decide +kernel
theorem dJ0_checkIndex_df160_8 : decode cJ0_checkIndex_df160 8 = .ok (.pop, 1) := by decide +kernel
theorem dJ0_checkIndex_df160_9 : decode cJ0_checkIndex_df160 9 = .ok (.return_, 1) := by decide +kernel
theorem dJ1_charAt_3b067_0 : decode cJ1_charAt_3b067 0 = .ok (.iload_n 1, 1) := by decide +kernel
theorem dJ1_charAt_3b067_1 : decode cJ1_charAt_3b067 1 = .ok (.aload_n 0, 1) := by decide +kernel
theorem dJ1_charAt_3b067_2 : decode cJ1_charAt_3b067 2 = .ok (.arraylength, 1) := by decide +kernel
theorem dJ1_charAt_3b067_3 : decode cJ1_charAt_3b067 3 = .ok (.invokestatic 9, 3) := by decide +kernel
theorem dJ1_charAt_3b067_6 : decode cJ1_charAt_3b067 6 = .ok (.aload_n 0, 1) := by decide +kernel
theorem dJ1_charAt_3b067_7 : decode cJ1_charAt_3b067 7 = .ok (.iload_n 1, 1) := by decide +kernel
theorem dJ1_charAt_3b067_8 : decode cJ1_charAt_3b067 8 = .ok (.baload, 1) := by decide +kernel
theorem dJ1_charAt_3b067_9 : decode cJ1_charAt_3b067 9 = .ok (.sipush 255, 3) := by decide +kernel
theorem dJ1_charAt_3b067_12 : decode cJ1_charAt_3b067 12 = .ok (.iand, 1) := by decide +kernel
theorem dJ1_charAt_3b067_13 : decode cJ1_charAt_3b067 13 = .ok (.i2c, 1) := by decide +kernel
theorem dJ1_charAt_3b067_14 : decode cJ1_charAt_3b067 14 = .ok (.ireturn, 1) := by decide +kernel
theorem dJ2_getChar_3b067_0 : decode cJ2_getChar_3b067 0 = .ok (.getstatic 44, 3) := by decide +kernel
theorem dJ2_getChar_3b067_3 : decode cJ2_getChar_3b067 3 = .ok (.ifCond .ne 25, 3) := by decide +kernel
theorem dJ2_getChar_3b067_6 : decode cJ2_getChar_3b067 6 = .ok (.iload_n 1, 1) := by decide +kernel
theorem dJ2_getChar_3b067_7 : decode cJ2_getChar_3b067 7 = .ok (.ifCond .lt 11, 3) := by decide +kernel
theorem dJ2_getChar_3b067_10 : decode cJ2_getChar_3b067 10 = .ok (.iload_n 1, 1) := by decide +kernel
theorem dJ2_getChar_3b067_11 : decode cJ2_getChar_3b067 11 = .ok (.aload_n 0, 1) := by decide +kernel
theorem dJ2_getChar_3b067_12 : decode cJ2_getChar_3b067 12 = .ok (.invokestatic 48, 3) := by decide +kernel
theorem dJ2_getChar_3b067_15 : decode cJ2_getChar_3b067 15 = .ok (.if_icmp .lt 13, 3) := by decide +kernel
theorem dJ2_getChar_3b067_18 : decode cJ2_getChar_3b067 18 = .ok (.new 52, 3) := by decide +kernel
theorem dJ2_getChar_3b067_21 : decode cJ2_getChar_3b067 21 = .ok (.dup, 1) := by decide +kernel
theorem dJ2_getChar_3b067_22 : decode cJ2_getChar_3b067 22 = .ok (.ldc 54, 2) := by decide +kernel
theorem dJ2_getChar_3b067_24 : decode cJ2_getChar_3b067 24 = .ok (.invokespecial 56, 3) := by decide +kernel
theorem dJ2_getChar_3b067_27 : decode cJ2_getChar_3b067 27 = .ok (.athrow, 1) := by decide +kernel
theorem dJ2_getChar_3b067_28 : decode cJ2_getChar_3b067 28 = .ok (.iload_n 1, 1) := by decide +kernel
theorem dJ2_getChar_3b067_29 : decode cJ2_getChar_3b067 29 = .ok (.iconst 1, 1) := by decide +kernel
theorem dJ2_getChar_3b067_30 : decode cJ2_getChar_3b067 30 = .ok (.ishl, 1) := by decide +kernel
theorem dJ2_getChar_3b067_31 : decode cJ2_getChar_3b067 31 = .ok (.istore_n 1, 1) := by decide +kernel
theorem dJ2_getChar_3b067_32 : decode cJ2_getChar_3b067 32 = .ok (.aload_n 0, 1) := by decide +kernel
theorem dJ2_getChar_3b067_33 : decode cJ2_getChar_3b067 33 = .ok (.iload_n 1, 1) := by decide +kernel
theorem dJ2_getChar_3b067_34 : decode cJ2_getChar_3b067 34 = .ok (.iinc 1 1, 3) := by decide +kernel
theorem dJ2_getChar_3b067_37 : decode cJ2_getChar_3b067 37 = .ok (.baload, 1) := by decide +kernel
theorem dJ2_getChar_3b067_38 : decode cJ2_getChar_3b067 38 = .ok (.sipush 255, 3) := by decide +kernel
theorem dJ2_getChar_3b067_41 : decode cJ2_getChar_3b067 41 = .ok (.iand, 1) := by decide +kernel
theorem dJ2_getChar_3b067_42 : decode cJ2_getChar_3b067 42 = .ok (.getstatic 59, 3) := by decide +kernel
theorem dJ2_getChar_3b067_45 : decode cJ2_getChar_3b067 45 = .ok (.ishl, 1) := by decide +kernel
theorem dJ2_getChar_3b067_46 : decode cJ2_getChar_3b067 46 = .ok (.aload_n 0, 1) := by decide +kernel
theorem dJ2_getChar_3b067_47 : decode cJ2_getChar_3b067 47 = .ok (.iload_n 1, 1) := by decide +kernel
theorem dJ2_getChar_3b067_48 : decode cJ2_getChar_3b067 48 = .ok (.baload, 1) := by decide +kernel
theorem dJ2_getChar_3b067_49 : decode cJ2_getChar_3b067 49 = .ok (.sipush 255, 3) := by decide +kernel
theorem dJ2_getChar_3b067_52 : decode cJ2_getChar_3b067 52 = .ok (.iand, 1) := by decide +kernel
theorem dJ2_getChar_3b067_53 : decode cJ2_getChar_3b067 53 = .ok (.getstatic 63, 3) := by decide +kernel
theorem dJ2_getChar_3b067_56 : decode cJ2_getChar_3b067 56 = .ok (.ishl, 1) := by decide +kernel
theorem dJ2_getChar_3b067_57 : decode cJ2_getChar_3b067 57 = .ok (.ior, 1) := by decide +kernel
theorem dJ2_getChar_3b067_58 : decode cJ2_getChar_3b067 58 = .ok (.i2c, 1) := by decide +kernel
theorem dJ2_getChar_3b067_59 : decode cJ2_getChar_3b067 59 = .ok (.ireturn, 1) := by decide +kernel
theorem dJ2_length_9d52b_0 : decode cJ2_length_9d52b 0 = .ok (.aload_n 0, 1) := by decide +kernel
theorem dJ2_length_9d52b_1 : decode cJ2_length_9d52b 1 = .ok (.arraylength, 1) := by decide +kernel
theorem dJ2_length_9d52b_2 : decode cJ2_length_9d52b 2 = .ok (.iconst 1, 1) := by decide +kernel
theorem dJ2_length_9d52b_3 : decode cJ2_length_9d52b 3 = .ok (.ishr, 1) := by decide +kernel
theorem dJ2_length_9d52b_4 : decode cJ2_length_9d52b 4 = .ok (.ireturn, 1) := by decide +kernel
theorem dJ2_charAt_3b067_0 : decode cJ2_charAt_3b067 0 = .ok (.iload_n 1, 1) := by decide +kernel
theorem dJ2_charAt_3b067_1 : decode cJ2_charAt_3b067 1 = .ok (.aload_n 0, 1) := by decide +kernel
theorem dJ2_charAt_3b067_2 : decode cJ2_charAt_3b067 2 = .ok (.invokestatic 67, 3) := by decide +kernel
theorem dJ2_charAt_3b067_5 : decode cJ2_charAt_3b067 5 = .ok (.aload_n 0, 1) := by decide +kernel
theorem dJ2_charAt_3b067_6 : decode cJ2_charAt_3b067 6 = .ok (.iload_n 1, 1) := by decide +kernel
theorem dJ2_charAt_3b067_7 : decode cJ2_charAt_3b067 7 = .ok (.invokestatic 71, 3) := by decide +kernel
theorem dJ2_charAt_3b067_10 : decode cJ2_charAt_3b067 10 = .ok (.ireturn, 1) := by decide +kernel
theorem dJ2_checkIndex_2214a_0 : decode cJ2_checkIndex_2214a 0 = .ok (.iload_n 0, 1) := by decide +kernel
theorem dJ2_checkIndex_2214a_1 : decode cJ2_checkIndex_2214a 1 = .ok (.aload_n 1, 1) := by decide +kernel
theorem dJ2_checkIndex_2214a_2 : decode cJ2_checkIndex_2214a 2 = .ok (.invokestatic 48, 3) := by decide +kernel
theorem dJ2_checkIndex_2214a_5 : decode cJ2_checkIndex_2214a 5 = .ok (.invokestatic 414, 3) := by decide +kernel
theorem dJ2_checkIndex_2214a_8 : decode cJ2_checkIndex_2214a 8 = .ok (.return_, 1) := by decide +kernel
theorem dJ7_fill_53178_0 : decode cJ7_fill_53178 0 = .ok (.iconst 0, 1) := by decide +kernel
theorem dJ7_fill_53178_1 : decode cJ7_fill_53178 1 = .ok (.istore_n 2, 1) := by decide +kernel
theorem dJ7_fill_53178_2 : decode cJ7_fill_53178 2 = .ok (.aload_n 0, 1) := by decide +kernel
theorem dJ7_fill_53178_3 : decode cJ7_fill_53178 3 = .ok (.arraylength, 1) := by decide +kernel
theorem dJ7_fill_53178_4 : decode cJ7_fill_53178 4 = .ok (.istore_n 3, 1) := by decide +kernel
theorem dJ7_fill_53178_5 : decode cJ7_fill_53178 5 = .ok (.iload_n 2, 1) := by decide +kernel
theorem dJ7_fill_53178_6 : decode cJ7_fill_53178 6 = .ok (.iload_n 3, 1) := by decide +kernel
theorem dJ7_fill_53178_7 : decode cJ7_fill_53178 7 = .ok (.if_icmp .ge 13, 3) := by decide +kernel
theorem dJ7_fill_53178_10 : decode cJ7_fill_53178 10 = .ok (.aload_n 0, 1) := by decide +kernel
theorem dJ7_fill_53178_11 : decode cJ7_fill_53178 11 = .ok (.iload_n 2, 1) := by decide +kernel
theorem dJ7_fill_53178_12 : decode cJ7_fill_53178 12 = .ok (.iload_n 1, 1) := by decide +kernel
theorem dJ7_fill_53178_13 : decode cJ7_fill_53178 13 = .ok (.iastore, 1) := by decide +kernel
theorem dJ7_fill_53178_14 : decode cJ7_fill_53178 14 = .ok (.iinc 2 1, 3) := by decide +kernel
theorem dJ7_fill_53178_17 : decode cJ7_fill_53178 17 = .ok (.goto (-12), 3) := by decide +kernel
theorem dJ7_fill_53178_20 : decode cJ7_fill_53178 20 = .ok (.return_, 1) := by decide +kernel
theorem dJ3_checkIndex_8e157_0 : decode cJ3_checkIndex_8e157 0 = .ok (.iload_n 0, 1) := by decide +kernel
theorem dJ3_checkIndex_8e157_1 : decode cJ3_checkIndex_8e157 1 = .ok (.ifCond .lt 8, 3) := by decide +kernel
theorem dJ3_checkIndex_8e157_4 : decode cJ3_checkIndex_8e157 4 = .ok (.iload_n 0, 1) := by decide +kernel
theorem dJ3_checkIndex_8e157_5 : decode cJ3_checkIndex_8e157 5 = .ok (.iload_n 1, 1) := by decide +kernel
theorem dJ3_checkIndex_8e157_6 : decode cJ3_checkIndex_8e157 6 = .ok (.if_icmp .lt 10, 3) := by decide +kernel
theorem dJ3_checkIndex_8e157_9 : decode cJ3_checkIndex_8e157 9 = .ok (.aload_n 2, 1) := by decide +kernel
theorem dJ3_checkIndex_8e157_10 : decode cJ3_checkIndex_8e157 10 = .ok (.iload_n 0, 1) := by decide +kernel
theorem dJ3_checkIndex_8e157_11 : decode cJ3_checkIndex_8e157 11 = .ok (.iload_n 1, 1) := by decide +kernel
theorem dJ3_checkIndex_8e157_12 : decode cJ3_checkIndex_8e157 12 = .ok (.invokestatic 95, 3) := by decide +kernel
theorem dJ3_checkIndex_8e157_15 : decode cJ3_checkIndex_8e157 15 = .ok (.athrow, 1) := by decide +kernel
theorem dJ3_checkIndex_8e157_16 : decode cJ3_checkIndex_8e157 16 = .ok (.iload_n 0, 1) := by decide +kernel
theorem dJ3_checkIndex_8e157_17 : decode cJ3_checkIndex_8e157 17 = .ok (.ireturn, 1) := by decide +kernel
theorem dL_law_0 : decode cL_law 0 = .ok (.new 7, 3) := by decide +kernel
theorem dL_law_3 : decode cL_law 3 = .ok (.dup, 1) := by decide +kernel
theorem dL_law_4 : decode cL_law 4 = .ok (.invokespecial 9, 3) := by decide +kernel
theorem dL_law_7 : decode cL_law 7 = .ok (.astore_n 1, 1) := by decide +kernel
theorem dL_law_8 : decode cL_law 8 = .ok (.new 10, 3) := by decide +kernel
theorem dL_law_11 : decode cL_law 11 = .ok (.dup, 1) := by decide +kernel
theorem dL_law_12 : decode cL_law 12 = .ok (.invokespecial 12, 3) := by decide +kernel
theorem dL_law_15 : decode cL_law 15 = .ok (.astore_n 2, 1) := by decide +kernel
theorem dL_law_16 : decode cL_law 16 = .ok (.iconst 0, 1) := by decide +kernel
theorem dL_law_17 : decode cL_law 17 = .ok (.istore_n 3, 1) := by decide +kernel
theorem dL_law_18 : decode cL_law 18 = .ok (.iload_n 3, 1) := by decide +kernel
theorem dL_law_19 : decode cL_law 19 = .ok (.aload_n 0, 1) := by decide +kernel
theorem dL_law_20 : decode cL_law 20 = .ok (.arraylength, 1) := by decide +kernel
theorem dL_law_21 : decode cL_law 21 = .ok (.bipush 7, 2) := by decide +kernel
theorem dL_law_23 : decode cL_law 23 = .ok (.isub, 1) := by decide +kernel
theorem dL_law_24 : decode cL_law 24 = .ok (.if_icmp .gt 1382, 3) := by decide +kernel
theorem dL_law_27 : decode cL_law 27 = .ok (.aload_n 0, 1) := by decide +kernel
theorem dL_law_28 : decode cL_law 28 = .ok (.iload_n 3, 1) := by decide +kernel
theorem dL_law_29 : decode cL_law 29 = .ok (.iaload, 1) := by decide +kernel
theorem dL_law_30 : decode cL_law 30 = .ok (.bipush 63, 2) := by decide +kernel
theorem dL_law_32 : decode cL_law 32 = .ok (.iand, 1) := by decide +kernel
theorem dL_law_33 : decode cL_law 33 = .ok (.tableswitch 1367 0 35 #[159, 212, 235, 248, 261, 284, 327, 360, 403, 426, 459, 502, 535, 568, 591, 604, 637, 680, 723, 746, 805, 848, 871, 884, 907, 940, 983, 1016, 1039, 1108, 1121, 1170, 1213, 1256, 1331, 1344], 159) := by decide +kernel
theorem dL_law_192 : decode cL_law 192 = .ok (.aload_n 1, 1) := by decide +kernel
theorem dL_law_193 : decode cL_law 193 = .ok (.aload_n 0, 1) := by decide +kernel
theorem dL_law_194 : decode cL_law 194 = .ok (.iload_n 3, 1) := by decide +kernel
theorem dL_law_195 : decode cL_law 195 = .ok (.iconst 1, 1) := by decide +kernel
theorem dL_law_196 : decode cL_law 196 = .ok (.iadd, 1) := by decide +kernel
theorem dL_law_197 : decode cL_law 197 = .ok (.iaload, 1) := by decide +kernel
theorem dL_law_198 : decode cL_law 198 = .ok (.i2l, 1) := by decide +kernel
theorem dL_law_199 : decode cL_law 199 = .ok (.bipush 32, 2) := by decide +kernel
theorem dL_law_201 : decode cL_law 201 = .ok (.lshl, 1) := by decide +kernel
theorem dL_law_202 : decode cL_law 202 = .ok (.aload_n 0, 1) := by decide +kernel
theorem dL_law_203 : decode cL_law 203 = .ok (.iload_n 3, 1) := by decide +kernel
theorem dL_law_204 : decode cL_law 204 = .ok (.iconst 2, 1) := by decide +kernel
theorem dL_law_205 : decode cL_law 205 = .ok (.iadd, 1) := by decide +kernel
theorem dL_law_206 : decode cL_law 206 = .ok (.iaload, 1) := by decide +kernel
theorem dL_law_207 : decode cL_law 207 = .ok (.i2l, 1) := by decide +kernel
theorem dL_law_208 : decode cL_law 208 = .ok (.ldc2_w 13, 3) := by decide +kernel
theorem dL_law_211 : decode cL_law 211 = .ok (.land, 1) := by decide +kernel
theorem dL_law_212 : decode cL_law 212 = .ok (.lor, 1) := by decide +kernel
theorem dL_law_213 : decode cL_law 213 = .ok (.invokevirtual 15, 3) := by decide +kernel
theorem dL_law_216 : decode cL_law 216 = .ok (.aload_n 2, 1) := by decide +kernel
theorem dL_law_217 : decode cL_law 217 = .ok (.aload_n 0, 1) := by decide +kernel
theorem dL_law_218 : decode cL_law 218 = .ok (.iload_n 3, 1) := by decide +kernel
theorem dL_law_219 : decode cL_law 219 = .ok (.iconst 1, 1) := by decide +kernel
theorem dL_law_220 : decode cL_law 220 = .ok (.iadd, 1) := by decide +kernel
theorem dL_law_221 : decode cL_law 221 = .ok (.iaload, 1) := by decide +kernel
theorem dL_law_222 : decode cL_law 222 = .ok (.i2l, 1) := by decide +kernel
theorem dL_law_223 : decode cL_law 223 = .ok (.bipush 32, 2) := by decide +kernel
theorem dL_law_225 : decode cL_law 225 = .ok (.lshl, 1) := by decide +kernel
theorem dL_law_226 : decode cL_law 226 = .ok (.aload_n 0, 1) := by decide +kernel
theorem dL_law_227 : decode cL_law 227 = .ok (.iload_n 3, 1) := by decide +kernel
theorem dL_law_228 : decode cL_law 228 = .ok (.iconst 2, 1) := by decide +kernel
theorem dL_law_229 : decode cL_law 229 = .ok (.iadd, 1) := by decide +kernel
theorem dL_law_230 : decode cL_law 230 = .ok (.iaload, 1) := by decide +kernel
theorem dL_law_231 : decode cL_law 231 = .ok (.i2l, 1) := by decide +kernel
theorem dL_law_232 : decode cL_law 232 = .ok (.ldc2_w 13, 3) := by decide +kernel
theorem dL_law_235 : decode cL_law 235 = .ok (.land, 1) := by decide +kernel
theorem dL_law_236 : decode cL_law 236 = .ok (.lor, 1) := by decide +kernel
theorem dL_law_237 : decode cL_law 237 = .ok (.invokevirtual 19, 3) := by decide +kernel
theorem dL_law_240 : decode cL_law 240 = .ok (.if_icmp .eq 1160, 3) := by decide +kernel
theorem dL_law_243 : decode cL_law 243 = .ok (.iconst 0, 1) := by decide +kernel
theorem dL_law_244 : decode cL_law 244 = .ok (.ireturn, 1) := by decide +kernel
theorem dL_law_245 : decode cL_law 245 = .ok (.aload_n 1, 1) := by decide +kernel
theorem dL_law_246 : decode cL_law 246 = .ok (.aload_n 0, 1) := by decide +kernel
theorem dL_law_247 : decode cL_law 247 = .ok (.iload_n 3, 1) := by decide +kernel
theorem dL_law_248 : decode cL_law 248 = .ok (.iconst 1, 1) := by decide +kernel
theorem dL_law_249 : decode cL_law 249 = .ok (.iadd, 1) := by decide +kernel
theorem dL_law_250 : decode cL_law 250 = .ok (.iaload, 1) := by decide +kernel
theorem dL_law_251 : decode cL_law 251 = .ok (.invokevirtual 20, 3) := by decide +kernel
theorem dL_law_254 : decode cL_law 254 = .ok (.aload_n 2, 1) := by decide +kernel
theorem dL_law_255 : decode cL_law 255 = .ok (.aload_n 0, 1) := by decide +kernel
theorem dL_law_256 : decode cL_law 256 = .ok (.iload_n 3, 1) := by decide +kernel
theorem dL_law_257 : decode cL_law 257 = .ok (.iconst 1, 1) := by decide +kernel
theorem dL_law_258 : decode cL_law 258 = .ok (.iadd, 1) := by decide +kernel
theorem dL_law_259 : decode cL_law 259 = .ok (.iaload, 1) := by decide +kernel
theorem dL_law_260 : decode cL_law 260 = .ok (.invokevirtual 24, 3) := by decide +kernel
theorem dL_law_263 : decode cL_law 263 = .ok (.if_icmp .eq 1137, 3) := by decide +kernel
theorem dL_law_266 : decode cL_law 266 = .ok (.iconst 0, 1) := by decide +kernel
theorem dL_law_267 : decode cL_law 267 = .ok (.ireturn, 1) := by decide +kernel
theorem dL_law_268 : decode cL_law 268 = .ok (.aload_n 1, 1) := by decide +kernel
theorem dL_law_269 : decode cL_law 269 = .ok (.invokevirtual 25, 3) := by decide +kernel
theorem dL_law_272 : decode cL_law 272 = .ok (.aload_n 2, 1) := by decide +kernel
theorem dL_law_273 : decode cL_law 273 = .ok (.invokevirtual 29, 3) := by decide +kernel
theorem dL_law_276 : decode cL_law 276 = .ok (.if_icmp .eq 1124, 3) := by decide +kernel
theorem dL_law_279 : decode cL_law 279 = .ok (.iconst 0, 1) := by decide +kernel
theorem dL_law_280 : decode cL_law 280 = .ok (.ireturn, 1) := by decide +kernel
theorem dL_law_281 : decode cL_law 281 = .ok (.aload_n 1, 1) := by decide +kernel
theorem dL_law_282 : decode cL_law 282 = .ok (.invokevirtual 30, 3) := by decide +kernel
theorem dL_law_285 : decode cL_law 285 = .ok (.aload_n 2, 1) := by decide +kernel
theorem dL_law_286 : decode cL_law 286 = .ok (.invokevirtual 33, 3) := by decide +kernel
theorem dL_law_289 : decode cL_law 289 = .ok (.if_icmp .eq 1111, 3) := by decide +kernel
theorem dL_law_292 : decode cL_law 292 = .ok (.iconst 0, 1) := by decide +kernel
theorem dL_law_293 : decode cL_law 293 = .ok (.ireturn, 1) := by decide +kernel
theorem dL_law_294 : decode cL_law 294 = .ok (.aload_n 1, 1) := by decide +kernel
theorem dL_law_295 : decode cL_law 295 = .ok (.aload_n 0, 1) := by decide +kernel
theorem dL_law_296 : decode cL_law 296 = .ok (.iload_n 3, 1) := by decide +kernel
theorem dL_law_297 : decode cL_law 297 = .ok (.iconst 1, 1) := by decide +kernel
theorem dL_law_298 : decode cL_law 298 = .ok (.iadd, 1) := by decide +kernel
theorem dL_law_299 : decode cL_law 299 = .ok (.iaload, 1) := by decide +kernel
theorem dL_law_300 : decode cL_law 300 = .ok (.invokevirtual 34, 3) := by decide +kernel
theorem dL_law_303 : decode cL_law 303 = .ok (.aload_n 2, 1) := by decide +kernel
theorem dL_law_304 : decode cL_law 304 = .ok (.aload_n 0, 1) := by decide +kernel
theorem dL_law_305 : decode cL_law 305 = .ok (.iload_n 3, 1) := by decide +kernel
theorem dL_law_306 : decode cL_law 306 = .ok (.iconst 1, 1) := by decide +kernel
theorem dL_law_307 : decode cL_law 307 = .ok (.iadd, 1) := by decide +kernel
theorem dL_law_308 : decode cL_law 308 = .ok (.iaload, 1) := by decide +kernel
theorem dL_law_309 : decode cL_law 309 = .ok (.invokevirtual 37, 3) := by decide +kernel
theorem dL_law_312 : decode cL_law 312 = .ok (.if_icmp .eq 1088, 3) := by decide +kernel
theorem dL_law_315 : decode cL_law 315 = .ok (.iconst 0, 1) := by decide +kernel
theorem dL_law_316 : decode cL_law 316 = .ok (.ireturn, 1) := by decide +kernel
theorem dL_law_317 : decode cL_law 317 = .ok (.aload_n 1, 1) := by decide +kernel
theorem dL_law_318 : decode cL_law 318 = .ok (.aload_n 0, 1) := by decide +kernel
theorem dL_law_319 : decode cL_law 319 = .ok (.iload_n 3, 1) := by decide +kernel
theorem dL_law_320 : decode cL_law 320 = .ok (.iconst 1, 1) := by decide +kernel
theorem dL_law_321 : decode cL_law 321 = .ok (.iadd, 1) := by decide +kernel
theorem dL_law_322 : decode cL_law 322 = .ok (.iaload, 1) := by decide +kernel
theorem dL_law_323 : decode cL_law 323 = .ok (.aload_n 0, 1) := by decide +kernel
theorem dL_law_324 : decode cL_law 324 = .ok (.iload_n 3, 1) := by decide +kernel
theorem dL_law_325 : decode cL_law 325 = .ok (.iconst 2, 1) := by decide +kernel
theorem dL_law_326 : decode cL_law 326 = .ok (.iadd, 1) := by decide +kernel
theorem dL_law_327 : decode cL_law 327 = .ok (.iaload, 1) := by decide +kernel
theorem dL_law_328 : decode cL_law 328 = .ok (.aload_n 0, 1) := by decide +kernel
theorem dL_law_329 : decode cL_law 329 = .ok (.iload_n 3, 1) := by decide +kernel
theorem dL_law_330 : decode cL_law 330 = .ok (.iconst 3, 1) := by decide +kernel
theorem dL_law_331 : decode cL_law 331 = .ok (.iadd, 1) := by decide +kernel
theorem dL_law_332 : decode cL_law 332 = .ok (.iaload, 1) := by decide +kernel
theorem dL_law_333 : decode cL_law 333 = .ok (.invokevirtual 38, 3) := by decide +kernel
theorem dL_law_336 : decode cL_law 336 = .ok (.aload_n 2, 1) := by decide +kernel
theorem dL_law_337 : decode cL_law 337 = .ok (.aload_n 0, 1) := by decide +kernel
theorem dL_law_338 : decode cL_law 338 = .ok (.iload_n 3, 1) := by decide +kernel
theorem dL_law_339 : decode cL_law 339 = .ok (.iconst 1, 1) := by decide +kernel
theorem dL_law_340 : decode cL_law 340 = .ok (.iadd, 1) := by decide +kernel
theorem dL_law_341 : decode cL_law 341 = .ok (.iaload, 1) := by decide +kernel
theorem dL_law_342 : decode cL_law 342 = .ok (.aload_n 0, 1) := by decide +kernel
theorem dL_law_343 : decode cL_law 343 = .ok (.iload_n 3, 1) := by decide +kernel
theorem dL_law_344 : decode cL_law 344 = .ok (.iconst 2, 1) := by decide +kernel
theorem dL_law_345 : decode cL_law 345 = .ok (.iadd, 1) := by decide +kernel
theorem dL_law_346 : decode cL_law 346 = .ok (.iaload, 1) := by decide +kernel
theorem dL_law_347 : decode cL_law 347 = .ok (.aload_n 0, 1) := by decide +kernel
theorem dL_law_348 : decode cL_law 348 = .ok (.iload_n 3, 1) := by decide +kernel
theorem dL_law_349 : decode cL_law 349 = .ok (.iconst 3, 1) := by decide +kernel
theorem dL_law_350 : decode cL_law 350 = .ok (.iadd, 1) := by decide +kernel
theorem dL_law_351 : decode cL_law 351 = .ok (.iaload, 1) := by decide +kernel
theorem dL_law_352 : decode cL_law 352 = .ok (.invokevirtual 42, 3) := by decide +kernel
theorem dL_law_355 : decode cL_law 355 = .ok (.if_icmp .eq 1045, 3) := by decide +kernel
theorem dL_law_358 : decode cL_law 358 = .ok (.iconst 0, 1) := by decide +kernel
theorem dL_law_359 : decode cL_law 359 = .ok (.ireturn, 1) := by decide +kernel
theorem dL_law_360 : decode cL_law 360 = .ok (.aload_n 1, 1) := by decide +kernel
theorem dL_law_361 : decode cL_law 361 = .ok (.aload_n 0, 1) := by decide +kernel
theorem dL_law_362 : decode cL_law 362 = .ok (.iload_n 3, 1) := by decide +kernel
theorem dL_law_363 : decode cL_law 363 = .ok (.iconst 1, 1) := by decide +kernel
theorem dL_law_364 : decode cL_law 364 = .ok (.iadd, 1) := by decide +kernel
theorem dL_law_365 : decode cL_law 365 = .ok (.iaload, 1) := by decide +kernel
theorem dL_law_366 : decode cL_law 366 = .ok (.aload_n 0, 1) := by decide +kernel
theorem dL_law_367 : decode cL_law 367 = .ok (.iload_n 3, 1) := by decide +kernel
theorem dL_law_368 : decode cL_law 368 = .ok (.iconst 2, 1) := by decide +kernel
theorem dL_law_369 : decode cL_law 369 = .ok (.iadd, 1) := by decide +kernel
theorem dL_law_370 : decode cL_law 370 = .ok (.iaload, 1) := by decide +kernel
theorem dL_law_371 : decode cL_law 371 = .ok (.invokevirtual 43, 3) := by decide +kernel
theorem dL_law_374 : decode cL_law 374 = .ok (.aload_n 2, 1) := by decide +kernel
theorem dL_law_375 : decode cL_law 375 = .ok (.aload_n 0, 1) := by decide +kernel
theorem dL_law_376 : decode cL_law 376 = .ok (.iload_n 3, 1) := by decide +kernel
theorem dL_law_377 : decode cL_law 377 = .ok (.iconst 1, 1) := by decide +kernel
theorem dL_law_378 : decode cL_law 378 = .ok (.iadd, 1) := by decide +kernel
theorem dL_law_379 : decode cL_law 379 = .ok (.iaload, 1) := by decide +kernel
theorem dL_law_380 : decode cL_law 380 = .ok (.aload_n 0, 1) := by decide +kernel
theorem dL_law_381 : decode cL_law 381 = .ok (.iload_n 3, 1) := by decide +kernel
theorem dL_law_382 : decode cL_law 382 = .ok (.iconst 2, 1) := by decide +kernel
theorem dL_law_383 : decode cL_law 383 = .ok (.iadd, 1) := by decide +kernel
theorem dL_law_384 : decode cL_law 384 = .ok (.iaload, 1) := by decide +kernel
theorem dL_law_385 : decode cL_law 385 = .ok (.invokevirtual 47, 3) := by decide +kernel
theorem dL_law_388 : decode cL_law 388 = .ok (.if_icmp .eq 1012, 3) := by decide +kernel
theorem dL_law_391 : decode cL_law 391 = .ok (.iconst 0, 1) := by decide +kernel
theorem dL_law_392 : decode cL_law 392 = .ok (.ireturn, 1) := by decide +kernel
theorem dL_law_393 : decode cL_law 393 = .ok (.aload_n 1, 1) := by decide +kernel
theorem dL_law_394 : decode cL_law 394 = .ok (.aload_n 0, 1) := by decide +kernel
theorem dL_law_395 : decode cL_law 395 = .ok (.iload_n 3, 1) := by decide +kernel
theorem dL_law_396 : decode cL_law 396 = .ok (.iconst 1, 1) := by decide +kernel
theorem dL_law_397 : decode cL_law 397 = .ok (.iadd, 1) := by decide +kernel
theorem dL_law_398 : decode cL_law 398 = .ok (.iaload, 1) := by decide +kernel
theorem dL_law_399 : decode cL_law 399 = .ok (.aload_n 0, 1) := by decide +kernel
theorem dL_law_400 : decode cL_law 400 = .ok (.iload_n 3, 1) := by decide +kernel
theorem dL_law_401 : decode cL_law 401 = .ok (.iconst 2, 1) := by decide +kernel
theorem dL_law_402 : decode cL_law 402 = .ok (.iadd, 1) := by decide +kernel
theorem dL_law_403 : decode cL_law 403 = .ok (.iaload, 1) := by decide +kernel
theorem dL_law_404 : decode cL_law 404 = .ok (.aload_n 0, 1) := by decide +kernel
theorem dL_law_405 : decode cL_law 405 = .ok (.iload_n 3, 1) := by decide +kernel
theorem dL_law_406 : decode cL_law 406 = .ok (.iconst 3, 1) := by decide +kernel
theorem dL_law_407 : decode cL_law 407 = .ok (.iadd, 1) := by decide +kernel
theorem dL_law_408 : decode cL_law 408 = .ok (.iaload, 1) := by decide +kernel
theorem dL_law_409 : decode cL_law 409 = .ok (.invokevirtual 48, 3) := by decide +kernel
theorem dL_law_412 : decode cL_law 412 = .ok (.aload_n 2, 1) := by decide +kernel
theorem dL_law_413 : decode cL_law 413 = .ok (.aload_n 0, 1) := by decide +kernel
theorem dL_law_414 : decode cL_law 414 = .ok (.iload_n 3, 1) := by decide +kernel
theorem dL_law_415 : decode cL_law 415 = .ok (.iconst 1, 1) := by decide +kernel
theorem dL_law_416 : decode cL_law 416 = .ok (.iadd, 1) := by decide +kernel
theorem dL_law_417 : decode cL_law 417 = .ok (.iaload, 1) := by decide +kernel
theorem dL_law_418 : decode cL_law 418 = .ok (.aload_n 0, 1) := by decide +kernel
theorem dL_law_419 : decode cL_law 419 = .ok (.iload_n 3, 1) := by decide +kernel
theorem dL_law_420 : decode cL_law 420 = .ok (.iconst 2, 1) := by decide +kernel
theorem dL_law_421 : decode cL_law 421 = .ok (.iadd, 1) := by decide +kernel
theorem dL_law_422 : decode cL_law 422 = .ok (.iaload, 1) := by decide +kernel
theorem dL_law_423 : decode cL_law 423 = .ok (.aload_n 0, 1) := by decide +kernel
theorem dL_law_424 : decode cL_law 424 = .ok (.iload_n 3, 1) := by decide +kernel
theorem dL_law_425 : decode cL_law 425 = .ok (.iconst 3, 1) := by decide +kernel
theorem dL_law_426 : decode cL_law 426 = .ok (.iadd, 1) := by decide +kernel
theorem dL_law_427 : decode cL_law 427 = .ok (.iaload, 1) := by decide +kernel
theorem dL_law_428 : decode cL_law 428 = .ok (.invokevirtual 51, 3) := by decide +kernel
theorem dL_law_431 : decode cL_law 431 = .ok (.if_icmp .eq 969, 3) := by decide +kernel
theorem dL_law_434 : decode cL_law 434 = .ok (.iconst 0, 1) := by decide +kernel
theorem dL_law_435 : decode cL_law 435 = .ok (.ireturn, 1) := by decide +kernel
theorem dL_law_436 : decode cL_law 436 = .ok (.aload_n 1, 1) := by decide +kernel
theorem dL_law_437 : decode cL_law 437 = .ok (.aload_n 0, 1) := by decide +kernel
theorem dL_law_438 : decode cL_law 438 = .ok (.iload_n 3, 1) := by decide +kernel
theorem dL_law_439 : decode cL_law 439 = .ok (.iconst 1, 1) := by decide +kernel
theorem dL_law_440 : decode cL_law 440 = .ok (.iadd, 1) := by decide +kernel
theorem dL_law_441 : decode cL_law 441 = .ok (.iaload, 1) := by decide +kernel
theorem dL_law_442 : decode cL_law 442 = .ok (.invokevirtual 52, 3) := by decide +kernel
theorem dL_law_445 : decode cL_law 445 = .ok (.aload_n 2, 1) := by decide +kernel
theorem dL_law_446 : decode cL_law 446 = .ok (.aload_n 0, 1) := by decide +kernel
theorem dL_law_447 : decode cL_law 447 = .ok (.iload_n 3, 1) := by decide +kernel
theorem dL_law_448 : decode cL_law 448 = .ok (.iconst 1, 1) := by decide +kernel
theorem dL_law_449 : decode cL_law 449 = .ok (.iadd, 1) := by decide +kernel
theorem dL_law_450 : decode cL_law 450 = .ok (.iaload, 1) := by decide +kernel
theorem dL_law_451 : decode cL_law 451 = .ok (.invokevirtual 55, 3) := by decide +kernel
theorem dL_law_454 : decode cL_law 454 = .ok (.if_icmp .eq 946, 3) := by decide +kernel
theorem dL_law_457 : decode cL_law 457 = .ok (.iconst 0, 1) := by decide +kernel
theorem dL_law_458 : decode cL_law 458 = .ok (.ireturn, 1) := by decide +kernel
theorem dL_law_459 : decode cL_law 459 = .ok (.aload_n 1, 1) := by decide +kernel
theorem dL_law_460 : decode cL_law 460 = .ok (.aload_n 0, 1) := by decide +kernel
theorem dL_law_461 : decode cL_law 461 = .ok (.iload_n 3, 1) := by decide +kernel
theorem dL_law_462 : decode cL_law 462 = .ok (.iconst 1, 1) := by decide +kernel
theorem dL_law_463 : decode cL_law 463 = .ok (.iadd, 1) := by decide +kernel
theorem dL_law_464 : decode cL_law 464 = .ok (.iaload, 1) := by decide +kernel
theorem dL_law_465 : decode cL_law 465 = .ok (.aload_n 0, 1) := by decide +kernel
theorem dL_law_466 : decode cL_law 466 = .ok (.iload_n 3, 1) := by decide +kernel
theorem dL_law_467 : decode cL_law 467 = .ok (.iconst 2, 1) := by decide +kernel
theorem dL_law_468 : decode cL_law 468 = .ok (.iadd, 1) := by decide +kernel
theorem dL_law_469 : decode cL_law 469 = .ok (.iaload, 1) := by decide +kernel
theorem dL_law_470 : decode cL_law 470 = .ok (.invokevirtual 56, 3) := by decide +kernel
theorem dL_law_473 : decode cL_law 473 = .ok (.aload_n 2, 1) := by decide +kernel
theorem dL_law_474 : decode cL_law 474 = .ok (.aload_n 0, 1) := by decide +kernel
theorem dL_law_475 : decode cL_law 475 = .ok (.iload_n 3, 1) := by decide +kernel
theorem dL_law_476 : decode cL_law 476 = .ok (.iconst 1, 1) := by decide +kernel
theorem dL_law_477 : decode cL_law 477 = .ok (.iadd, 1) := by decide +kernel
theorem dL_law_478 : decode cL_law 478 = .ok (.iaload, 1) := by decide +kernel
theorem dL_law_479 : decode cL_law 479 = .ok (.aload_n 0, 1) := by decide +kernel
theorem dL_law_480 : decode cL_law 480 = .ok (.iload_n 3, 1) := by decide +kernel
theorem dL_law_481 : decode cL_law 481 = .ok (.iconst 2, 1) := by decide +kernel
theorem dL_law_482 : decode cL_law 482 = .ok (.iadd, 1) := by decide +kernel
theorem dL_law_483 : decode cL_law 483 = .ok (.iaload, 1) := by decide +kernel
theorem dL_law_484 : decode cL_law 484 = .ok (.invokevirtual 59, 3) := by decide +kernel
theorem dL_law_487 : decode cL_law 487 = .ok (.if_icmp .eq 913, 3) := by decide +kernel
theorem dL_law_490 : decode cL_law 490 = .ok (.iconst 0, 1) := by decide +kernel
theorem dL_law_491 : decode cL_law 491 = .ok (.ireturn, 1) := by decide +kernel
theorem dL_law_492 : decode cL_law 492 = .ok (.aload_n 1, 1) := by decide +kernel
theorem dL_law_493 : decode cL_law 493 = .ok (.aload_n 0, 1) := by decide +kernel
theorem dL_law_494 : decode cL_law 494 = .ok (.iload_n 3, 1) := by decide +kernel
theorem dL_law_495 : decode cL_law 495 = .ok (.iconst 1, 1) := by decide +kernel
theorem dL_law_496 : decode cL_law 496 = .ok (.iadd, 1) := by decide +kernel
theorem dL_law_497 : decode cL_law 497 = .ok (.iaload, 1) := by decide +kernel
theorem dL_law_498 : decode cL_law 498 = .ok (.aload_n 0, 1) := by decide +kernel
theorem dL_law_499 : decode cL_law 499 = .ok (.iload_n 3, 1) := by decide +kernel
theorem dL_law_500 : decode cL_law 500 = .ok (.iconst 2, 1) := by decide +kernel
theorem dL_law_501 : decode cL_law 501 = .ok (.iadd, 1) := by decide +kernel
theorem dL_law_502 : decode cL_law 502 = .ok (.iaload, 1) := by decide +kernel
theorem dL_law_503 : decode cL_law 503 = .ok (.aload_n 0, 1) := by decide +kernel
theorem dL_law_504 : decode cL_law 504 = .ok (.iload_n 3, 1) := by decide +kernel
theorem dL_law_505 : decode cL_law 505 = .ok (.iconst 3, 1) := by decide +kernel
theorem dL_law_506 : decode cL_law 506 = .ok (.iadd, 1) := by decide +kernel
theorem dL_law_507 : decode cL_law 507 = .ok (.iaload, 1) := by decide +kernel
theorem dL_law_508 : decode cL_law 508 = .ok (.invokevirtual 60, 3) := by decide +kernel
theorem dL_law_511 : decode cL_law 511 = .ok (.aload_n 2, 1) := by decide +kernel
theorem dL_law_512 : decode cL_law 512 = .ok (.aload_n 0, 1) := by decide +kernel
theorem dL_law_513 : decode cL_law 513 = .ok (.iload_n 3, 1) := by decide +kernel
theorem dL_law_514 : decode cL_law 514 = .ok (.iconst 1, 1) := by decide +kernel
theorem dL_law_515 : decode cL_law 515 = .ok (.iadd, 1) := by decide +kernel
theorem dL_law_516 : decode cL_law 516 = .ok (.iaload, 1) := by decide +kernel
theorem dL_law_517 : decode cL_law 517 = .ok (.aload_n 0, 1) := by decide +kernel
theorem dL_law_518 : decode cL_law 518 = .ok (.iload_n 3, 1) := by decide +kernel
theorem dL_law_519 : decode cL_law 519 = .ok (.iconst 2, 1) := by decide +kernel
theorem dL_law_520 : decode cL_law 520 = .ok (.iadd, 1) := by decide +kernel
theorem dL_law_521 : decode cL_law 521 = .ok (.iaload, 1) := by decide +kernel
theorem dL_law_522 : decode cL_law 522 = .ok (.aload_n 0, 1) := by decide +kernel
theorem dL_law_523 : decode cL_law 523 = .ok (.iload_n 3, 1) := by decide +kernel
theorem dL_law_524 : decode cL_law 524 = .ok (.iconst 3, 1) := by decide +kernel
theorem dL_law_525 : decode cL_law 525 = .ok (.iadd, 1) := by decide +kernel
theorem dL_law_526 : decode cL_law 526 = .ok (.iaload, 1) := by decide +kernel
theorem dL_law_527 : decode cL_law 527 = .ok (.invokevirtual 63, 3) := by decide +kernel
theorem dL_law_530 : decode cL_law 530 = .ok (.if_icmp .eq 870, 3) := by decide +kernel
theorem dL_law_533 : decode cL_law 533 = .ok (.iconst 0, 1) := by decide +kernel
theorem dL_law_534 : decode cL_law 534 = .ok (.ireturn, 1) := by decide +kernel
theorem dL_law_535 : decode cL_law 535 = .ok (.aload_n 1, 1) := by decide +kernel
theorem dL_law_536 : decode cL_law 536 = .ok (.aload_n 0, 1) := by decide +kernel
theorem dL_law_537 : decode cL_law 537 = .ok (.iload_n 3, 1) := by decide +kernel
theorem dL_law_538 : decode cL_law 538 = .ok (.iconst 1, 1) := by decide +kernel
theorem dL_law_539 : decode cL_law 539 = .ok (.iadd, 1) := by decide +kernel
theorem dL_law_540 : decode cL_law 540 = .ok (.iaload, 1) := by decide +kernel
theorem dL_law_541 : decode cL_law 541 = .ok (.aload_n 0, 1) := by decide +kernel
theorem dL_law_542 : decode cL_law 542 = .ok (.iload_n 3, 1) := by decide +kernel
theorem dL_law_543 : decode cL_law 543 = .ok (.iconst 2, 1) := by decide +kernel
theorem dL_law_544 : decode cL_law 544 = .ok (.iadd, 1) := by decide +kernel
theorem dL_law_545 : decode cL_law 545 = .ok (.iaload, 1) := by decide +kernel
theorem dL_law_546 : decode cL_law 546 = .ok (.invokevirtual 64, 3) := by decide +kernel
theorem dL_law_549 : decode cL_law 549 = .ok (.aload_n 2, 1) := by decide +kernel
theorem dL_law_550 : decode cL_law 550 = .ok (.aload_n 0, 1) := by decide +kernel
theorem dL_law_551 : decode cL_law 551 = .ok (.iload_n 3, 1) := by decide +kernel
theorem dL_law_552 : decode cL_law 552 = .ok (.iconst 1, 1) := by decide +kernel
theorem dL_law_553 : decode cL_law 553 = .ok (.iadd, 1) := by decide +kernel
theorem dL_law_554 : decode cL_law 554 = .ok (.iaload, 1) := by decide +kernel
theorem dL_law_555 : decode cL_law 555 = .ok (.aload_n 0, 1) := by decide +kernel
theorem dL_law_556 : decode cL_law 556 = .ok (.iload_n 3, 1) := by decide +kernel
theorem dL_law_557 : decode cL_law 557 = .ok (.iconst 2, 1) := by decide +kernel
theorem dL_law_558 : decode cL_law 558 = .ok (.iadd, 1) := by decide +kernel
theorem dL_law_559 : decode cL_law 559 = .ok (.iaload, 1) := by decide +kernel
theorem dL_law_560 : decode cL_law 560 = .ok (.invokevirtual 67, 3) := by decide +kernel
theorem dL_law_563 : decode cL_law 563 = .ok (.if_icmp .eq 837, 3) := by decide +kernel
theorem dL_law_566 : decode cL_law 566 = .ok (.iconst 0, 1) := by decide +kernel
theorem dL_law_567 : decode cL_law 567 = .ok (.ireturn, 1) := by decide +kernel
theorem dL_law_568 : decode cL_law 568 = .ok (.aload_n 1, 1) := by decide +kernel
theorem dL_law_569 : decode cL_law 569 = .ok (.aload_n 0, 1) := by decide +kernel
theorem dL_law_570 : decode cL_law 570 = .ok (.iload_n 3, 1) := by decide +kernel
theorem dL_law_571 : decode cL_law 571 = .ok (.iconst 1, 1) := by decide +kernel
theorem dL_law_572 : decode cL_law 572 = .ok (.iadd, 1) := by decide +kernel
theorem dL_law_573 : decode cL_law 573 = .ok (.iaload, 1) := by decide +kernel
theorem dL_law_574 : decode cL_law 574 = .ok (.aload_n 0, 1) := by decide +kernel
theorem dL_law_575 : decode cL_law 575 = .ok (.iload_n 3, 1) := by decide +kernel
theorem dL_law_576 : decode cL_law 576 = .ok (.iconst 2, 1) := by decide +kernel
theorem dL_law_577 : decode cL_law 577 = .ok (.iadd, 1) := by decide +kernel
theorem dL_law_578 : decode cL_law 578 = .ok (.iaload, 1) := by decide +kernel
theorem dL_law_579 : decode cL_law 579 = .ok (.invokevirtual 68, 3) := by decide +kernel
theorem dL_law_582 : decode cL_law 582 = .ok (.aload_n 2, 1) := by decide +kernel
theorem dL_law_583 : decode cL_law 583 = .ok (.aload_n 0, 1) := by decide +kernel
theorem dL_law_584 : decode cL_law 584 = .ok (.iload_n 3, 1) := by decide +kernel
theorem dL_law_585 : decode cL_law 585 = .ok (.iconst 1, 1) := by decide +kernel
theorem dL_law_586 : decode cL_law 586 = .ok (.iadd, 1) := by decide +kernel
theorem dL_law_587 : decode cL_law 587 = .ok (.iaload, 1) := by decide +kernel
theorem dL_law_588 : decode cL_law 588 = .ok (.aload_n 0, 1) := by decide +kernel
theorem dL_law_589 : decode cL_law 589 = .ok (.iload_n 3, 1) := by decide +kernel
theorem dL_law_590 : decode cL_law 590 = .ok (.iconst 2, 1) := by decide +kernel
theorem dL_law_591 : decode cL_law 591 = .ok (.iadd, 1) := by decide +kernel
theorem dL_law_592 : decode cL_law 592 = .ok (.iaload, 1) := by decide +kernel
theorem dL_law_593 : decode cL_law 593 = .ok (.invokevirtual 71, 3) := by decide +kernel
theorem dL_law_596 : decode cL_law 596 = .ok (.if_icmp .eq 804, 3) := by decide +kernel
theorem dL_law_599 : decode cL_law 599 = .ok (.iconst 0, 1) := by decide +kernel
theorem dL_law_600 : decode cL_law 600 = .ok (.ireturn, 1) := by decide +kernel
theorem dL_law_601 : decode cL_law 601 = .ok (.aload_n 1, 1) := by decide +kernel
theorem dL_law_602 : decode cL_law 602 = .ok (.aload_n 0, 1) := by decide +kernel
theorem dL_law_603 : decode cL_law 603 = .ok (.iload_n 3, 1) := by decide +kernel
theorem dL_law_604 : decode cL_law 604 = .ok (.iconst 1, 1) := by decide +kernel
theorem dL_law_605 : decode cL_law 605 = .ok (.iadd, 1) := by decide +kernel
theorem dL_law_606 : decode cL_law 606 = .ok (.iaload, 1) := by decide +kernel
theorem dL_law_607 : decode cL_law 607 = .ok (.invokevirtual 72, 3) := by decide +kernel
theorem dL_law_610 : decode cL_law 610 = .ok (.aload_n 2, 1) := by decide +kernel
theorem dL_law_611 : decode cL_law 611 = .ok (.aload_n 0, 1) := by decide +kernel
theorem dL_law_612 : decode cL_law 612 = .ok (.iload_n 3, 1) := by decide +kernel
theorem dL_law_613 : decode cL_law 613 = .ok (.iconst 1, 1) := by decide +kernel
theorem dL_law_614 : decode cL_law 614 = .ok (.iadd, 1) := by decide +kernel
theorem dL_law_615 : decode cL_law 615 = .ok (.iaload, 1) := by decide +kernel
theorem dL_law_616 : decode cL_law 616 = .ok (.invokevirtual 75, 3) := by decide +kernel
theorem dL_law_619 : decode cL_law 619 = .ok (.if_icmp .eq 781, 3) := by decide +kernel
theorem dL_law_622 : decode cL_law 622 = .ok (.iconst 0, 1) := by decide +kernel
theorem dL_law_623 : decode cL_law 623 = .ok (.ireturn, 1) := by decide +kernel
theorem dL_law_624 : decode cL_law 624 = .ok (.aload_n 1, 1) := by decide +kernel
theorem dL_law_625 : decode cL_law 625 = .ok (.invokevirtual 76, 3) := by decide +kernel
theorem dL_law_628 : decode cL_law 628 = .ok (.aload_n 2, 1) := by decide +kernel
theorem dL_law_629 : decode cL_law 629 = .ok (.invokevirtual 79, 3) := by decide +kernel
theorem dL_law_632 : decode cL_law 632 = .ok (.if_icmp .eq 768, 3) := by decide +kernel
theorem dL_law_635 : decode cL_law 635 = .ok (.iconst 0, 1) := by decide +kernel
theorem dL_law_636 : decode cL_law 636 = .ok (.ireturn, 1) := by decide +kernel
theorem dL_law_637 : decode cL_law 637 = .ok (.aload_n 1, 1) := by decide +kernel
theorem dL_law_638 : decode cL_law 638 = .ok (.aload_n 0, 1) := by decide +kernel
theorem dL_law_639 : decode cL_law 639 = .ok (.iload_n 3, 1) := by decide +kernel
theorem dL_law_640 : decode cL_law 640 = .ok (.iconst 1, 1) := by decide +kernel
theorem dL_law_641 : decode cL_law 641 = .ok (.iadd, 1) := by decide +kernel
theorem dL_law_642 : decode cL_law 642 = .ok (.iaload, 1) := by decide +kernel
theorem dL_law_643 : decode cL_law 643 = .ok (.aload_n 0, 1) := by decide +kernel
theorem dL_law_644 : decode cL_law 644 = .ok (.iload_n 3, 1) := by decide +kernel
theorem dL_law_645 : decode cL_law 645 = .ok (.iconst 2, 1) := by decide +kernel
theorem dL_law_646 : decode cL_law 646 = .ok (.iadd, 1) := by decide +kernel
theorem dL_law_647 : decode cL_law 647 = .ok (.iaload, 1) := by decide +kernel
theorem dL_law_648 : decode cL_law 648 = .ok (.invokevirtual 80, 3) := by decide +kernel
theorem dL_law_651 : decode cL_law 651 = .ok (.aload_n 2, 1) := by decide +kernel
theorem dL_law_652 : decode cL_law 652 = .ok (.aload_n 0, 1) := by decide +kernel
theorem dL_law_653 : decode cL_law 653 = .ok (.iload_n 3, 1) := by decide +kernel
theorem dL_law_654 : decode cL_law 654 = .ok (.iconst 1, 1) := by decide +kernel
theorem dL_law_655 : decode cL_law 655 = .ok (.iadd, 1) := by decide +kernel
theorem dL_law_656 : decode cL_law 656 = .ok (.iaload, 1) := by decide +kernel
theorem dL_law_657 : decode cL_law 657 = .ok (.aload_n 0, 1) := by decide +kernel
theorem dL_law_658 : decode cL_law 658 = .ok (.iload_n 3, 1) := by decide +kernel
theorem dL_law_659 : decode cL_law 659 = .ok (.iconst 2, 1) := by decide +kernel
theorem dL_law_660 : decode cL_law 660 = .ok (.iadd, 1) := by decide +kernel
theorem dL_law_661 : decode cL_law 661 = .ok (.iaload, 1) := by decide +kernel
theorem dL_law_662 : decode cL_law 662 = .ok (.invokevirtual 83, 3) := by decide +kernel
theorem dL_law_665 : decode cL_law 665 = .ok (.if_icmp .eq 735, 3) := by decide +kernel
theorem dL_law_668 : decode cL_law 668 = .ok (.iconst 0, 1) := by decide +kernel
theorem dL_law_669 : decode cL_law 669 = .ok (.ireturn, 1) := by decide +kernel
theorem dL_law_670 : decode cL_law 670 = .ok (.aload_n 1, 1) := by decide +kernel
theorem dL_law_671 : decode cL_law 671 = .ok (.aload_n 0, 1) := by decide +kernel
theorem dL_law_672 : decode cL_law 672 = .ok (.iload_n 3, 1) := by decide +kernel
theorem dL_law_673 : decode cL_law 673 = .ok (.iconst 1, 1) := by decide +kernel
theorem dL_law_674 : decode cL_law 674 = .ok (.iadd, 1) := by decide +kernel
theorem dL_law_675 : decode cL_law 675 = .ok (.iaload, 1) := by decide +kernel
theorem dL_law_676 : decode cL_law 676 = .ok (.aload_n 0, 1) := by decide +kernel
theorem dL_law_677 : decode cL_law 677 = .ok (.iload_n 3, 1) := by decide +kernel
theorem dL_law_678 : decode cL_law 678 = .ok (.iconst 2, 1) := by decide +kernel
theorem dL_law_679 : decode cL_law 679 = .ok (.iadd, 1) := by decide +kernel
theorem dL_law_680 : decode cL_law 680 = .ok (.iaload, 1) := by decide +kernel
theorem dL_law_681 : decode cL_law 681 = .ok (.aload_n 0, 1) := by decide +kernel
theorem dL_law_682 : decode cL_law 682 = .ok (.iload_n 3, 1) := by decide +kernel
theorem dL_law_683 : decode cL_law 683 = .ok (.iconst 3, 1) := by decide +kernel
theorem dL_law_684 : decode cL_law 684 = .ok (.iadd, 1) := by decide +kernel
theorem dL_law_685 : decode cL_law 685 = .ok (.iaload, 1) := by decide +kernel
theorem dL_law_686 : decode cL_law 686 = .ok (.invokevirtual 84, 3) := by decide +kernel
theorem dL_law_689 : decode cL_law 689 = .ok (.aload_n 2, 1) := by decide +kernel
theorem dL_law_690 : decode cL_law 690 = .ok (.aload_n 0, 1) := by decide +kernel
theorem dL_law_691 : decode cL_law 691 = .ok (.iload_n 3, 1) := by decide +kernel
theorem dL_law_692 : decode cL_law 692 = .ok (.iconst 1, 1) := by decide +kernel
theorem dL_law_693 : decode cL_law 693 = .ok (.iadd, 1) := by decide +kernel
theorem dL_law_694 : decode cL_law 694 = .ok (.iaload, 1) := by decide +kernel
theorem dL_law_695 : decode cL_law 695 = .ok (.aload_n 0, 1) := by decide +kernel
theorem dL_law_696 : decode cL_law 696 = .ok (.iload_n 3, 1) := by decide +kernel
theorem dL_law_697 : decode cL_law 697 = .ok (.iconst 2, 1) := by decide +kernel
theorem dL_law_698 : decode cL_law 698 = .ok (.iadd, 1) := by decide +kernel
theorem dL_law_699 : decode cL_law 699 = .ok (.iaload, 1) := by decide +kernel
theorem dL_law_700 : decode cL_law 700 = .ok (.aload_n 0, 1) := by decide +kernel
theorem dL_law_701 : decode cL_law 701 = .ok (.iload_n 3, 1) := by decide +kernel
theorem dL_law_702 : decode cL_law 702 = .ok (.iconst 3, 1) := by decide +kernel
theorem dL_law_703 : decode cL_law 703 = .ok (.iadd, 1) := by decide +kernel
theorem dL_law_704 : decode cL_law 704 = .ok (.iaload, 1) := by decide +kernel
theorem dL_law_705 : decode cL_law 705 = .ok (.invokevirtual 87, 3) := by decide +kernel
theorem dL_law_708 : decode cL_law 708 = .ok (.if_icmp .eq 692, 3) := by decide +kernel
theorem dL_law_711 : decode cL_law 711 = .ok (.iconst 0, 1) := by decide +kernel
theorem dL_law_712 : decode cL_law 712 = .ok (.ireturn, 1) := by decide +kernel
theorem dL_law_713 : decode cL_law 713 = .ok (.aload_n 1, 1) := by decide +kernel
theorem dL_law_714 : decode cL_law 714 = .ok (.aload_n 0, 1) := by decide +kernel
theorem dL_law_715 : decode cL_law 715 = .ok (.iload_n 3, 1) := by decide +kernel
theorem dL_law_716 : decode cL_law 716 = .ok (.iconst 1, 1) := by decide +kernel
theorem dL_law_717 : decode cL_law 717 = .ok (.iadd, 1) := by decide +kernel
theorem dL_law_718 : decode cL_law 718 = .ok (.iaload, 1) := by decide +kernel
theorem dL_law_719 : decode cL_law 719 = .ok (.aload_n 0, 1) := by decide +kernel
theorem dL_law_720 : decode cL_law 720 = .ok (.iload_n 3, 1) := by decide +kernel
theorem dL_law_721 : decode cL_law 721 = .ok (.iconst 2, 1) := by decide +kernel
theorem dL_law_722 : decode cL_law 722 = .ok (.iadd, 1) := by decide +kernel
theorem dL_law_723 : decode cL_law 723 = .ok (.iaload, 1) := by decide +kernel
theorem dL_law_724 : decode cL_law 724 = .ok (.aload_n 0, 1) := by decide +kernel
theorem dL_law_725 : decode cL_law 725 = .ok (.iload_n 3, 1) := by decide +kernel
theorem dL_law_726 : decode cL_law 726 = .ok (.iconst 3, 1) := by decide +kernel
theorem dL_law_727 : decode cL_law 727 = .ok (.iadd, 1) := by decide +kernel
theorem dL_law_728 : decode cL_law 728 = .ok (.iaload, 1) := by decide +kernel
theorem dL_law_729 : decode cL_law 729 = .ok (.invokevirtual 88, 3) := by decide +kernel
theorem dL_law_732 : decode cL_law 732 = .ok (.aload_n 2, 1) := by decide +kernel
theorem dL_law_733 : decode cL_law 733 = .ok (.aload_n 0, 1) := by decide +kernel
theorem dL_law_734 : decode cL_law 734 = .ok (.iload_n 3, 1) := by decide +kernel
theorem dL_law_735 : decode cL_law 735 = .ok (.iconst 1, 1) := by decide +kernel
theorem dL_law_736 : decode cL_law 736 = .ok (.iadd, 1) := by decide +kernel
theorem dL_law_737 : decode cL_law 737 = .ok (.iaload, 1) := by decide +kernel
theorem dL_law_738 : decode cL_law 738 = .ok (.aload_n 0, 1) := by decide +kernel
theorem dL_law_739 : decode cL_law 739 = .ok (.iload_n 3, 1) := by decide +kernel
theorem dL_law_740 : decode cL_law 740 = .ok (.iconst 2, 1) := by decide +kernel
theorem dL_law_741 : decode cL_law 741 = .ok (.iadd, 1) := by decide +kernel
theorem dL_law_742 : decode cL_law 742 = .ok (.iaload, 1) := by decide +kernel
theorem dL_law_743 : decode cL_law 743 = .ok (.aload_n 0, 1) := by decide +kernel
theorem dL_law_744 : decode cL_law 744 = .ok (.iload_n 3, 1) := by decide +kernel
theorem dL_law_745 : decode cL_law 745 = .ok (.iconst 3, 1) := by decide +kernel
theorem dL_law_746 : decode cL_law 746 = .ok (.iadd, 1) := by decide +kernel
theorem dL_law_747 : decode cL_law 747 = .ok (.iaload, 1) := by decide +kernel
theorem dL_law_748 : decode cL_law 748 = .ok (.invokevirtual 91, 3) := by decide +kernel
theorem dL_law_751 : decode cL_law 751 = .ok (.if_icmp .eq 649, 3) := by decide +kernel
theorem dL_law_754 : decode cL_law 754 = .ok (.iconst 0, 1) := by decide +kernel
theorem dL_law_755 : decode cL_law 755 = .ok (.ireturn, 1) := by decide +kernel
theorem dL_law_756 : decode cL_law 756 = .ok (.aload_n 1, 1) := by decide +kernel
theorem dL_law_757 : decode cL_law 757 = .ok (.aload_n 0, 1) := by decide +kernel
theorem dL_law_758 : decode cL_law 758 = .ok (.iload_n 3, 1) := by decide +kernel
theorem dL_law_759 : decode cL_law 759 = .ok (.iconst 1, 1) := by decide +kernel
theorem dL_law_760 : decode cL_law 760 = .ok (.iadd, 1) := by decide +kernel
theorem dL_law_761 : decode cL_law 761 = .ok (.iaload, 1) := by decide +kernel
theorem dL_law_762 : decode cL_law 762 = .ok (.invokevirtual 92, 3) := by decide +kernel
theorem dL_law_765 : decode cL_law 765 = .ok (.aload_n 2, 1) := by decide +kernel
theorem dL_law_766 : decode cL_law 766 = .ok (.aload_n 0, 1) := by decide +kernel
theorem dL_law_767 : decode cL_law 767 = .ok (.iload_n 3, 1) := by decide +kernel
theorem dL_law_768 : decode cL_law 768 = .ok (.iconst 1, 1) := by decide +kernel
theorem dL_law_769 : decode cL_law 769 = .ok (.iadd, 1) := by decide +kernel
theorem dL_law_770 : decode cL_law 770 = .ok (.iaload, 1) := by decide +kernel
theorem dL_law_771 : decode cL_law 771 = .ok (.invokevirtual 95, 3) := by decide +kernel
theorem dL_law_774 : decode cL_law 774 = .ok (.if_icmp .eq 626, 3) := by decide +kernel
theorem dL_law_777 : decode cL_law 777 = .ok (.iconst 0, 1) := by decide +kernel
theorem dL_law_778 : decode cL_law 778 = .ok (.ireturn, 1) := by decide +kernel
theorem dL_law_779 : decode cL_law 779 = .ok (.aload_n 1, 1) := by decide +kernel
theorem dL_law_780 : decode cL_law 780 = .ok (.aload_n 0, 1) := by decide +kernel
theorem dL_law_781 : decode cL_law 781 = .ok (.iload_n 3, 1) := by decide +kernel
theorem dL_law_782 : decode cL_law 782 = .ok (.iconst 1, 1) := by decide +kernel
theorem dL_law_783 : decode cL_law 783 = .ok (.iadd, 1) := by decide +kernel
theorem dL_law_784 : decode cL_law 784 = .ok (.iaload, 1) := by decide +kernel
theorem dL_law_785 : decode cL_law 785 = .ok (.aload_n 0, 1) := by decide +kernel
theorem dL_law_786 : decode cL_law 786 = .ok (.iload_n 3, 1) := by decide +kernel
theorem dL_law_787 : decode cL_law 787 = .ok (.iconst 2, 1) := by decide +kernel
theorem dL_law_788 : decode cL_law 788 = .ok (.iadd, 1) := by decide +kernel
theorem dL_law_789 : decode cL_law 789 = .ok (.iaload, 1) := by decide +kernel
theorem dL_law_790 : decode cL_law 790 = .ok (.aload_n 0, 1) := by decide +kernel
theorem dL_law_791 : decode cL_law 791 = .ok (.iload_n 3, 1) := by decide +kernel
theorem dL_law_792 : decode cL_law 792 = .ok (.iconst 3, 1) := by decide +kernel
theorem dL_law_793 : decode cL_law 793 = .ok (.iadd, 1) := by decide +kernel
theorem dL_law_794 : decode cL_law 794 = .ok (.iaload, 1) := by decide +kernel
theorem dL_law_795 : decode cL_law 795 = .ok (.ifCond .eq 7, 3) := by decide +kernel
theorem dL_law_798 : decode cL_law 798 = .ok (.iconst 1, 1) := by decide +kernel
theorem dL_law_799 : decode cL_law 799 = .ok (.goto 4, 3) := by decide +kernel
theorem dL_law_802 : decode cL_law 802 = .ok (.iconst 0, 1) := by decide +kernel
theorem dL_law_803 : decode cL_law 803 = .ok (.invokevirtual 96, 3) := by decide +kernel
theorem dL_law_806 : decode cL_law 806 = .ok (.aload_n 2, 1) := by decide +kernel
theorem dL_law_807 : decode cL_law 807 = .ok (.aload_n 0, 1) := by decide +kernel
theorem dL_law_808 : decode cL_law 808 = .ok (.iload_n 3, 1) := by decide +kernel
theorem dL_law_809 : decode cL_law 809 = .ok (.iconst 1, 1) := by decide +kernel
theorem dL_law_810 : decode cL_law 810 = .ok (.iadd, 1) := by decide +kernel
theorem dL_law_811 : decode cL_law 811 = .ok (.iaload, 1) := by decide +kernel
theorem dL_law_812 : decode cL_law 812 = .ok (.aload_n 0, 1) := by decide +kernel
theorem dL_law_813 : decode cL_law 813 = .ok (.iload_n 3, 1) := by decide +kernel
theorem dL_law_814 : decode cL_law 814 = .ok (.iconst 2, 1) := by decide +kernel
theorem dL_law_815 : decode cL_law 815 = .ok (.iadd, 1) := by decide +kernel
theorem dL_law_816 : decode cL_law 816 = .ok (.iaload, 1) := by decide +kernel
theorem dL_law_817 : decode cL_law 817 = .ok (.aload_n 0, 1) := by decide +kernel
theorem dL_law_818 : decode cL_law 818 = .ok (.iload_n 3, 1) := by decide +kernel
theorem dL_law_819 : decode cL_law 819 = .ok (.iconst 3, 1) := by decide +kernel
theorem dL_law_820 : decode cL_law 820 = .ok (.iadd, 1) := by decide +kernel
theorem dL_law_821 : decode cL_law 821 = .ok (.iaload, 1) := by decide +kernel
theorem dL_law_822 : decode cL_law 822 = .ok (.ifCond .eq 7, 3) := by decide +kernel
theorem dL_law_825 : decode cL_law 825 = .ok (.iconst 1, 1) := by decide +kernel
theorem dL_law_826 : decode cL_law 826 = .ok (.goto 4, 3) := by decide +kernel
theorem dL_law_829 : decode cL_law 829 = .ok (.iconst 0, 1) := by decide +kernel
theorem dL_law_830 : decode cL_law 830 = .ok (.invokevirtual 100, 3) := by decide +kernel
theorem dL_law_833 : decode cL_law 833 = .ok (.if_icmp .eq 567, 3) := by decide +kernel
theorem dL_law_836 : decode cL_law 836 = .ok (.iconst 0, 1) := by decide +kernel
theorem dL_law_837 : decode cL_law 837 = .ok (.ireturn, 1) := by decide +kernel
theorem dL_law_838 : decode cL_law 838 = .ok (.aload_n 1, 1) := by decide +kernel
theorem dL_law_839 : decode cL_law 839 = .ok (.aload_n 0, 1) := by decide +kernel
theorem dL_law_840 : decode cL_law 840 = .ok (.iload_n 3, 1) := by decide +kernel
theorem dL_law_841 : decode cL_law 841 = .ok (.iconst 1, 1) := by decide +kernel
theorem dL_law_842 : decode cL_law 842 = .ok (.iadd, 1) := by decide +kernel
theorem dL_law_843 : decode cL_law 843 = .ok (.iaload, 1) := by decide +kernel
theorem dL_law_844 : decode cL_law 844 = .ok (.aload_n 0, 1) := by decide +kernel
theorem dL_law_845 : decode cL_law 845 = .ok (.iload_n 3, 1) := by decide +kernel
theorem dL_law_846 : decode cL_law 846 = .ok (.iconst 2, 1) := by decide +kernel
theorem dL_law_847 : decode cL_law 847 = .ok (.iadd, 1) := by decide +kernel
theorem dL_law_848 : decode cL_law 848 = .ok (.iaload, 1) := by decide +kernel
theorem dL_law_849 : decode cL_law 849 = .ok (.aload_n 0, 1) := by decide +kernel
theorem dL_law_850 : decode cL_law 850 = .ok (.iload_n 3, 1) := by decide +kernel
theorem dL_law_851 : decode cL_law 851 = .ok (.iconst 3, 1) := by decide +kernel
theorem dL_law_852 : decode cL_law 852 = .ok (.iadd, 1) := by decide +kernel
theorem dL_law_853 : decode cL_law 853 = .ok (.iaload, 1) := by decide +kernel
theorem dL_law_854 : decode cL_law 854 = .ok (.invokevirtual 101, 3) := by decide +kernel
theorem dL_law_857 : decode cL_law 857 = .ok (.aload_n 2, 1) := by decide +kernel
theorem dL_law_858 : decode cL_law 858 = .ok (.aload_n 0, 1) := by decide +kernel
theorem dL_law_859 : decode cL_law 859 = .ok (.iload_n 3, 1) := by decide +kernel
theorem dL_law_860 : decode cL_law 860 = .ok (.iconst 1, 1) := by decide +kernel
theorem dL_law_861 : decode cL_law 861 = .ok (.iadd, 1) := by decide +kernel
theorem dL_law_862 : decode cL_law 862 = .ok (.iaload, 1) := by decide +kernel
theorem dL_law_863 : decode cL_law 863 = .ok (.aload_n 0, 1) := by decide +kernel
theorem dL_law_864 : decode cL_law 864 = .ok (.iload_n 3, 1) := by decide +kernel
theorem dL_law_865 : decode cL_law 865 = .ok (.iconst 2, 1) := by decide +kernel
theorem dL_law_866 : decode cL_law 866 = .ok (.iadd, 1) := by decide +kernel
theorem dL_law_867 : decode cL_law 867 = .ok (.iaload, 1) := by decide +kernel
theorem dL_law_868 : decode cL_law 868 = .ok (.aload_n 0, 1) := by decide +kernel
theorem dL_law_869 : decode cL_law 869 = .ok (.iload_n 3, 1) := by decide +kernel
theorem dL_law_870 : decode cL_law 870 = .ok (.iconst 3, 1) := by decide +kernel
theorem dL_law_871 : decode cL_law 871 = .ok (.iadd, 1) := by decide +kernel
theorem dL_law_872 : decode cL_law 872 = .ok (.iaload, 1) := by decide +kernel
theorem dL_law_873 : decode cL_law 873 = .ok (.invokevirtual 104, 3) := by decide +kernel
theorem dL_law_876 : decode cL_law 876 = .ok (.if_icmp .eq 524, 3) := by decide +kernel
theorem dL_law_879 : decode cL_law 879 = .ok (.iconst 0, 1) := by decide +kernel
theorem dL_law_880 : decode cL_law 880 = .ok (.ireturn, 1) := by decide +kernel
theorem dL_law_881 : decode cL_law 881 = .ok (.aload_n 1, 1) := by decide +kernel
theorem dL_law_882 : decode cL_law 882 = .ok (.aload_n 0, 1) := by decide +kernel
theorem dL_law_883 : decode cL_law 883 = .ok (.iload_n 3, 1) := by decide +kernel
theorem dL_law_884 : decode cL_law 884 = .ok (.iconst 1, 1) := by decide +kernel
theorem dL_law_885 : decode cL_law 885 = .ok (.iadd, 1) := by decide +kernel
theorem dL_law_886 : decode cL_law 886 = .ok (.iaload, 1) := by decide +kernel
theorem dL_law_887 : decode cL_law 887 = .ok (.invokevirtual 105, 3) := by decide +kernel
theorem dL_law_890 : decode cL_law 890 = .ok (.aload_n 2, 1) := by decide +kernel
theorem dL_law_891 : decode cL_law 891 = .ok (.aload_n 0, 1) := by decide +kernel
theorem dL_law_892 : decode cL_law 892 = .ok (.iload_n 3, 1) := by decide +kernel
theorem dL_law_893 : decode cL_law 893 = .ok (.iconst 1, 1) := by decide +kernel
theorem dL_law_894 : decode cL_law 894 = .ok (.iadd, 1) := by decide +kernel
theorem dL_law_895 : decode cL_law 895 = .ok (.iaload, 1) := by decide +kernel
theorem dL_law_896 : decode cL_law 896 = .ok (.invokevirtual 108, 3) := by decide +kernel
theorem dL_law_899 : decode cL_law 899 = .ok (.if_icmp .eq 501, 3) := by decide +kernel
theorem dL_law_902 : decode cL_law 902 = .ok (.iconst 0, 1) := by decide +kernel
theorem dL_law_903 : decode cL_law 903 = .ok (.ireturn, 1) := by decide +kernel
theorem dL_law_904 : decode cL_law 904 = .ok (.aload_n 1, 1) := by decide +kernel
theorem dL_law_905 : decode cL_law 905 = .ok (.invokevirtual 109, 3) := by decide +kernel
theorem dL_law_908 : decode cL_law 908 = .ok (.aload_n 2, 1) := by decide +kernel
theorem dL_law_909 : decode cL_law 909 = .ok (.invokevirtual 112, 3) := by decide +kernel
theorem dL_law_912 : decode cL_law 912 = .ok (.if_icmp .eq 488, 3) := by decide +kernel
theorem dL_law_915 : decode cL_law 915 = .ok (.iconst 0, 1) := by decide +kernel
theorem dL_law_916 : decode cL_law 916 = .ok (.ireturn, 1) := by decide +kernel
theorem dL_law_917 : decode cL_law 917 = .ok (.aload_n 1, 1) := by decide +kernel
theorem dL_law_918 : decode cL_law 918 = .ok (.aload_n 0, 1) := by decide +kernel
theorem dL_law_919 : decode cL_law 919 = .ok (.iload_n 3, 1) := by decide +kernel
theorem dL_law_920 : decode cL_law 920 = .ok (.iconst 1, 1) := by decide +kernel
theorem dL_law_921 : decode cL_law 921 = .ok (.iadd, 1) := by decide +kernel
theorem dL_law_922 : decode cL_law 922 = .ok (.iaload, 1) := by decide +kernel
theorem dL_law_923 : decode cL_law 923 = .ok (.invokevirtual 113, 3) := by decide +kernel
theorem dL_law_926 : decode cL_law 926 = .ok (.aload_n 2, 1) := by decide +kernel
theorem dL_law_927 : decode cL_law 927 = .ok (.aload_n 0, 1) := by decide +kernel
theorem dL_law_928 : decode cL_law 928 = .ok (.iload_n 3, 1) := by decide +kernel
theorem dL_law_929 : decode cL_law 929 = .ok (.iconst 1, 1) := by decide +kernel
theorem dL_law_930 : decode cL_law 930 = .ok (.iadd, 1) := by decide +kernel
theorem dL_law_931 : decode cL_law 931 = .ok (.iaload, 1) := by decide +kernel
theorem dL_law_932 : decode cL_law 932 = .ok (.invokevirtual 116, 3) := by decide +kernel
theorem dL_law_935 : decode cL_law 935 = .ok (.if_icmp .eq 465, 3) := by decide +kernel
theorem dL_law_938 : decode cL_law 938 = .ok (.iconst 0, 1) := by decide +kernel
theorem dL_law_939 : decode cL_law 939 = .ok (.ireturn, 1) := by decide +kernel
theorem dL_law_940 : decode cL_law 940 = .ok (.aload_n 1, 1) := by decide +kernel
theorem dL_law_941 : decode cL_law 941 = .ok (.aload_n 0, 1) := by decide +kernel
theorem dL_law_942 : decode cL_law 942 = .ok (.iload_n 3, 1) := by decide +kernel
theorem dL_law_943 : decode cL_law 943 = .ok (.iconst 1, 1) := by decide +kernel
theorem dL_law_944 : decode cL_law 944 = .ok (.iadd, 1) := by decide +kernel
theorem dL_law_945 : decode cL_law 945 = .ok (.iaload, 1) := by decide +kernel
theorem dL_law_946 : decode cL_law 946 = .ok (.aload_n 0, 1) := by decide +kernel
theorem dL_law_947 : decode cL_law 947 = .ok (.iload_n 3, 1) := by decide +kernel
theorem dL_law_948 : decode cL_law 948 = .ok (.iconst 2, 1) := by decide +kernel
theorem dL_law_949 : decode cL_law 949 = .ok (.iadd, 1) := by decide +kernel
theorem dL_law_950 : decode cL_law 950 = .ok (.iaload, 1) := by decide +kernel
theorem dL_law_951 : decode cL_law 951 = .ok (.invokevirtual 117, 3) := by decide +kernel
theorem dL_law_954 : decode cL_law 954 = .ok (.aload_n 2, 1) := by decide +kernel
theorem dL_law_955 : decode cL_law 955 = .ok (.aload_n 0, 1) := by decide +kernel
theorem dL_law_956 : decode cL_law 956 = .ok (.iload_n 3, 1) := by decide +kernel
theorem dL_law_957 : decode cL_law 957 = .ok (.iconst 1, 1) := by decide +kernel
theorem dL_law_958 : decode cL_law 958 = .ok (.iadd, 1) := by decide +kernel
theorem dL_law_959 : decode cL_law 959 = .ok (.iaload, 1) := by decide +kernel
theorem dL_law_960 : decode cL_law 960 = .ok (.aload_n 0, 1) := by decide +kernel
theorem dL_law_961 : decode cL_law 961 = .ok (.iload_n 3, 1) := by decide +kernel
theorem dL_law_962 : decode cL_law 962 = .ok (.iconst 2, 1) := by decide +kernel
theorem dL_law_963 : decode cL_law 963 = .ok (.iadd, 1) := by decide +kernel
theorem dL_law_964 : decode cL_law 964 = .ok (.iaload, 1) := by decide +kernel
theorem dL_law_965 : decode cL_law 965 = .ok (.invokevirtual 120, 3) := by decide +kernel
theorem dL_law_968 : decode cL_law 968 = .ok (.if_icmp .eq 432, 3) := by decide +kernel
theorem dL_law_971 : decode cL_law 971 = .ok (.iconst 0, 1) := by decide +kernel
theorem dL_law_972 : decode cL_law 972 = .ok (.ireturn, 1) := by decide +kernel
theorem dL_law_973 : decode cL_law 973 = .ok (.aload_n 1, 1) := by decide +kernel
theorem dL_law_974 : decode cL_law 974 = .ok (.aload_n 0, 1) := by decide +kernel
theorem dL_law_975 : decode cL_law 975 = .ok (.iload_n 3, 1) := by decide +kernel
theorem dL_law_976 : decode cL_law 976 = .ok (.iconst 1, 1) := by decide +kernel
theorem dL_law_977 : decode cL_law 977 = .ok (.iadd, 1) := by decide +kernel
theorem dL_law_978 : decode cL_law 978 = .ok (.iaload, 1) := by decide +kernel
theorem dL_law_979 : decode cL_law 979 = .ok (.aload_n 0, 1) := by decide +kernel
theorem dL_law_980 : decode cL_law 980 = .ok (.iload_n 3, 1) := by decide +kernel
theorem dL_law_981 : decode cL_law 981 = .ok (.iconst 2, 1) := by decide +kernel
theorem dL_law_982 : decode cL_law 982 = .ok (.iadd, 1) := by decide +kernel
theorem dL_law_983 : decode cL_law 983 = .ok (.iaload, 1) := by decide +kernel
theorem dL_law_984 : decode cL_law 984 = .ok (.aload_n 0, 1) := by decide +kernel
theorem dL_law_985 : decode cL_law 985 = .ok (.iload_n 3, 1) := by decide +kernel
theorem dL_law_986 : decode cL_law 986 = .ok (.iconst 3, 1) := by decide +kernel
theorem dL_law_987 : decode cL_law 987 = .ok (.iadd, 1) := by decide +kernel
theorem dL_law_988 : decode cL_law 988 = .ok (.iaload, 1) := by decide +kernel
theorem dL_law_989 : decode cL_law 989 = .ok (.invokevirtual 121, 3) := by decide +kernel
theorem dL_law_992 : decode cL_law 992 = .ok (.aload_n 2, 1) := by decide +kernel
theorem dL_law_993 : decode cL_law 993 = .ok (.aload_n 0, 1) := by decide +kernel
theorem dL_law_994 : decode cL_law 994 = .ok (.iload_n 3, 1) := by decide +kernel
theorem dL_law_995 : decode cL_law 995 = .ok (.iconst 1, 1) := by decide +kernel
theorem dL_law_996 : decode cL_law 996 = .ok (.iadd, 1) := by decide +kernel
theorem dL_law_997 : decode cL_law 997 = .ok (.iaload, 1) := by decide +kernel
theorem dL_law_998 : decode cL_law 998 = .ok (.aload_n 0, 1) := by decide +kernel
theorem dL_law_999 : decode cL_law 999 = .ok (.iload_n 3, 1) := by decide +kernel
theorem dL_law_1000 : decode cL_law 1000 = .ok (.iconst 2, 1) := by decide +kernel
theorem dL_law_1001 : decode cL_law 1001 = .ok (.iadd, 1) := by decide +kernel
theorem dL_law_1002 : decode cL_law 1002 = .ok (.iaload, 1) := by decide +kernel
theorem dL_law_1003 : decode cL_law 1003 = .ok (.aload_n 0, 1) := by decide +kernel
theorem dL_law_1004 : decode cL_law 1004 = .ok (.iload_n 3, 1) := by decide +kernel
theorem dL_law_1005 : decode cL_law 1005 = .ok (.iconst 3, 1) := by decide +kernel
theorem dL_law_1006 : decode cL_law 1006 = .ok (.iadd, 1) := by decide +kernel
theorem dL_law_1007 : decode cL_law 1007 = .ok (.iaload, 1) := by decide +kernel
theorem dL_law_1008 : decode cL_law 1008 = .ok (.invokevirtual 124, 3) := by decide +kernel
theorem dL_law_1011 : decode cL_law 1011 = .ok (.if_icmp .eq 389, 3) := by decide +kernel
theorem dL_law_1014 : decode cL_law 1014 = .ok (.iconst 0, 1) := by decide +kernel
theorem dL_law_1015 : decode cL_law 1015 = .ok (.ireturn, 1) := by decide +kernel
theorem dL_law_1016 : decode cL_law 1016 = .ok (.aload_n 1, 1) := by decide +kernel
theorem dL_law_1017 : decode cL_law 1017 = .ok (.aload_n 0, 1) := by decide +kernel
theorem dL_law_1018 : decode cL_law 1018 = .ok (.iload_n 3, 1) := by decide +kernel
theorem dL_law_1019 : decode cL_law 1019 = .ok (.iconst 1, 1) := by decide +kernel
theorem dL_law_1020 : decode cL_law 1020 = .ok (.iadd, 1) := by decide +kernel
theorem dL_law_1021 : decode cL_law 1021 = .ok (.iaload, 1) := by decide +kernel
theorem dL_law_1022 : decode cL_law 1022 = .ok (.aload_n 0, 1) := by decide +kernel
theorem dL_law_1023 : decode cL_law 1023 = .ok (.iload_n 3, 1) := by decide +kernel
theorem dL_law_1024 : decode cL_law 1024 = .ok (.iconst 2, 1) := by decide +kernel
theorem dL_law_1025 : decode cL_law 1025 = .ok (.iadd, 1) := by decide +kernel
theorem dL_law_1026 : decode cL_law 1026 = .ok (.iaload, 1) := by decide +kernel
theorem dL_law_1027 : decode cL_law 1027 = .ok (.invokevirtual 125, 3) := by decide +kernel
theorem dL_law_1030 : decode cL_law 1030 = .ok (.aload_n 2, 1) := by decide +kernel
theorem dL_law_1031 : decode cL_law 1031 = .ok (.aload_n 0, 1) := by decide +kernel
theorem dL_law_1032 : decode cL_law 1032 = .ok (.iload_n 3, 1) := by decide +kernel
theorem dL_law_1033 : decode cL_law 1033 = .ok (.iconst 1, 1) := by decide +kernel
theorem dL_law_1034 : decode cL_law 1034 = .ok (.iadd, 1) := by decide +kernel
theorem dL_law_1035 : decode cL_law 1035 = .ok (.iaload, 1) := by decide +kernel
theorem dL_law_1036 : decode cL_law 1036 = .ok (.aload_n 0, 1) := by decide +kernel
theorem dL_law_1037 : decode cL_law 1037 = .ok (.iload_n 3, 1) := by decide +kernel
theorem dL_law_1038 : decode cL_law 1038 = .ok (.iconst 2, 1) := by decide +kernel
theorem dL_law_1039 : decode cL_law 1039 = .ok (.iadd, 1) := by decide +kernel
theorem dL_law_1040 : decode cL_law 1040 = .ok (.iaload, 1) := by decide +kernel
theorem dL_law_1041 : decode cL_law 1041 = .ok (.invokevirtual 128, 3) := by decide +kernel
theorem dL_law_1044 : decode cL_law 1044 = .ok (.if_icmp .eq 356, 3) := by decide +kernel
theorem dL_law_1047 : decode cL_law 1047 = .ok (.iconst 0, 1) := by decide +kernel
theorem dL_law_1048 : decode cL_law 1048 = .ok (.ireturn, 1) := by decide +kernel
theorem dL_law_1049 : decode cL_law 1049 = .ok (.aload_n 1, 1) := by decide +kernel
theorem dL_law_1050 : decode cL_law 1050 = .ok (.aload_n 0, 1) := by decide +kernel
theorem dL_law_1051 : decode cL_law 1051 = .ok (.iload_n 3, 1) := by decide +kernel
theorem dL_law_1052 : decode cL_law 1052 = .ok (.iconst 1, 1) := by decide +kernel
theorem dL_law_1053 : decode cL_law 1053 = .ok (.iadd, 1) := by decide +kernel
theorem dL_law_1054 : decode cL_law 1054 = .ok (.iaload, 1) := by decide +kernel
theorem dL_law_1055 : decode cL_law 1055 = .ok (.invokevirtual 129, 3) := by decide +kernel
theorem dL_law_1058 : decode cL_law 1058 = .ok (.aload_n 2, 1) := by decide +kernel
theorem dL_law_1059 : decode cL_law 1059 = .ok (.aload_n 0, 1) := by decide +kernel
theorem dL_law_1060 : decode cL_law 1060 = .ok (.iload_n 3, 1) := by decide +kernel
theorem dL_law_1061 : decode cL_law 1061 = .ok (.iconst 1, 1) := by decide +kernel
theorem dL_law_1062 : decode cL_law 1062 = .ok (.iadd, 1) := by decide +kernel
theorem dL_law_1063 : decode cL_law 1063 = .ok (.iaload, 1) := by decide +kernel
theorem dL_law_1064 : decode cL_law 1064 = .ok (.invokevirtual 132, 3) := by decide +kernel
theorem dL_law_1067 : decode cL_law 1067 = .ok (.if_icmp .eq 333, 3) := by decide +kernel
theorem dL_law_1070 : decode cL_law 1070 = .ok (.iconst 0, 1) := by decide +kernel
theorem dL_law_1071 : decode cL_law 1071 = .ok (.ireturn, 1) := by decide +kernel
theorem dL_law_1072 : decode cL_law 1072 = .ok (.aload_n 1, 1) := by decide +kernel
theorem dL_law_1073 : decode cL_law 1073 = .ok (.aload_n 0, 1) := by decide +kernel
theorem dL_law_1074 : decode cL_law 1074 = .ok (.iload_n 3, 1) := by decide +kernel
theorem dL_law_1075 : decode cL_law 1075 = .ok (.iconst 1, 1) := by decide +kernel
theorem dL_law_1076 : decode cL_law 1076 = .ok (.iadd, 1) := by decide +kernel
theorem dL_law_1077 : decode cL_law 1077 = .ok (.iaload, 1) := by decide +kernel
theorem dL_law_1078 : decode cL_law 1078 = .ok (.aload_n 0, 1) := by decide +kernel
theorem dL_law_1079 : decode cL_law 1079 = .ok (.iload_n 3, 1) := by decide +kernel
theorem dL_law_1080 : decode cL_law 1080 = .ok (.iconst 2, 1) := by decide +kernel
theorem dL_law_1081 : decode cL_law 1081 = .ok (.iadd, 1) := by decide +kernel
theorem dL_law_1082 : decode cL_law 1082 = .ok (.iaload, 1) := by decide +kernel
theorem dL_law_1083 : decode cL_law 1083 = .ok (.aload_n 0, 1) := by decide +kernel
theorem dL_law_1084 : decode cL_law 1084 = .ok (.iload_n 3, 1) := by decide +kernel
theorem dL_law_1085 : decode cL_law 1085 = .ok (.iconst 3, 1) := by decide +kernel
theorem dL_law_1086 : decode cL_law 1086 = .ok (.iadd, 1) := by decide +kernel
theorem dL_law_1087 : decode cL_law 1087 = .ok (.iaload, 1) := by decide +kernel
theorem dL_law_1088 : decode cL_law 1088 = .ok (.aload_n 0, 1) := by decide +kernel
theorem dL_law_1089 : decode cL_law 1089 = .ok (.iload_n 3, 1) := by decide +kernel
theorem dL_law_1090 : decode cL_law 1090 = .ok (.iconst 4, 1) := by decide +kernel
theorem dL_law_1091 : decode cL_law 1091 = .ok (.iadd, 1) := by decide +kernel
theorem dL_law_1092 : decode cL_law 1092 = .ok (.iaload, 1) := by decide +kernel
theorem dL_law_1093 : decode cL_law 1093 = .ok (.ifCond .eq 7, 3) := by decide +kernel
theorem dL_law_1096 : decode cL_law 1096 = .ok (.iconst 1, 1) := by decide +kernel
theorem dL_law_1097 : decode cL_law 1097 = .ok (.goto 4, 3) := by decide +kernel
theorem dL_law_1100 : decode cL_law 1100 = .ok (.iconst 0, 1) := by decide +kernel
theorem dL_law_1101 : decode cL_law 1101 = .ok (.invokevirtual 133, 3) := by decide +kernel
theorem dL_law_1104 : decode cL_law 1104 = .ok (.aload_n 2, 1) := by decide +kernel
theorem dL_law_1105 : decode cL_law 1105 = .ok (.aload_n 0, 1) := by decide +kernel
theorem dL_law_1106 : decode cL_law 1106 = .ok (.iload_n 3, 1) := by decide +kernel
theorem dL_law_1107 : decode cL_law 1107 = .ok (.iconst 1, 1) := by decide +kernel
theorem dL_law_1108 : decode cL_law 1108 = .ok (.iadd, 1) := by decide +kernel
theorem dL_law_1109 : decode cL_law 1109 = .ok (.iaload, 1) := by decide +kernel
theorem dL_law_1110 : decode cL_law 1110 = .ok (.aload_n 0, 1) := by decide +kernel
theorem dL_law_1111 : decode cL_law 1111 = .ok (.iload_n 3, 1) := by decide +kernel
theorem dL_law_1112 : decode cL_law 1112 = .ok (.iconst 2, 1) := by decide +kernel
theorem dL_law_1113 : decode cL_law 1113 = .ok (.iadd, 1) := by decide +kernel
theorem dL_law_1114 : decode cL_law 1114 = .ok (.iaload, 1) := by decide +kernel
theorem dL_law_1115 : decode cL_law 1115 = .ok (.aload_n 0, 1) := by decide +kernel
theorem dL_law_1116 : decode cL_law 1116 = .ok (.iload_n 3, 1) := by decide +kernel
theorem dL_law_1117 : decode cL_law 1117 = .ok (.iconst 3, 1) := by decide +kernel
theorem dL_law_1118 : decode cL_law 1118 = .ok (.iadd, 1) := by decide +kernel
theorem dL_law_1119 : decode cL_law 1119 = .ok (.iaload, 1) := by decide +kernel
theorem dL_law_1120 : decode cL_law 1120 = .ok (.aload_n 0, 1) := by decide +kernel
theorem dL_law_1121 : decode cL_law 1121 = .ok (.iload_n 3, 1) := by decide +kernel
theorem dL_law_1122 : decode cL_law 1122 = .ok (.iconst 4, 1) := by decide +kernel
theorem dL_law_1123 : decode cL_law 1123 = .ok (.iadd, 1) := by decide +kernel
theorem dL_law_1124 : decode cL_law 1124 = .ok (.iaload, 1) := by decide +kernel
theorem dL_law_1125 : decode cL_law 1125 = .ok (.ifCond .eq 7, 3) := by decide +kernel
theorem dL_law_1128 : decode cL_law 1128 = .ok (.iconst 1, 1) := by decide +kernel
theorem dL_law_1129 : decode cL_law 1129 = .ok (.goto 4, 3) := by decide +kernel
theorem dL_law_1132 : decode cL_law 1132 = .ok (.iconst 0, 1) := by decide +kernel
theorem dL_law_1133 : decode cL_law 1133 = .ok (.invokevirtual 137, 3) := by decide +kernel
theorem dL_law_1136 : decode cL_law 1136 = .ok (.if_icmp .eq 264, 3) := by decide +kernel
theorem dL_law_1139 : decode cL_law 1139 = .ok (.iconst 0, 1) := by decide +kernel
theorem dL_law_1140 : decode cL_law 1140 = .ok (.ireturn, 1) := by decide +kernel
theorem dL_law_1141 : decode cL_law 1141 = .ok (.aload_n 1, 1) := by decide +kernel
theorem dL_law_1142 : decode cL_law 1142 = .ok (.invokevirtual 138, 3) := by decide +kernel
theorem dL_law_1145 : decode cL_law 1145 = .ok (.aload_n 2, 1) := by decide +kernel
theorem dL_law_1146 : decode cL_law 1146 = .ok (.invokevirtual 141, 3) := by decide +kernel
theorem dL_law_1149 : decode cL_law 1149 = .ok (.if_icmp .eq 251, 3) := by decide +kernel
theorem dL_law_1152 : decode cL_law 1152 = .ok (.iconst 0, 1) := by decide +kernel
theorem dL_law_1153 : decode cL_law 1153 = .ok (.ireturn, 1) := by decide +kernel
theorem dL_law_1154 : decode cL_law 1154 = .ok (.aload_n 1, 1) := by decide +kernel
theorem dL_law_1155 : decode cL_law 1155 = .ok (.aload_n 0, 1) := by decide +kernel
theorem dL_law_1156 : decode cL_law 1156 = .ok (.iload_n 3, 1) := by decide +kernel
theorem dL_law_1157 : decode cL_law 1157 = .ok (.iconst 1, 1) := by decide +kernel
theorem dL_law_1158 : decode cL_law 1158 = .ok (.iadd, 1) := by decide +kernel
theorem dL_law_1159 : decode cL_law 1159 = .ok (.iaload, 1) := by decide +kernel
theorem dL_law_1160 : decode cL_law 1160 = .ok (.aload_n 0, 1) := by decide +kernel
theorem dL_law_1161 : decode cL_law 1161 = .ok (.iload_n 3, 1) := by decide +kernel
theorem dL_law_1162 : decode cL_law 1162 = .ok (.iconst 2, 1) := by decide +kernel
theorem dL_law_1163 : decode cL_law 1163 = .ok (.iadd, 1) := by decide +kernel
theorem dL_law_1164 : decode cL_law 1164 = .ok (.iaload, 1) := by decide +kernel
theorem dL_law_1165 : decode cL_law 1165 = .ok (.ifCond .eq 7, 3) := by decide +kernel
theorem dL_law_1168 : decode cL_law 1168 = .ok (.iconst 1, 1) := by decide +kernel
theorem dL_law_1169 : decode cL_law 1169 = .ok (.goto 4, 3) := by decide +kernel
theorem dL_law_1172 : decode cL_law 1172 = .ok (.iconst 0, 1) := by decide +kernel
theorem dL_law_1173 : decode cL_law 1173 = .ok (.invokevirtual 142, 3) := by decide +kernel
theorem dL_law_1176 : decode cL_law 1176 = .ok (.aload_n 2, 1) := by decide +kernel
theorem dL_law_1177 : decode cL_law 1177 = .ok (.aload_n 0, 1) := by decide +kernel
theorem dL_law_1178 : decode cL_law 1178 = .ok (.iload_n 3, 1) := by decide +kernel
theorem dL_law_1179 : decode cL_law 1179 = .ok (.iconst 1, 1) := by decide +kernel
theorem dL_law_1180 : decode cL_law 1180 = .ok (.iadd, 1) := by decide +kernel
theorem dL_law_1181 : decode cL_law 1181 = .ok (.iaload, 1) := by decide +kernel
theorem dL_law_1182 : decode cL_law 1182 = .ok (.aload_n 0, 1) := by decide +kernel
theorem dL_law_1183 : decode cL_law 1183 = .ok (.iload_n 3, 1) := by decide +kernel
theorem dL_law_1184 : decode cL_law 1184 = .ok (.iconst 2, 1) := by decide +kernel
theorem dL_law_1185 : decode cL_law 1185 = .ok (.iadd, 1) := by decide +kernel
theorem dL_law_1186 : decode cL_law 1186 = .ok (.iaload, 1) := by decide +kernel
theorem dL_law_1187 : decode cL_law 1187 = .ok (.ifCond .eq 7, 3) := by decide +kernel
theorem dL_law_1190 : decode cL_law 1190 = .ok (.iconst 1, 1) := by decide +kernel
theorem dL_law_1191 : decode cL_law 1191 = .ok (.goto 4, 3) := by decide +kernel
theorem dL_law_1194 : decode cL_law 1194 = .ok (.iconst 0, 1) := by decide +kernel
theorem dL_law_1195 : decode cL_law 1195 = .ok (.invokevirtual 146, 3) := by decide +kernel
theorem dL_law_1198 : decode cL_law 1198 = .ok (.if_icmp .eq 202, 3) := by decide +kernel
theorem dL_law_1201 : decode cL_law 1201 = .ok (.iconst 0, 1) := by decide +kernel
theorem dL_law_1202 : decode cL_law 1202 = .ok (.ireturn, 1) := by decide +kernel
theorem dL_law_1203 : decode cL_law 1203 = .ok (.aload_n 1, 1) := by decide +kernel
theorem dL_law_1204 : decode cL_law 1204 = .ok (.aload_n 0, 1) := by decide +kernel
theorem dL_law_1205 : decode cL_law 1205 = .ok (.iload_n 3, 1) := by decide +kernel
theorem dL_law_1206 : decode cL_law 1206 = .ok (.iconst 1, 1) := by decide +kernel
theorem dL_law_1207 : decode cL_law 1207 = .ok (.iadd, 1) := by decide +kernel
theorem dL_law_1208 : decode cL_law 1208 = .ok (.iaload, 1) := by decide +kernel
theorem dL_law_1209 : decode cL_law 1209 = .ok (.aload_n 0, 1) := by decide +kernel
theorem dL_law_1210 : decode cL_law 1210 = .ok (.iload_n 3, 1) := by decide +kernel
theorem dL_law_1211 : decode cL_law 1211 = .ok (.iconst 2, 1) := by decide +kernel
theorem dL_law_1212 : decode cL_law 1212 = .ok (.iadd, 1) := by decide +kernel
theorem dL_law_1213 : decode cL_law 1213 = .ok (.iaload, 1) := by decide +kernel
theorem dL_law_1214 : decode cL_law 1214 = .ok (.aload_n 0, 1) := by decide +kernel
theorem dL_law_1215 : decode cL_law 1215 = .ok (.iload_n 3, 1) := by decide +kernel
theorem dL_law_1216 : decode cL_law 1216 = .ok (.iconst 3, 1) := by decide +kernel
theorem dL_law_1217 : decode cL_law 1217 = .ok (.iadd, 1) := by decide +kernel
theorem dL_law_1218 : decode cL_law 1218 = .ok (.iaload, 1) := by decide +kernel
theorem dL_law_1219 : decode cL_law 1219 = .ok (.invokevirtual 147, 3) := by decide +kernel
theorem dL_law_1222 : decode cL_law 1222 = .ok (.aload_n 2, 1) := by decide +kernel
theorem dL_law_1223 : decode cL_law 1223 = .ok (.aload_n 0, 1) := by decide +kernel
theorem dL_law_1224 : decode cL_law 1224 = .ok (.iload_n 3, 1) := by decide +kernel
theorem dL_law_1225 : decode cL_law 1225 = .ok (.iconst 1, 1) := by decide +kernel
theorem dL_law_1226 : decode cL_law 1226 = .ok (.iadd, 1) := by decide +kernel
theorem dL_law_1227 : decode cL_law 1227 = .ok (.iaload, 1) := by decide +kernel
theorem dL_law_1228 : decode cL_law 1228 = .ok (.aload_n 0, 1) := by decide +kernel
theorem dL_law_1229 : decode cL_law 1229 = .ok (.iload_n 3, 1) := by decide +kernel
theorem dL_law_1230 : decode cL_law 1230 = .ok (.iconst 2, 1) := by decide +kernel
theorem dL_law_1231 : decode cL_law 1231 = .ok (.iadd, 1) := by decide +kernel
theorem dL_law_1232 : decode cL_law 1232 = .ok (.iaload, 1) := by decide +kernel
theorem dL_law_1233 : decode cL_law 1233 = .ok (.aload_n 0, 1) := by decide +kernel
theorem dL_law_1234 : decode cL_law 1234 = .ok (.iload_n 3, 1) := by decide +kernel
theorem dL_law_1235 : decode cL_law 1235 = .ok (.iconst 3, 1) := by decide +kernel
theorem dL_law_1236 : decode cL_law 1236 = .ok (.iadd, 1) := by decide +kernel
theorem dL_law_1237 : decode cL_law 1237 = .ok (.iaload, 1) := by decide +kernel
theorem dL_law_1238 : decode cL_law 1238 = .ok (.invokevirtual 150, 3) := by decide +kernel
theorem dL_law_1241 : decode cL_law 1241 = .ok (.if_icmp .eq 159, 3) := by decide +kernel
theorem dL_law_1244 : decode cL_law 1244 = .ok (.iconst 0, 1) := by decide +kernel
theorem dL_law_1245 : decode cL_law 1245 = .ok (.ireturn, 1) := by decide +kernel
theorem dL_law_1246 : decode cL_law 1246 = .ok (.aload_n 1, 1) := by decide +kernel
theorem dL_law_1247 : decode cL_law 1247 = .ok (.aload_n 0, 1) := by decide +kernel
theorem dL_law_1248 : decode cL_law 1248 = .ok (.iload_n 3, 1) := by decide +kernel
theorem dL_law_1249 : decode cL_law 1249 = .ok (.iconst 1, 1) := by decide +kernel
theorem dL_law_1250 : decode cL_law 1250 = .ok (.iadd, 1) := by decide +kernel
theorem dL_law_1251 : decode cL_law 1251 = .ok (.iaload, 1) := by decide +kernel
theorem dL_law_1252 : decode cL_law 1252 = .ok (.aload_n 0, 1) := by decide +kernel
theorem dL_law_1253 : decode cL_law 1253 = .ok (.iload_n 3, 1) := by decide +kernel
theorem dL_law_1254 : decode cL_law 1254 = .ok (.iconst 2, 1) := by decide +kernel
theorem dL_law_1255 : decode cL_law 1255 = .ok (.iadd, 1) := by decide +kernel
theorem dL_law_1256 : decode cL_law 1256 = .ok (.iaload, 1) := by decide +kernel
theorem dL_law_1257 : decode cL_law 1257 = .ok (.aload_n 0, 1) := by decide +kernel
theorem dL_law_1258 : decode cL_law 1258 = .ok (.iload_n 3, 1) := by decide +kernel
theorem dL_law_1259 : decode cL_law 1259 = .ok (.iconst 3, 1) := by decide +kernel
theorem dL_law_1260 : decode cL_law 1260 = .ok (.iadd, 1) := by decide +kernel
theorem dL_law_1261 : decode cL_law 1261 = .ok (.iaload, 1) := by decide +kernel
theorem dL_law_1262 : decode cL_law 1262 = .ok (.invokevirtual 151, 3) := by decide +kernel
theorem dL_law_1265 : decode cL_law 1265 = .ok (.aload_n 2, 1) := by decide +kernel
theorem dL_law_1266 : decode cL_law 1266 = .ok (.aload_n 0, 1) := by decide +kernel
theorem dL_law_1267 : decode cL_law 1267 = .ok (.iload_n 3, 1) := by decide +kernel
theorem dL_law_1268 : decode cL_law 1268 = .ok (.iconst 1, 1) := by decide +kernel
theorem dL_law_1269 : decode cL_law 1269 = .ok (.iadd, 1) := by decide +kernel
