theorem dX0_init_0 : decode cX0_init 0 = .ok (.aload_n 0, 1) := by decide +kernel
theorem dX0_init_1 : decode cX0_init 1 = .ok (.invokespecial 3, 3) := by decide +kernel
theorem dX0_init_4 : decode cX0_init 4 = .ok (.aload_n 0, 1) := by decide +kernel
theorem dX0_init_5 : decode cX0_init 5 = .ok (.bipush 16, 2) := by decide +kernel
theorem dX0_init_7 : decode cX0_init 7 = .ok (.newarray .int, 2) := by decide +kernel
theorem dX0_init_9 : decode cX0_init 9 = .ok (.putfield 9, 3) := by decide +kernel
theorem dX0_init_12 : decode cX0_init 12 = .ok (.aload_n 0, 1) := by decide +kernel
theorem dX0_init_13 : decode cX0_init 13 = .ok (.bipush 16, 2) := by decide +kernel
theorem dX0_init_15 : decode cX0_init 15 = .ok (.newarray .int, 2) := by decide +kernel
theorem dX0_init_17 : decode cX0_init 17 = .ok (.putfield 15, 3) := by decide +kernel
theorem dX0_init_20 : decode cX0_init 20 = .ok (.aload_n 0, 1) := by decide +kernel
theorem dX0_init_21 : decode cX0_init 21 = .ok (.bipush 16, 2) := by decide +kernel
theorem dX0_init_23 : decode cX0_init 23 = .ok (.newarray .int, 2) := by decide +kernel
theorem dX0_init_25 : decode cX0_init 25 = .ok (.putfield 18, 3) := by decide +kernel
theorem dX0_init_28 : decode cX0_init 28 = .ok (.aload_n 0, 1) := by decide +kernel
theorem dX0_init_29 : decode cX0_init 29 = .ok (.bipush 16, 2) := by decide +kernel
theorem dX0_init_31 : decode cX0_init 31 = .ok (.newarray .int, 2) := by decide +kernel
theorem dX0_init_33 : decode cX0_init 33 = .ok (.putfield 21, 3) := by decide +kernel
theorem dX0_init_36 : decode cX0_init 36 = .ok (.return_, 1) := by decide +kernel
theorem dX0_see_0 : decode cX0_see 0 = .ok (.iconst 0, 1) := by decide +kernel
theorem dX0_see_1 : decode cX0_see 1 = .ok (.istore 6, 2) := by decide +kernel
theorem dX0_see_3 : decode cX0_see 3 = .ok (.iload 6, 2) := by decide +kernel
theorem dX0_see_5 : decode cX0_see 5 = .ok (.bipush 16, 2) := by decide +kernel
theorem dX0_see_7 : decode cX0_see 7 = .ok (.if_icmp .ge 27, 3) := by decide +kernel
theorem dX0_see_10 : decode cX0_see 10 = .ok (.aload_n 0, 1) := by decide +kernel
theorem dX0_see_11 : decode cX0_see 11 = .ok (.getfield 9, 3) := by decide +kernel
theorem dX0_see_14 : decode cX0_see 14 = .ok (.iload 6, 2) := by decide +kernel
theorem dX0_see_16 : decode cX0_see 16 = .ok (.aload_n 1, 1) := by decide +kernel
theorem dX0_see_17 : decode cX0_see 17 = .ok (.iload_n 2, 1) := by decide +kernel
theorem dX0_see_18 : decode cX0_see 18 = .ok (.bipush 64, 2) := by decide +kernel
theorem dX0_see_20 : decode cX0_see 20 = .ok (.imul, 1) := by decide +kernel
theorem dX0_see_21 : decode cX0_see 21 = .ok (.iload_n 3, 1) := by decide +kernel
theorem dX0_see_22 : decode cX0_see 22 = .ok (.iload 6, 2) := by decide +kernel
theorem dX0_see_24 : decode cX0_see 24 = .ok (.invokestatic 24, 3) := by decide +kernel
theorem dX0_see_27 : decode cX0_see 27 = .ok (.iastore, 1) := by decide +kernel
theorem dX0_see_28 : decode cX0_see 28 = .ok (.iinc 6 1, 3) := by decide +kernel
theorem dX0_see_31 : decode cX0_see 31 = .ok (.goto (-28), 3) := by decide +kernel
theorem dX0_see_34 : decode cX0_see 34 = .ok (.iconst 0, 1) := by decide +kernel
theorem dX0_see_35 : decode cX0_see 35 = .ok (.istore 6, 2) := by decide +kernel
theorem dX0_see_37 : decode cX0_see 37 = .ok (.iload 6, 2) := by decide +kernel
theorem dX0_see_39 : decode cX0_see 39 = .ok (.bipush 16, 2) := by decide +kernel
theorem dX0_see_41 : decode cX0_see 41 = .ok (.if_icmp .ge 64, 3) := by decide +kernel
theorem dX0_see_44 : decode cX0_see 44 = .ok (.aload_n 0, 1) := by decide +kernel
theorem dX0_see_45 : decode cX0_see 45 = .ok (.getfield 21, 3) := by decide +kernel
theorem dX0_see_48 : decode cX0_see 48 = .ok (.iload 6, 2) := by decide +kernel
theorem dX0_see_50 : decode cX0_see 50 = .ok (.aload_n 0, 1) := by decide +kernel
theorem dX0_see_51 : decode cX0_see 51 = .ok (.aload 4, 2) := by decide +kernel
theorem dX0_see_53 : decode cX0_see 53 = .ok (.getfield 28, 3) := by decide +kernel
theorem dX0_see_56 : decode cX0_see 56 = .ok (.iconst 0, 1) := by decide +kernel
theorem dX0_see_57 : decode cX0_see 57 = .ok (.iaload, 1) := by decide +kernel
theorem dX0_see_58 : decode cX0_see 58 = .ok (.iload 6, 2) := by decide +kernel
theorem dX0_see_60 : decode cX0_see 60 = .ok (.invokevirtual 33, 3) := by decide +kernel
theorem dX0_see_63 : decode cX0_see 63 = .ok (.iastore, 1) := by decide +kernel
theorem dX0_see_64 : decode cX0_see 64 = .ok (.aload_n 0, 1) := by decide +kernel
theorem dX0_see_65 : decode cX0_see 65 = .ok (.getfield 15, 3) := by decide +kernel
theorem dX0_see_68 : decode cX0_see 68 = .ok (.iload 6, 2) := by decide +kernel
theorem dX0_see_70 : decode cX0_see 70 = .ok (.aload 4, 2) := by decide +kernel
theorem dX0_see_72 : decode cX0_see 72 = .ok (.getfield 28, 3) := by decide +kernel
theorem dX0_see_75 : decode cX0_see 75 = .ok (.bipush 11, 2) := by decide +kernel
theorem dX0_see_77 : decode cX0_see 77 = .ok (.iaload, 1) := by decide +kernel
theorem dX0_see_78 : decode cX0_see 78 = .ok (.iload 6, 2) := by decide +kernel
theorem dX0_see_80 : decode cX0_see 80 = .ok (.invokestatic 37, 3) := by decide +kernel
theorem dX0_see_83 : decode cX0_see 83 = .ok (.iconst 1, 1) := by decide +kernel
theorem dX0_see_84 : decode cX0_see 84 = .ok (.if_icmp .ne 7, 3) := by decide +kernel
theorem dX0_see_87 : decode cX0_see 87 = .ok (.iconst 0, 1) := by decide +kernel
theorem dX0_see_88 : decode cX0_see 88 = .ok (.goto 10, 3) := by decide +kernel
theorem dX0_see_91 : decode cX0_see 91 = .ok (.aload_n 0, 1) := by decide +kernel
theorem dX0_see_92 : decode cX0_see 92 = .ok (.getfield 21, 3) := by decide +kernel
theorem dX0_see_95 : decode cX0_see 95 = .ok (.iload 6, 2) := by decide +kernel
theorem dX0_see_97 : decode cX0_see 97 = .ok (.iaload, 1) := by decide +kernel
theorem dX0_see_98 : decode cX0_see 98 = .ok (.iastore, 1) := by decide +kernel
theorem dX0_see_99 : decode cX0_see 99 = .ok (.iinc 6 1, 3) := by decide +kernel
theorem dX0_see_102 : decode cX0_see 102 = .ok (.goto (-65), 3) := by decide +kernel
theorem dX0_see_105 : decode cX0_see 105 = .ok (.aload 4, 2) := by decide +kernel
theorem dX0_see_107 : decode cX0_see 107 = .ok (.getfield 28, 3) := by decide +kernel
theorem dX0_see_110 : decode cX0_see 110 = .ok (.iconst 5, 1) := by decide +kernel
theorem dX0_see_111 : decode cX0_see 111 = .ok (.iaload, 1) := by decide +kernel
theorem dX0_see_112 : decode cX0_see 112 = .ok (.iconst 1, 1) := by decide +kernel
theorem dX0_see_113 : decode cX0_see 113 = .ok (.if_icmp .ne 15, 3) := by decide +kernel
theorem dX0_see_116 : decode cX0_see 116 = .ok (.aload_n 0, 1) := by decide +kernel
theorem dX0_see_117 : decode cX0_see 117 = .ok (.aload 4, 2) := by decide +kernel
theorem dX0_see_119 : decode cX0_see 119 = .ok (.getfield 28, 3) := by decide +kernel
theorem dX0_see_122 : decode cX0_see 122 = .ok (.bipush 11, 2) := by decide +kernel
theorem dX0_see_124 : decode cX0_see 124 = .ok (.iaload, 1) := by decide +kernel
theorem dX0_see_125 : decode cX0_see 125 = .ok (.invokevirtual 40, 3) := by decide +kernel
theorem dX0_see_128 : decode cX0_see 128 = .ok (.aload_n 0, 1) := by decide +kernel
theorem dX0_see_129 : decode cX0_see 129 = .ok (.iconst 0, 1) := by decide +kernel
theorem dX0_see_130 : decode cX0_see 130 = .ok (.putfield 44, 3) := by decide +kernel
theorem dX0_see_133 : decode cX0_see 133 = .ok (.iconst 0, 1) := by decide +kernel
theorem dX0_see_134 : decode cX0_see 134 = .ok (.istore 6, 2) := by decide +kernel
theorem dX0_see_136 : decode cX0_see 136 = .ok (.iload 6, 2) := by decide +kernel
theorem dX0_see_138 : decode cX0_see 138 = .ok (.bipush 16, 2) := by decide +kernel
theorem dX0_see_140 : decode cX0_see 140 = .ok (.if_icmp .ge 22, 3) := by decide +kernel
theorem dX0_see_143 : decode cX0_see 143 = .ok (.aload_n 0, 1) := by decide +kernel
theorem dX0_see_144 : decode cX0_see 144 = .ok (.iload 6, 2) := by decide +kernel
theorem dX0_see_146 : decode cX0_see 146 = .ok (.aload 4, 2) := by decide +kernel
theorem dX0_see_148 : decode cX0_see 148 = .ok (.aload 5, 2) := by decide +kernel
theorem dX0_see_150 : decode cX0_see 150 = .ok (.iload 6, 2) := by decide +kernel
theorem dX0_see_152 : decode cX0_see 152 = .ok (.iaload, 1) := by decide +kernel
theorem dX0_see_153 : decode cX0_see 153 = .ok (.invokevirtual 48, 3) := by decide +kernel
theorem dX0_see_156 : decode cX0_see 156 = .ok (.iinc 6 1, 3) := by decide +kernel
theorem dX0_see_159 : decode cX0_see 159 = .ok (.goto (-23), 3) := by decide +kernel
theorem dX0_see_162 : decode cX0_see 162 = .ok (.return_, 1) := by decide +kernel
theorem dX0_feelsAs_0 : decode cX0_feelsAs 0 = .ok (.iconst 0, 1) := by decide +kernel
theorem dX0_feelsAs_1 : decode cX0_feelsAs 1 = .ok (.istore_n 2, 1) := by decide +kernel
theorem dX0_feelsAs_2 : decode cX0_feelsAs 2 = .ok (.iload_n 2, 1) := by decide +kernel
theorem dX0_feelsAs_3 : decode cX0_feelsAs 3 = .ok (.bipush 16, 2) := by decide +kernel
theorem dX0_feelsAs_5 : decode cX0_feelsAs 5 = .ok (.if_icmp .ge 26, 3) := by decide +kernel
theorem dX0_feelsAs_8 : decode cX0_feelsAs 8 = .ok (.aload_n 0, 1) := by decide +kernel
theorem dX0_feelsAs_9 : decode cX0_feelsAs 9 = .ok (.getfield 18, 3) := by decide +kernel
theorem dX0_feelsAs_12 : decode cX0_feelsAs 12 = .ok (.iload_n 2, 1) := by decide +kernel
theorem dX0_feelsAs_13 : decode cX0_feelsAs 13 = .ok (.iaload, 1) := by decide +kernel
theorem dX0_feelsAs_14 : decode cX0_feelsAs 14 = .ok (.aload_n 1, 1) := by decide +kernel
theorem dX0_feelsAs_15 : decode cX0_feelsAs 15 = .ok (.getfield 18, 3) := by decide +kernel
theorem dX0_feelsAs_18 : decode cX0_feelsAs 18 = .ok (.iload_n 2, 1) := by decide +kernel
theorem dX0_feelsAs_19 : decode cX0_feelsAs 19 = .ok (.iaload, 1) := by decide +kernel
theorem dX0_feelsAs_20 : decode cX0_feelsAs 20 = .ok (.if_icmp .eq 5, 3) := by decide +kernel
theorem dX0_feelsAs_23 : decode cX0_feelsAs 23 = .ok (.iconst 0, 1) := by decide +kernel
theorem dX0_feelsAs_24 : decode cX0_feelsAs 24 = .ok (.ireturn, 1) := by decide +kernel
theorem dX0_feelsAs_25 : decode cX0_feelsAs 25 = .ok (.iinc 2 1, 3) := by decide +kernel
theorem dX0_feelsAs_28 : decode cX0_feelsAs 28 = .ok (.goto (-26), 3) := by decide +kernel
theorem dX0_feelsAs_31 : decode cX0_feelsAs 31 = .ok (.iconst 1, 1) := by decide +kernel
theorem dX0_feelsAs_32 : decode cX0_feelsAs 32 = .ok (.ireturn, 1) := by decide +kernel
theorem dX0_soundsAs_0 : decode cX0_soundsAs 0 = .ok (.iconst 0, 1) := by decide +kernel
theorem dX0_soundsAs_1 : decode cX0_soundsAs 1 = .ok (.istore_n 3, 1) := by decide +kernel
theorem dX0_soundsAs_2 : decode cX0_soundsAs 2 = .ok (.iload_n 3, 1) := by decide +kernel
theorem dX0_soundsAs_3 : decode cX0_soundsAs 3 = .ok (.bipush 16, 2) := by decide +kernel
theorem dX0_soundsAs_5 : decode cX0_soundsAs 5 = .ok (.if_icmp .ge 26, 3) := by decide +kernel
theorem dX0_soundsAs_8 : decode cX0_soundsAs 8 = .ok (.aload_n 0, 1) := by decide +kernel
theorem dX0_soundsAs_9 : decode cX0_soundsAs 9 = .ok (.iload_n 3, 1) := by decide +kernel
theorem dX0_soundsAs_10 : decode cX0_soundsAs 10 = .ok (.iload_n 2, 1) := by decide +kernel
theorem dX0_soundsAs_11 : decode cX0_soundsAs 11 = .ok (.invokevirtual 52, 3) := by decide +kernel
theorem dX0_soundsAs_14 : decode cX0_soundsAs 14 = .ok (.aload_n 1, 1) := by decide +kernel
theorem dX0_soundsAs_15 : decode cX0_soundsAs 15 = .ok (.iload_n 3, 1) := by decide +kernel
theorem dX0_soundsAs_16 : decode cX0_soundsAs 16 = .ok (.iload_n 2, 1) := by decide +kernel
theorem dX0_soundsAs_17 : decode cX0_soundsAs 17 = .ok (.invokevirtual 52, 3) := by decide +kernel
theorem dX0_soundsAs_20 : decode cX0_soundsAs 20 = .ok (.if_icmp .eq 5, 3) := by decide +kernel
theorem dX0_soundsAs_23 : decode cX0_soundsAs 23 = .ok (.iconst 0, 1) := by decide +kernel
theorem dX0_soundsAs_24 : decode cX0_soundsAs 24 = .ok (.ireturn, 1) := by decide +kernel
theorem dX0_soundsAs_25 : decode cX0_soundsAs 25 = .ok (.iinc 3 1, 3) := by decide +kernel
theorem dX0_soundsAs_28 : decode cX0_soundsAs 28 = .ok (.goto (-26), 3) := by decide +kernel
theorem dX0_soundsAs_31 : decode cX0_soundsAs 31 = .ok (.iconst 1, 1) := by decide +kernel
theorem dX0_soundsAs_32 : decode cX0_soundsAs 32 = .ok (.ireturn, 1) := by decide +kernel
theorem dX0_loudness_0 : decode cX0_loudness 0 = .ok (.iconst 2, 1) := by decide +kernel
theorem dX0_loudness_1 : decode cX0_loudness 1 = .ok (.istore_n 3, 1) := by decide +kernel
theorem dX0_loudness_2 : decode cX0_loudness 2 = .ok (.iload_n 3, 1) := by decide +kernel
theorem dX0_loudness_3 : decode cX0_loudness 3 = .ok (.iconst 3, 1) := by decide +kernel
theorem dX0_loudness_4 : decode cX0_loudness 4 = .ok (.if_icmp .gt 45, 3) := by decide +kernel
theorem dX0_loudness_7 : decode cX0_loudness 7 = .ok (.getstatic 55, 3) := by decide +kernel
theorem dX0_loudness_10 : decode cX0_loudness 10 = .ok (.iconst 4, 1) := by decide +kernel
theorem dX0_loudness_11 : decode cX0_loudness 11 = .ok (.iload_n 1, 1) := by decide +kernel
theorem dX0_loudness_12 : decode cX0_loudness 12 = .ok (.imul, 1) := by decide +kernel
theorem dX0_loudness_13 : decode cX0_loudness 13 = .ok (.iload_n 3, 1) := by decide +kernel
theorem dX0_loudness_14 : decode cX0_loudness 14 = .ok (.iadd, 1) := by decide +kernel
theorem dX0_loudness_15 : decode cX0_loudness 15 = .ok (.iaload, 1) := by decide +kernel
theorem dX0_loudness_16 : decode cX0_loudness 16 = .ok (.istore 4, 2) := by decide +kernel
theorem dX0_loudness_18 : decode cX0_loudness 18 = .ok (.iload 4, 2) := by decide +kernel
theorem dX0_loudness_20 : decode cX0_loudness 20 = .ok (.ifCond .lt 23, 3) := by decide +kernel
theorem dX0_loudness_23 : decode cX0_loudness 23 = .ok (.aload_n 0, 1) := by decide +kernel
theorem dX0_loudness_24 : decode cX0_loudness 24 = .ok (.getfield 15, 3) := by decide +kernel
theorem dX0_loudness_27 : decode cX0_loudness 27 = .ok (.iload 4, 2) := by decide +kernel
theorem dX0_loudness_29 : decode cX0_loudness 29 = .ok (.iaload, 1) := by decide +kernel
theorem dX0_loudness_30 : decode cX0_loudness 30 = .ok (.aload_n 0, 1) := by decide +kernel
theorem dX0_loudness_31 : decode cX0_loudness 31 = .ok (.getfield 15, 3) := by decide +kernel
theorem dX0_loudness_34 : decode cX0_loudness 34 = .ok (.iload_n 1, 1) := by decide +kernel
theorem dX0_loudness_35 : decode cX0_loudness 35 = .ok (.iaload, 1) := by decide +kernel
theorem dX0_loudness_36 : decode cX0_loudness 36 = .ok (.isub, 1) := by decide +kernel
theorem dX0_loudness_37 : decode cX0_loudness 37 = .ok (.iload_n 2, 1) := by decide +kernel
theorem dX0_loudness_38 : decode cX0_loudness 38 = .ok (.if_icmp .lt 5, 3) := by decide +kernel
theorem dX0_loudness_41 : decode cX0_loudness 41 = .ok (.iconst 0, 1) := by decide +kernel
theorem dX0_loudness_42 : decode cX0_loudness 42 = .ok (.ireturn, 1) := by decide +kernel
theorem dX0_loudness_43 : decode cX0_loudness 43 = .ok (.iinc 3 1, 3) := by decide +kernel
theorem dX0_loudness_46 : decode cX0_loudness 46 = .ok (.goto (-44), 3) := by decide +kernel
theorem dX0_loudness_49 : decode cX0_loudness 49 = .ok (.aload_n 0, 1) := by decide +kernel
theorem dX0_loudness_50 : decode cX0_loudness 50 = .ok (.getfield 15, 3) := by decide +kernel
theorem dX0_loudness_53 : decode cX0_loudness 53 = .ok (.iload_n 1, 1) := by decide +kernel
theorem dX0_loudness_54 : decode cX0_loudness 54 = .ok (.iaload, 1) := by decide +kernel
theorem dX0_loudness_55 : decode cX0_loudness 55 = .ok (.ireturn, 1) := by decide +kernel
theorem dX0_lightAt_0 : decode cX0_lightAt 0 = .ok (.iload_n 3, 1) := by decide +kernel
theorem dX0_lightAt_1 : decode cX0_lightAt 1 = .ok (.iconst 4, 1) := by decide +kernel
theorem dX0_lightAt_2 : decode cX0_lightAt 2 = .ok (.idiv, 1) := by decide +kernel
theorem dX0_lightAt_3 : decode cX0_lightAt 3 = .ok (.istore 4, 2) := by decide +kernel
theorem dX0_lightAt_5 : decode cX0_lightAt 5 = .ok (.iload_n 3, 1) := by decide +kernel
theorem dX0_lightAt_6 : decode cX0_lightAt 6 = .ok (.iconst 4, 1) := by decide +kernel
theorem dX0_lightAt_7 : decode cX0_lightAt 7 = .ok (.irem, 1) := by decide +kernel
theorem dX0_lightAt_8 : decode cX0_lightAt 8 = .ok (.istore 5, 2) := by decide +kernel
theorem dX0_lightAt_10 : decode cX0_lightAt 10 = .ok (.iload_n 2, 1) := by decide +kernel
theorem dX0_lightAt_11 : decode cX0_lightAt 11 = .ok (.bipush 25, 2) := by decide +kernel
theorem dX0_lightAt_13 : decode cX0_lightAt 13 = .ok (.if_icmp .eq 24, 3) := by decide +kernel
theorem dX0_lightAt_16 : decode cX0_lightAt 16 = .ok (.aload_n 0, 1) := by decide +kernel
theorem dX0_lightAt_17 : decode cX0_lightAt 17 = .ok (.iload_n 1, 1) := by decide +kernel
theorem dX0_lightAt_18 : decode cX0_lightAt 18 = .ok (.bipush 8, 2) := by decide +kernel
theorem dX0_lightAt_20 : decode cX0_lightAt 20 = .ok (.iload_n 2, 1) := by decide +kernel
theorem dX0_lightAt_21 : decode cX0_lightAt 21 = .ok (.iconst 5, 1) := by decide +kernel
theorem dX0_lightAt_22 : decode cX0_lightAt 22 = .ok (.idiv, 1) := by decide +kernel
theorem dX0_lightAt_23 : decode cX0_lightAt 23 = .ok (.iload 4, 2) := by decide +kernel
theorem dX0_lightAt_25 : decode cX0_lightAt 25 = .ok (.iadd, 1) := by decide +kernel
theorem dX0_lightAt_26 : decode cX0_lightAt 26 = .ok (.imul, 1) := by decide +kernel
theorem dX0_lightAt_27 : decode cX0_lightAt 27 = .ok (.iadd, 1) := by decide +kernel
theorem dX0_lightAt_28 : decode cX0_lightAt 28 = .ok (.iload_n 2, 1) := by decide +kernel
theorem dX0_lightAt_29 : decode cX0_lightAt 29 = .ok (.iconst 5, 1) := by decide +kernel
theorem dX0_lightAt_30 : decode cX0_lightAt 30 = .ok (.irem, 1) := by decide +kernel
theorem dX0_lightAt_31 : decode cX0_lightAt 31 = .ok (.iadd, 1) := by decide +kernel
theorem dX0_lightAt_32 : decode cX0_lightAt 32 = .ok (.iload 5, 2) := by decide +kernel
theorem dX0_lightAt_34 : decode cX0_lightAt 34 = .ok (.iadd, 1) := by decide +kernel
theorem dX0_lightAt_35 : decode cX0_lightAt 35 = .ok (.iaload, 1) := by decide +kernel
theorem dX0_lightAt_36 : decode cX0_lightAt 36 = .ok (.ireturn, 1) := by decide +kernel
theorem dX0_lightAt_37 : decode cX0_lightAt 37 = .ok (.iload_n 1, 1) := by decide +kernel
theorem dX0_lightAt_38 : decode cX0_lightAt 38 = .ok (.bipush 16, 2) := by decide +kernel
theorem dX0_lightAt_40 : decode cX0_lightAt 40 = .ok (.iload 4, 2) := by decide +kernel
theorem dX0_lightAt_42 : decode cX0_lightAt 42 = .ok (.imul, 1) := by decide +kernel
theorem dX0_lightAt_43 : decode cX0_lightAt 43 = .ok (.iadd, 1) := by decide +kernel
theorem dX0_lightAt_44 : decode cX0_lightAt 44 = .ok (.iconst 2, 1) := by decide +kernel
theorem dX0_lightAt_45 : decode cX0_lightAt 45 = .ok (.iload 5, 2) := by decide +kernel
theorem dX0_lightAt_47 : decode cX0_lightAt 47 = .ok (.imul, 1) := by decide +kernel
theorem dX0_lightAt_48 : decode cX0_lightAt 48 = .ok (.iadd, 1) := by decide +kernel
theorem dX0_lightAt_49 : decode cX0_lightAt 49 = .ok (.istore 6, 2) := by decide +kernel
theorem dX0_lightAt_51 : decode cX0_lightAt 51 = .ok (.iload 6, 2) := by decide +kernel
theorem dX0_lightAt_53 : decode cX0_lightAt 53 = .ok (.bipush 8, 2) := by decide +kernel
theorem dX0_lightAt_55 : decode cX0_lightAt 55 = .ok (.iadd, 1) := by decide +kernel
theorem dX0_lightAt_56 : decode cX0_lightAt 56 = .ok (.istore 7, 2) := by decide +kernel
theorem dX0_lightAt_58 : decode cX0_lightAt 58 = .ok (.aload_n 0, 1) := by decide +kernel
theorem dX0_lightAt_59 : decode cX0_lightAt 59 = .ok (.iload 6, 2) := by decide +kernel
theorem dX0_lightAt_61 : decode cX0_lightAt 61 = .ok (.iaload, 1) := by decide +kernel
theorem dX0_lightAt_62 : decode cX0_lightAt 62 = .ok (.aload_n 0, 1) := by decide +kernel
theorem dX0_lightAt_63 : decode cX0_lightAt 63 = .ok (.iload 6, 2) := by decide +kernel
theorem dX0_lightAt_65 : decode cX0_lightAt 65 = .ok (.iconst 1, 1) := by decide +kernel
theorem dX0_lightAt_66 : decode cX0_lightAt 66 = .ok (.iadd, 1) := by decide +kernel
theorem dX0_lightAt_67 : decode cX0_lightAt 67 = .ok (.iaload, 1) := by decide +kernel
theorem dX0_lightAt_68 : decode cX0_lightAt 68 = .ok (.iadd, 1) := by decide +kernel
theorem dX0_lightAt_69 : decode cX0_lightAt 69 = .ok (.aload_n 0, 1) := by decide +kernel
theorem dX0_lightAt_70 : decode cX0_lightAt 70 = .ok (.iload 7, 2) := by decide +kernel
theorem dX0_lightAt_72 : decode cX0_lightAt 72 = .ok (.iaload, 1) := by decide +kernel
theorem dX0_lightAt_73 : decode cX0_lightAt 73 = .ok (.iadd, 1) := by decide +kernel
theorem dX0_lightAt_74 : decode cX0_lightAt 74 = .ok (.aload_n 0, 1) := by decide +kernel
theorem dX0_lightAt_75 : decode cX0_lightAt 75 = .ok (.iload 7, 2) := by decide +kernel
theorem dX0_lightAt_77 : decode cX0_lightAt 77 = .ok (.iconst 1, 1) := by decide +kernel
theorem dX0_lightAt_78 : decode cX0_lightAt 78 = .ok (.iadd, 1) := by decide +kernel
theorem dX0_lightAt_79 : decode cX0_lightAt 79 = .ok (.iaload, 1) := by decide +kernel
theorem dX0_lightAt_80 : decode cX0_lightAt 80 = .ok (.iadd, 1) := by decide +kernel
theorem dX0_lightAt_81 : decode cX0_lightAt 81 = .ok (.iconst 4, 1) := by decide +kernel
theorem dX0_lightAt_82 : decode cX0_lightAt 82 = .ok (.idiv, 1) := by decide +kernel
theorem dX0_lightAt_83 : decode cX0_lightAt 83 = .ok (.ireturn, 1) := by decide +kernel
theorem dX0_byWay_0 : decode cX0_byWay 0 = .ok (.iload_n 1, 1) := by decide +kernel
theorem dX0_byWay_1 : decode cX0_byWay 1 = .ok (.iconst 1, 1) := by decide +kernel
theorem dX0_byWay_2 : decode cX0_byWay 2 = .ok (.if_icmp .ne 13, 3) := by decide +kernel
theorem dX0_byWay_5 : decode cX0_byWay 5 = .ok (.bipush 9, 2) := by decide +kernel
theorem dX0_byWay_7 : decode cX0_byWay 7 = .ok (.aload_n 0, 1) := by decide +kernel
theorem dX0_byWay_8 : decode cX0_byWay 8 = .ok (.getfield 9, 3) := by decide +kernel
theorem dX0_byWay_11 : decode cX0_byWay 11 = .ok (.iload_n 2, 1) := by decide +kernel
theorem dX0_byWay_12 : decode cX0_byWay 12 = .ok (.iaload, 1) := by decide +kernel
theorem dX0_byWay_13 : decode cX0_byWay 13 = .ok (.isub, 1) := by decide +kernel
theorem dX0_byWay_14 : decode cX0_byWay 14 = .ok (.ireturn, 1) := by decide +kernel
theorem dX0_byWay_15 : decode cX0_byWay 15 = .ok (.iload_n 1, 1) := by decide +kernel
theorem dX0_byWay_16 : decode cX0_byWay 16 = .ok (.iconst 2, 1) := by decide +kernel
theorem dX0_byWay_17 : decode cX0_byWay 17 = .ok (.if_icmp .ne 21, 3) := by decide +kernel
theorem dX0_byWay_20 : decode cX0_byWay 20 = .ok (.aload_n 0, 1) := by decide +kernel
theorem dX0_byWay_21 : decode cX0_byWay 21 = .ok (.iload_n 2, 1) := by decide +kernel
theorem dX0_byWay_22 : decode cX0_byWay 22 = .ok (.iconst 1, 1) := by decide +kernel
theorem dX0_byWay_23 : decode cX0_byWay 23 = .ok (.invokevirtual 58, 3) := by decide +kernel
theorem dX0_byWay_26 : decode cX0_byWay 26 = .ok (.aload_n 0, 1) := by decide +kernel
theorem dX0_byWay_27 : decode cX0_byWay 27 = .ok (.iload_n 2, 1) := by decide +kernel
theorem dX0_byWay_28 : decode cX0_byWay 28 = .ok (.iconst 3, 1) := by decide +kernel
theorem dX0_byWay_29 : decode cX0_byWay 29 = .ok (.invokevirtual 58, 3) := by decide +kernel
theorem dX0_byWay_32 : decode cX0_byWay 32 = .ok (.invokestatic 61, 3) := by decide +kernel
theorem dX0_byWay_35 : decode cX0_byWay 35 = .ok (.goto 9, 3) := by decide +kernel
theorem dX0_byWay_38 : decode cX0_byWay 38 = .ok (.aload_n 0, 1) := by decide +kernel
theorem dX0_byWay_39 : decode cX0_byWay 39 = .ok (.getfield 9, 3) := by decide +kernel
theorem dX0_byWay_42 : decode cX0_byWay 42 = .ok (.iload_n 2, 1) := by decide +kernel
theorem dX0_byWay_43 : decode cX0_byWay 43 = .ok (.iaload, 1) := by decide +kernel
theorem dX0_byWay_44 : decode cX0_byWay 44 = .ok (.ireturn, 1) := by decide +kernel
theorem dX0_edge_0 : decode cX0_edge 0 = .ok (.getstatic 55, 3) := by decide +kernel
theorem dX0_edge_3 : decode cX0_edge 3 = .ok (.iconst 4, 1) := by decide +kernel
theorem dX0_edge_4 : decode cX0_edge 4 = .ok (.iload_n 1, 1) := by decide +kernel
theorem dX0_edge_5 : decode cX0_edge 5 = .ok (.imul, 1) := by decide +kernel
theorem dX0_edge_6 : decode cX0_edge 6 = .ok (.iload_n 2, 1) := by decide +kernel
theorem dX0_edge_7 : decode cX0_edge 7 = .ok (.iadd, 1) := by decide +kernel
theorem dX0_edge_8 : decode cX0_edge 8 = .ok (.iaload, 1) := by decide +kernel
theorem dX0_edge_9 : decode cX0_edge 9 = .ok (.istore_n 3, 1) := by decide +kernel
theorem dX0_edge_10 : decode cX0_edge 10 = .ok (.iload_n 3, 1) := by decide +kernel
theorem dX0_edge_11 : decode cX0_edge 11 = .ok (.ifCond .ge 7, 3) := by decide +kernel
theorem dX0_edge_14 : decode cX0_edge 14 = .ok (.iconst 0, 1) := by decide +kernel
theorem dX0_edge_15 : decode cX0_edge 15 = .ok (.goto 19, 3) := by decide +kernel
theorem dX0_edge_18 : decode cX0_edge 18 = .ok (.aload_n 0, 1) := by decide +kernel
theorem dX0_edge_19 : decode cX0_edge 19 = .ok (.getfield 9, 3) := by decide +kernel
theorem dX0_edge_22 : decode cX0_edge 22 = .ok (.iload_n 1, 1) := by decide +kernel
theorem dX0_edge_23 : decode cX0_edge 23 = .ok (.iaload, 1) := by decide +kernel
theorem dX0_edge_24 : decode cX0_edge 24 = .ok (.aload_n 0, 1) := by decide +kernel
theorem dX0_edge_25 : decode cX0_edge 25 = .ok (.getfield 9, 3) := by decide +kernel
theorem dX0_edge_28 : decode cX0_edge 28 = .ok (.iload_n 3, 1) := by decide +kernel
theorem dX0_edge_29 : decode cX0_edge 29 = .ok (.iaload, 1) := by decide +kernel
theorem dX0_edge_30 : decode cX0_edge 30 = .ok (.isub, 1) := by decide +kernel
theorem dX0_edge_31 : decode cX0_edge 31 = .ok (.invokestatic 66, 3) := by decide +kernel
theorem dX0_edge_34 : decode cX0_edge 34 = .ok (.ireturn, 1) := by decide +kernel
theorem dX0_goRound_0 : decode cX0_goRound 0 = .ok (.iconst 0, 1) := by decide +kernel
theorem dX0_goRound_1 : decode cX0_goRound 1 = .ok (.istore_n 2, 1) := by decide +kernel
theorem dX0_goRound_2 : decode cX0_goRound 2 = .ok (.iload_n 2, 1) := by decide +kernel
theorem dX0_goRound_3 : decode cX0_goRound 3 = .ok (.bipush 16, 2) := by decide +kernel
theorem dX0_goRound_5 : decode cX0_goRound 5 = .ok (.if_icmp .ge 49, 3) := by decide +kernel
theorem dX0_goRound_8 : decode cX0_goRound 8 = .ok (.iload_n 1, 1) := by decide +kernel
theorem dX0_goRound_9 : decode cX0_goRound 9 = .ok (.iload_n 2, 1) := by decide +kernel
theorem dX0_goRound_10 : decode cX0_goRound 10 = .ok (.invokestatic 37, 3) := by decide +kernel
theorem dX0_goRound_13 : decode cX0_goRound 13 = .ok (.iconst 1, 1) := by decide +kernel
theorem dX0_goRound_14 : decode cX0_goRound 14 = .ok (.if_icmp .ne 34, 3) := by decide +kernel
theorem dX0_goRound_17 : decode cX0_goRound 17 = .ok (.iload_n 2, 1) := by decide +kernel
theorem dX0_goRound_18 : decode cX0_goRound 18 = .ok (.iload_n 1, 1) := by decide +kernel
theorem dX0_goRound_19 : decode cX0_goRound 19 = .ok (.invokestatic 70, 3) := by decide +kernel
theorem dX0_goRound_22 : decode cX0_goRound 22 = .ok (.istore_n 3, 1) := by decide +kernel
theorem dX0_goRound_23 : decode cX0_goRound 23 = .ok (.iload_n 3, 1) := by decide +kernel
theorem dX0_goRound_24 : decode cX0_goRound 24 = .ok (.ifCond .lt 24, 3) := by decide +kernel
theorem dX0_goRound_27 : decode cX0_goRound 27 = .ok (.aload_n 0, 1) := by decide +kernel
theorem dX0_goRound_28 : decode cX0_goRound 28 = .ok (.getfield 15, 3) := by decide +kernel
theorem dX0_goRound_31 : decode cX0_goRound 31 = .ok (.iload_n 3, 1) := by decide +kernel
theorem dX0_goRound_32 : decode cX0_goRound 32 = .ok (.aload_n 0, 1) := by decide +kernel
theorem dX0_goRound_33 : decode cX0_goRound 33 = .ok (.getfield 15, 3) := by decide +kernel
theorem dX0_goRound_36 : decode cX0_goRound 36 = .ok (.iload_n 3, 1) := by decide +kernel
theorem dX0_goRound_37 : decode cX0_goRound 37 = .ok (.iaload, 1) := by decide +kernel
theorem dX0_goRound_38 : decode cX0_goRound 38 = .ok (.aload_n 0, 1) := by decide +kernel
theorem dX0_goRound_39 : decode cX0_goRound 39 = .ok (.getfield 21, 3) := by decide +kernel
theorem dX0_goRound_42 : decode cX0_goRound 42 = .ok (.iload_n 2, 1) := by decide +kernel
theorem dX0_goRound_43 : decode cX0_goRound 43 = .ok (.iaload, 1) := by decide +kernel
theorem dX0_goRound_44 : decode cX0_goRound 44 = .ok (.invokestatic 61, 3) := by decide +kernel
theorem dX0_goRound_47 : decode cX0_goRound 47 = .ok (.iastore, 1) := by decide +kernel
theorem dX0_goRound_48 : decode cX0_goRound 48 = .ok (.iinc 2 1, 3) := by decide +kernel
theorem dX0_goRound_51 : decode cX0_goRound 51 = .ok (.goto (-49), 3) := by decide +kernel
theorem dX0_goRound_54 : decode cX0_goRound 54 = .ok (.return_, 1) := by decide +kernel
theorem dX0_firstLiving_0 : decode cX0_firstLiving 0 = .ok (.iconst 0, 1) := by decide +kernel
theorem dX0_firstLiving_1 : decode cX0_firstLiving 1 = .ok (.istore_n 2, 1) := by decide +kernel
theorem dX0_firstLiving_2 : decode cX0_firstLiving 2 = .ok (.iload_n 2, 1) := by decide +kernel
theorem dX0_firstLiving_3 : decode cX0_firstLiving 3 = .ok (.iconst 4, 1) := by decide +kernel
theorem dX0_firstLiving_4 : decode cX0_firstLiving 4 = .ok (.if_icmp .ge 33, 3) := by decide +kernel
theorem dX0_firstLiving_7 : decode cX0_firstLiving 7 = .ok (.getstatic 55, 3) := by decide +kernel
theorem dX0_firstLiving_10 : decode cX0_firstLiving 10 = .ok (.iconst 4, 1) := by decide +kernel
theorem dX0_firstLiving_11 : decode cX0_firstLiving 11 = .ok (.iload_n 0, 1) := by decide +kernel
theorem dX0_firstLiving_12 : decode cX0_firstLiving 12 = .ok (.imul, 1) := by decide +kernel
theorem dX0_firstLiving_13 : decode cX0_firstLiving 13 = .ok (.iload_n 2, 1) := by decide +kernel
theorem dX0_firstLiving_14 : decode cX0_firstLiving 14 = .ok (.iadd, 1) := by decide +kernel
theorem dX0_firstLiving_15 : decode cX0_firstLiving 15 = .ok (.iaload, 1) := by decide +kernel
theorem dX0_firstLiving_16 : decode cX0_firstLiving 16 = .ok (.istore_n 3, 1) := by decide +kernel
theorem dX0_firstLiving_17 : decode cX0_firstLiving 17 = .ok (.iload_n 3, 1) := by decide +kernel
theorem dX0_firstLiving_18 : decode cX0_firstLiving 18 = .ok (.ifCond .lt 13, 3) := by decide +kernel
theorem dX0_firstLiving_21 : decode cX0_firstLiving 21 = .ok (.iload_n 1, 1) := by decide +kernel
theorem dX0_firstLiving_22 : decode cX0_firstLiving 22 = .ok (.iload_n 3, 1) := by decide +kernel
theorem dX0_firstLiving_23 : decode cX0_firstLiving 23 = .ok (.invokestatic 37, 3) := by decide +kernel
theorem dX0_firstLiving_26 : decode cX0_firstLiving 26 = .ok (.ifCond .ne 5, 3) := by decide +kernel
theorem dX0_firstLiving_29 : decode cX0_firstLiving 29 = .ok (.iload_n 3, 1) := by decide +kernel
theorem dX0_firstLiving_30 : decode cX0_firstLiving 30 = .ok (.ireturn, 1) := by decide +kernel
theorem dX0_firstLiving_31 : decode cX0_firstLiving 31 = .ok (.iinc 2 1, 3) := by decide +kernel
theorem dX0_firstLiving_34 : decode cX0_firstLiving 34 = .ok (.goto (-32), 3) := by decide +kernel
theorem dX0_firstLiving_37 : decode cX0_firstLiving 37 = .ok (.iconst (-1), 1) := by decide +kernel
theorem dX0_firstLiving_38 : decode cX0_firstLiving 38 = .ok (.ireturn, 1) := by decide +kernel
theorem dX0_feel_0 : decode cX0_feel 0 = .ok (.aload_n 0, 1) := by decide +kernel
theorem dX0_feel_1 : decode cX0_feel 1 = .ok (.getfield 18, 3) := by decide +kernel
theorem dX0_feel_4 : decode cX0_feel 4 = .ok (.iload_n 1, 1) := by decide +kernel
theorem dX0_feel_5 : decode cX0_feel 5 = .ok (.iconst 0, 1) := by decide +kernel
theorem dX0_feel_6 : decode cX0_feel 6 = .ok (.iastore, 1) := by decide +kernel
theorem dX0_feel_7 : decode cX0_feel 7 = .ok (.aload_n 2, 1) := by decide +kernel
theorem dX0_feel_8 : decode cX0_feel 8 = .ok (.getfield 28, 3) := by decide +kernel
theorem dX0_feel_11 : decode cX0_feel 11 = .ok (.bipush 11, 2) := by decide +kernel
theorem dX0_feel_13 : decode cX0_feel 13 = .ok (.iaload, 1) := by decide +kernel
theorem dX0_feel_14 : decode cX0_feel 14 = .ok (.iload_n 1, 1) := by decide +kernel
theorem dX0_feel_15 : decode cX0_feel 15 = .ok (.invokestatic 37, 3) := by decide +kernel
theorem dX0_feel_18 : decode cX0_feel 18 = .ok (.iconst 1, 1) := by decide +kernel
theorem dX0_feel_19 : decode cX0_feel 19 = .ok (.if_icmp .ne 4, 3) := by decide +kernel
theorem dX0_feel_22 : decode cX0_feel 22 = .ok (.return_, 1) := by decide +kernel
theorem dX0_feel_23 : decode cX0_feel 23 = .ok (.aload_n 0, 1) := by decide +kernel
theorem dX0_feel_24 : decode cX0_feel 24 = .ok (.getfield 15, 3) := by decide +kernel
theorem dX0_feel_27 : decode cX0_feel 27 = .ok (.iload_n 1, 1) := by decide +kernel
theorem dX0_feel_28 : decode cX0_feel 28 = .ok (.iaload, 1) := by decide +kernel
theorem dX0_feel_29 : decode cX0_feel 29 = .ok (.aload_n 2, 1) := by decide +kernel
theorem dX0_feel_30 : decode cX0_feel 30 = .ok (.getfield 28, 3) := by decide +kernel
theorem dX0_feel_33 : decode cX0_feel 33 = .ok (.iconst 1, 1) := by decide +kernel
theorem dX0_feel_34 : decode cX0_feel 34 = .ok (.iaload, 1) := by decide +kernel
theorem dX0_feel_35 : decode cX0_feel 35 = .ok (.aload_n 0, 1) := by decide +kernel
theorem dX0_feel_36 : decode cX0_feel 36 = .ok (.iload_n 1, 1) := by decide +kernel
theorem dX0_feel_37 : decode cX0_feel 37 = .ok (.invokevirtual 73, 3) := by decide +kernel
theorem dX0_feel_40 : decode cX0_feel 40 = .ok (.imul, 1) := by decide +kernel
theorem dX0_feel_41 : decode cX0_feel 41 = .ok (.bipush 16, 2) := by decide +kernel
theorem dX0_feel_43 : decode cX0_feel 43 = .ok (.idiv, 1) := by decide +kernel
theorem dX0_feel_44 : decode cX0_feel 44 = .ok (.iadd, 1) := by decide +kernel
theorem dX0_feel_45 : decode cX0_feel 45 = .ok (.aload_n 2, 1) := by decide +kernel
theorem dX0_feel_46 : decode cX0_feel 46 = .ok (.getfield 28, 3) := by decide +kernel
theorem dX0_feel_49 : decode cX0_feel 49 = .ok (.iconst 2, 1) := by decide +kernel
theorem dX0_feel_50 : decode cX0_feel 50 = .ok (.iaload, 1) := by decide +kernel
theorem dX0_feel_51 : decode cX0_feel 51 = .ok (.iload_n 1, 1) := by decide +kernel
theorem dX0_feel_52 : decode cX0_feel 52 = .ok (.iconst 4, 1) := by decide +kernel
theorem dX0_feel_53 : decode cX0_feel 53 = .ok (.idiv, 1) := by decide +kernel
theorem dX0_feel_54 : decode cX0_feel 54 = .ok (.imul, 1) := by decide +kernel
theorem dX0_feel_55 : decode cX0_feel 55 = .ok (.isub, 1) := by decide +kernel
theorem dX0_feel_56 : decode cX0_feel 56 = .ok (.aload_n 2, 1) := by decide +kernel
theorem dX0_feel_57 : decode cX0_feel 57 = .ok (.getfield 28, 3) := by decide +kernel
theorem dX0_feel_60 : decode cX0_feel 60 = .ok (.iconst 3, 1) := by decide +kernel
theorem dX0_feel_61 : decode cX0_feel 61 = .ok (.iaload, 1) := by decide +kernel
theorem dX0_feel_62 : decode cX0_feel 62 = .ok (.iload_n 3, 1) := by decide +kernel
theorem dX0_feel_63 : decode cX0_feel 63 = .ok (.imul, 1) := by decide +kernel
theorem dX0_feel_64 : decode cX0_feel 64 = .ok (.bipush 10, 2) := by decide +kernel
theorem dX0_feel_66 : decode cX0_feel 66 = .ok (.idiv, 1) := by decide +kernel
theorem dX0_feel_67 : decode cX0_feel 67 = .ok (.isub, 1) := by decide +kernel
theorem dX0_feel_68 : decode cX0_feel 68 = .ok (.istore 4, 2) := by decide +kernel
theorem dX0_feel_70 : decode cX0_feel 70 = .ok (.iload 4, 2) := by decide +kernel
theorem dX0_feel_72 : decode cX0_feel 72 = .ok (.aload_n 2, 1) := by decide +kernel
theorem dX0_feel_73 : decode cX0_feel 73 = .ok (.getfield 76, 3) := by decide +kernel
theorem dX0_feel_76 : decode cX0_feel 76 = .ok (.iload_n 1, 1) := by decide +kernel
theorem dX0_feel_77 : decode cX0_feel 77 = .ok (.iaload, 1) := by decide +kernel
theorem dX0_feel_78 : decode cX0_feel 78 = .ok (.if_icmp .ge 4, 3) := by decide +kernel
theorem dX0_feel_81 : decode cX0_feel 81 = .ok (.return_, 1) := by decide +kernel
theorem dX0_feel_82 : decode cX0_feel 82 = .ok (.aload_n 0, 1) := by decide +kernel
theorem dX0_feel_83 : decode cX0_feel 83 = .ok (.getfield 18, 3) := by decide +kernel
theorem dX0_feel_86 : decode cX0_feel 86 = .ok (.iload_n 1, 1) := by decide +kernel
theorem dX0_feel_87 : decode cX0_feel 87 = .ok (.iload 4, 2) := by decide +kernel
theorem dX0_feel_89 : decode cX0_feel 89 = .ok (.aload_n 2, 1) := by decide +kernel
theorem dX0_feel_90 : decode cX0_feel 90 = .ok (.getfield 28, 3) := by decide +kernel
theorem dX0_feel_93 : decode cX0_feel 93 = .ok (.iconst 4, 1) := by decide +kernel
theorem dX0_feel_94 : decode cX0_feel 94 = .ok (.iaload, 1) := by decide +kernel
theorem dX0_feel_95 : decode cX0_feel 95 = .ok (.invokestatic 79, 3) := by decide +kernel
theorem dX0_feel_98 : decode cX0_feel 98 = .ok (.iastore, 1) := by decide +kernel
theorem dX0_feel_99 : decode cX0_feel 99 = .ok (.iload 4, 2) := by decide +kernel
theorem dX0_feel_101 : decode cX0_feel 101 = .ok (.aload_n 2, 1) := by decide +kernel
theorem dX0_feel_102 : decode cX0_feel 102 = .ok (.getfield 28, 3) := by decide +kernel
theorem dX0_feel_105 : decode cX0_feel 105 = .ok (.iconst 4, 1) := by decide +kernel
theorem dX0_feel_106 : decode cX0_feel 106 = .ok (.iaload, 1) := by decide +kernel
theorem dX0_feel_107 : decode cX0_feel 107 = .ok (.if_icmp .le 15, 3) := by decide +kernel
theorem dX0_feel_110 : decode cX0_feel 110 = .ok (.aload_n 0, 1) := by decide +kernel
theorem dX0_feel_111 : decode cX0_feel 111 = .ok (.dup, 1) := by decide +kernel
theorem dX0_feel_112 : decode cX0_feel 112 = .ok (.getfield 44, 3) := by decide +kernel
theorem dX0_feel_115 : decode cX0_feel 115 = .ok (.iconst 1, 1) := by decide +kernel
theorem dX0_feel_116 : decode cX0_feel 116 = .ok (.iload_n 1, 1) := by decide +kernel
theorem dX0_feel_117 : decode cX0_feel 117 = .ok (.ishl, 1) := by decide +kernel
theorem dX0_feel_118 : decode cX0_feel 118 = .ok (.ior, 1) := by decide +kernel
theorem dX0_feel_119 : decode cX0_feel 119 = .ok (.putfield 44, 3) := by decide +kernel
theorem dX0_feel_122 : decode cX0_feel 122 = .ok (.return_, 1) := by decide +kernel
theorem dX0_shownBeside_0 : decode cX0_shownBeside 0 = .ok (.iconst 0, 1) := by decide +kernel
theorem dX0_shownBeside_1 : decode cX0_shownBeside 1 = .ok (.istore_n 2, 1) := by decide +kernel
theorem dX0_shownBeside_2 : decode cX0_shownBeside 2 = .ok (.iconst 0, 1) := by decide +kernel
theorem dX0_shownBeside_3 : decode cX0_shownBeside 3 = .ok (.istore_n 3, 1) := by decide +kernel
theorem dX0_shownBeside_4 : decode cX0_shownBeside 4 = .ok (.iload_n 3, 1) := by decide +kernel
theorem dX0_shownBeside_5 : decode cX0_shownBeside 5 = .ok (.iconst 4, 1) := by decide +kernel
theorem dX0_shownBeside_6 : decode cX0_shownBeside 6 = .ok (.if_icmp .ge 39, 3) := by decide +kernel
theorem dX0_shownBeside_9 : decode cX0_shownBeside 9 = .ok (.getstatic 55, 3) := by decide +kernel
theorem dX0_shownBeside_12 : decode cX0_shownBeside 12 = .ok (.iconst 4, 1) := by decide +kernel
theorem dX0_shownBeside_13 : decode cX0_shownBeside 13 = .ok (.iload_n 1, 1) := by decide +kernel
theorem dX0_shownBeside_14 : decode cX0_shownBeside 14 = .ok (.imul, 1) := by decide +kernel
theorem dX0_shownBeside_15 : decode cX0_shownBeside 15 = .ok (.iload_n 3, 1) := by decide +kernel
theorem dX0_shownBeside_16 : decode cX0_shownBeside 16 = .ok (.iadd, 1) := by decide +kernel
theorem dX0_shownBeside_17 : decode cX0_shownBeside 17 = .ok (.iaload, 1) := by decide +kernel
theorem dX0_shownBeside_18 : decode cX0_shownBeside 18 = .ok (.istore 4, 2) := by decide +kernel
theorem dX0_shownBeside_20 : decode cX0_shownBeside 20 = .ok (.iload_n 2, 1) := by decide +kernel
theorem dX0_shownBeside_21 : decode cX0_shownBeside 21 = .ok (.iload 4, 2) := by decide +kernel
theorem dX0_shownBeside_23 : decode cX0_shownBeside 23 = .ok (.ifCond .ge 7, 3) := by decide +kernel
theorem dX0_shownBeside_26 : decode cX0_shownBeside 26 = .ok (.iconst 0, 1) := by decide +kernel
theorem dX0_shownBeside_27 : decode cX0_shownBeside 27 = .ok (.goto 10, 3) := by decide +kernel
theorem dX0_shownBeside_30 : decode cX0_shownBeside 30 = .ok (.aload_n 0, 1) := by decide +kernel
theorem dX0_shownBeside_31 : decode cX0_shownBeside 31 = .ok (.getfield 15, 3) := by decide +kernel
theorem dX0_shownBeside_34 : decode cX0_shownBeside 34 = .ok (.iload 4, 2) := by decide +kernel
theorem dX0_shownBeside_36 : decode cX0_shownBeside 36 = .ok (.iaload, 1) := by decide +kernel
theorem dX0_shownBeside_37 : decode cX0_shownBeside 37 = .ok (.iadd, 1) := by decide +kernel
theorem dX0_shownBeside_38 : decode cX0_shownBeside 38 = .ok (.istore_n 2, 1) := by decide +kernel
theorem dX0_shownBeside_39 : decode cX0_shownBeside 39 = .ok (.iinc 3 1, 3) := by decide +kernel
theorem dX0_shownBeside_42 : decode cX0_shownBeside 42 = .ok (.goto (-38), 3) := by decide +kernel
theorem dX0_shownBeside_45 : decode cX0_shownBeside 45 = .ok (.iload_n 2, 1) := by decide +kernel
theorem dX0_shownBeside_46 : decode cX0_shownBeside 46 = .ok (.ireturn, 1) := by decide +kernel
theorem dX1_init_0 : decode cX1_init 0 = .ok (.aload_n 0, 1) := by decide +kernel
theorem dX1_init_1 : decode cX1_init 1 = .ok (.invokespecial 3, 3) := by decide +kernel
theorem dX1_init_4 : decode cX1_init 4 = .ok (.aload_n 0, 1) := by decide +kernel
theorem dX1_init_5 : decode cX1_init 5 = .ok (.bipush 12, 2) := by decide +kernel
theorem dX1_init_7 : decode cX1_init 7 = .ok (.newarray .int, 2) := by decide +kernel
theorem dX1_init_9 : decode cX1_init 9 = .ok (.putfield 9, 3) := by decide +kernel
theorem dX1_init_12 : decode cX1_init 12 = .ok (.aload_n 0, 1) := by decide +kernel
theorem dX1_init_13 : decode cX1_init 13 = .ok (.bipush 16, 2) := by decide +kernel
theorem dX1_init_15 : decode cX1_init 15 = .ok (.newarray .int, 2) := by decide +kernel
theorem dX1_init_17 : decode cX1_init 17 = .ok (.putfield 15, 3) := by decide +kernel
theorem dX1_init_20 : decode cX1_init 20 = .ok (.aload_n 0, 1) := by decide +kernel
theorem dX1_init_21 : decode cX1_init 21 = .ok (.invokevirtual 18, 3) := by decide +kernel
theorem dX1_init_24 : decode cX1_init 24 = .ok (.return_, 1) := by decide +kernel
theorem dX1_toFirst_0 : decode cX1_toFirst 0 = .ok (.getstatic 21, 3) := by decide +kernel
theorem dX1_toFirst_3 : decode cX1_toFirst 3 = .ok (.iconst 0, 1) := by decide +kernel
theorem dX1_toFirst_4 : decode cX1_toFirst 4 = .ok (.aload_n 0, 1) := by decide +kernel
theorem dX1_toFirst_5 : decode cX1_toFirst 5 = .ok (.getfield 9, 3) := by decide +kernel
theorem dX1_toFirst_8 : decode cX1_toFirst 8 = .ok (.iconst 0, 1) := by decide +kernel
theorem dX1_toFirst_9 : decode cX1_toFirst 9 = .ok (.bipush 12, 2) := by decide +kernel
theorem dX1_toFirst_11 : decode cX1_toFirst 11 = .ok (.invokestatic 24, 3) := by decide +kernel
theorem dX1_toFirst_14 : decode cX1_toFirst 14 = .ok (.aload_n 0, 1) := by decide +kernel
theorem dX1_toFirst_15 : decode cX1_toFirst 15 = .ok (.getfield 15, 3) := by decide +kernel
theorem dX1_toFirst_18 : decode cX1_toFirst 18 = .ok (.iconst 1, 1) := by decide +kernel
theorem dX1_toFirst_19 : decode cX1_toFirst 19 = .ok (.invokestatic 30, 3) := by decide +kernel
theorem dX1_toFirst_22 : decode cX1_toFirst 22 = .ok (.return_, 1) := by decide +kernel
theorem dX1_takeFrom_0 : decode cX1_takeFrom 0 = .ok (.aload_n 1, 1) := by decide +kernel
theorem dX1_takeFrom_1 : decode cX1_takeFrom 1 = .ok (.getfield 9, 3) := by decide +kernel
theorem dX1_takeFrom_4 : decode cX1_takeFrom 4 = .ok (.iconst 0, 1) := by decide +kernel
theorem dX1_takeFrom_5 : decode cX1_takeFrom 5 = .ok (.aload_n 0, 1) := by decide +kernel
theorem dX1_takeFrom_6 : decode cX1_takeFrom 6 = .ok (.getfield 9, 3) := by decide +kernel
theorem dX1_takeFrom_9 : decode cX1_takeFrom 9 = .ok (.iconst 0, 1) := by decide +kernel
theorem dX1_takeFrom_10 : decode cX1_takeFrom 10 = .ok (.bipush 12, 2) := by decide +kernel
theorem dX1_takeFrom_12 : decode cX1_takeFrom 12 = .ok (.invokestatic 24, 3) := by decide +kernel
theorem dX1_takeFrom_15 : decode cX1_takeFrom 15 = .ok (.aload_n 1, 1) := by decide +kernel
theorem dX1_takeFrom_16 : decode cX1_takeFrom 16 = .ok (.getfield 15, 3) := by decide +kernel
theorem dX1_takeFrom_19 : decode cX1_takeFrom 19 = .ok (.iconst 0, 1) := by decide +kernel
theorem dX1_takeFrom_20 : decode cX1_takeFrom 20 = .ok (.aload_n 0, 1) := by decide +kernel
theorem dX1_takeFrom_21 : decode cX1_takeFrom 21 = .ok (.getfield 15, 3) := by decide +kernel
theorem dX1_takeFrom_24 : decode cX1_takeFrom 24 = .ok (.iconst 0, 1) := by decide +kernel
theorem dX1_takeFrom_25 : decode cX1_takeFrom 25 = .ok (.bipush 16, 2) := by decide +kernel
theorem dX1_takeFrom_27 : decode cX1_takeFrom 27 = .ok (.invokestatic 24, 3) := by decide +kernel
theorem dX1_takeFrom_30 : decode cX1_takeFrom 30 = .ok (.return_, 1) := by decide +kernel
theorem dX2_init_0 : decode cX2_init 0 = .ok (.aload_n 0, 1) := by decide +kernel
theorem dX2_init_1 : decode cX2_init 1 = .ok (.invokespecial 3, 3) := by decide +kernel
theorem dX2_init_4 : decode cX2_init 4 = .ok (.aload_n 0, 1) := by decide +kernel
theorem dX2_init_5 : decode cX2_init 5 = .ok (.sipush 156, 3) := by decide +kernel
theorem dX2_init_8 : decode cX2_init 8 = .ok (.newarray .int, 2) := by decide +kernel
theorem dX2_init_10 : decode cX2_init 10 = .ok (.putfield 9, 3) := by decide +kernel
theorem dX2_init_13 : decode cX2_init 13 = .ok (.return_, 1) := by decide +kernel
theorem dX2_forgetAll_0 : decode cX2_forgetAll 0 = .ok (.aload_n 0, 1) := by decide +kernel
theorem dX2_forgetAll_1 : decode cX2_forgetAll 1 = .ok (.iconst 0, 1) := by decide +kernel
theorem dX2_forgetAll_2 : decode cX2_forgetAll 2 = .ok (.putfield 15, 3) := by decide +kernel
theorem dX2_forgetAll_5 : decode cX2_forgetAll 5 = .ok (.return_, 1) := by decide +kernel
theorem dX2_isKnown_0 : decode cX2_isKnown 0 = .ok (.aload_n 0, 1) := by decide +kernel
theorem dX2_isKnown_1 : decode cX2_isKnown 1 = .ok (.getfield 15, 3) := by decide +kernel
theorem dX2_isKnown_4 : decode cX2_isKnown 4 = .ok (.iload_n 1, 1) := by decide +kernel
theorem dX2_isKnown_5 : decode cX2_isKnown 5 = .ok (.invokestatic 19, 3) := by decide +kernel
theorem dX2_isKnown_8 : decode cX2_isKnown 8 = .ok (.iconst 1, 1) := by decide +kernel
theorem dX2_isKnown_9 : decode cX2_isKnown 9 = .ok (.if_icmp .ne 7, 3) := by decide +kernel
theorem dX2_isKnown_12 : decode cX2_isKnown 12 = .ok (.iconst 1, 1) := by decide +kernel
theorem dX2_isKnown_13 : decode cX2_isKnown 13 = .ok (.goto 4, 3) := by decide +kernel
theorem dX2_isKnown_16 : decode cX2_isKnown 16 = .ok (.iconst 0, 1) := by decide +kernel
theorem dX2_isKnown_17 : decode cX2_isKnown 17 = .ok (.ireturn, 1) := by decide +kernel
theorem dX2_compare_0 : decode cX2_compare 0 = .ok (.aload_n 0, 1) := by decide +kernel
theorem dX2_compare_1 : decode cX2_compare 1 = .ok (.dup, 1) := by decide +kernel
theorem dX2_compare_2 : decode cX2_compare 2 = .ok (.getfield 15, 3) := by decide +kernel
theorem dX2_compare_5 : decode cX2_compare 5 = .ok (.iconst 1, 1) := by decide +kernel
theorem dX2_compare_6 : decode cX2_compare 6 = .ok (.iload_n 1, 1) := by decide +kernel
theorem dX2_compare_7 : decode cX2_compare 7 = .ok (.ishl, 1) := by decide +kernel
theorem dX2_compare_8 : decode cX2_compare 8 = .ok (.ior, 1) := by decide +kernel
theorem dX2_compare_9 : decode cX2_compare 9 = .ok (.putfield 15, 3) := by decide +kernel
theorem dX2_compare_12 : decode cX2_compare 12 = .ok (.iconst 0, 1) := by decide +kernel
theorem dX2_compare_13 : decode cX2_compare 13 = .ok (.istore_n 3, 1) := by decide +kernel
theorem dX2_compare_14 : decode cX2_compare 14 = .ok (.iload_n 3, 1) := by decide +kernel
theorem dX2_compare_15 : decode cX2_compare 15 = .ok (.bipush 6, 2) := by decide +kernel
theorem dX2_compare_17 : decode cX2_compare 17 = .ok (.if_icmp .ge 63, 3) := by decide +kernel
theorem dX2_compare_20 : decode cX2_compare 20 = .ok (.iconst 0, 1) := by decide +kernel
theorem dX2_compare_21 : decode cX2_compare 21 = .ok (.istore 4, 2) := by decide +kernel
theorem dX2_compare_23 : decode cX2_compare 23 = .ok (.iconst 0, 1) := by decide +kernel
theorem dX2_compare_24 : decode cX2_compare 24 = .ok (.istore 5, 2) := by decide +kernel
theorem dX2_compare_26 : decode cX2_compare 26 = .ok (.iload 5, 2) := by decide +kernel
theorem dX2_compare_28 : decode cX2_compare 28 = .ok (.bipush 6, 2) := by decide +kernel
theorem dX2_compare_30 : decode cX2_compare 30 = .ok (.if_icmp .ge 31, 3) := by decide +kernel
theorem dX2_compare_33 : decode cX2_compare 33 = .ok (.aload_n 2, 1) := by decide +kernel
theorem dX2_compare_34 : decode cX2_compare 34 = .ok (.iload_n 3, 1) := by decide +kernel
theorem dX2_compare_35 : decode cX2_compare 35 = .ok (.aaload, 1) := by decide +kernel
theorem dX2_compare_36 : decode cX2_compare 36 = .ok (.aload_n 2, 1) := by decide +kernel
theorem dX2_compare_37 : decode cX2_compare 37 = .ok (.iload 5, 2) := by decide +kernel
theorem dX2_compare_39 : decode cX2_compare 39 = .ok (.aaload, 1) := by decide +kernel
theorem dX2_compare_40 : decode cX2_compare 40 = .ok (.invokevirtual 23, 3) := by decide +kernel
theorem dX2_compare_43 : decode cX2_compare 43 = .ok (.ifCond .eq 12, 3) := by decide +kernel
theorem dX2_compare_46 : decode cX2_compare 46 = .ok (.iload 4, 2) := by decide +kernel
theorem dX2_compare_48 : decode cX2_compare 48 = .ok (.iconst 1, 1) := by decide +kernel
theorem dX2_compare_49 : decode cX2_compare 49 = .ok (.iload 5, 2) := by decide +kernel
theorem dX2_compare_51 : decode cX2_compare 51 = .ok (.ishl, 1) := by decide +kernel
theorem dX2_compare_52 : decode cX2_compare 52 = .ok (.ior, 1) := by decide +kernel
theorem dX2_compare_53 : decode cX2_compare 53 = .ok (.istore 4, 2) := by decide +kernel
theorem dX2_compare_55 : decode cX2_compare 55 = .ok (.iinc 5 1, 3) := by decide +kernel
theorem dX2_compare_58 : decode cX2_compare 58 = .ok (.goto (-32), 3) := by decide +kernel
theorem dX2_compare_61 : decode cX2_compare 61 = .ok (.aload_n 0, 1) := by decide +kernel
theorem dX2_compare_62 : decode cX2_compare 62 = .ok (.getfield 9, 3) := by decide +kernel
theorem dX2_compare_65 : decode cX2_compare 65 = .ok (.iload_n 1, 1) := by decide +kernel
theorem dX2_compare_66 : decode cX2_compare 66 = .ok (.bipush 6, 2) := by decide +kernel
theorem dX2_compare_68 : decode cX2_compare 68 = .ok (.imul, 1) := by decide +kernel
theorem dX2_compare_69 : decode cX2_compare 69 = .ok (.iload_n 3, 1) := by decide +kernel
theorem dX2_compare_70 : decode cX2_compare 70 = .ok (.iadd, 1) := by decide +kernel
theorem dX2_compare_71 : decode cX2_compare 71 = .ok (.iload 4, 2) := by decide +kernel
theorem dX2_compare_73 : decode cX2_compare 73 = .ok (.iastore, 1) := by decide +kernel
theorem dX2_compare_74 : decode cX2_compare 74 = .ok (.iinc 3 1, 3) := by decide +kernel
theorem dX2_compare_77 : decode cX2_compare 77 = .ok (.goto (-63), 3) := by decide +kernel
theorem dX2_compare_80 : decode cX2_compare 80 = .ok (.return_, 1) := by decide +kernel
theorem dX3_init_0 : decode cX3_init 0 = .ok (.aload_n 0, 1) := by decide +kernel
theorem dX3_init_1 : decode cX3_init 1 = .ok (.invokespecial 3, 3) := by decide +kernel
theorem dX3_init_4 : decode cX3_init 4 = .ok (.aload_n 0, 1) := by decide +kernel
theorem dX3_init_5 : decode cX3_init 5 = .ok (.bipush 12, 2) := by decide +kernel
theorem dX3_init_7 : decode cX3_init 7 = .ok (.newarray .int, 2) := by decide +kernel
theorem dX3_init_9 : decode cX3_init 9 = .ok (.putfield 9, 3) := by decide +kernel
theorem dX3_init_12 : decode cX3_init 12 = .ok (.aload_n 0, 1) := by decide +kernel
theorem dX3_init_13 : decode cX3_init 13 = .ok (.bipush 12, 2) := by decide +kernel
theorem dX3_init_15 : decode cX3_init 15 = .ok (.newarray .int, 2) := by decide +kernel
theorem dX3_init_17 : decode cX3_init 17 = .ok (.putfield 15, 3) := by decide +kernel
theorem dX3_init_20 : decode cX3_init 20 = .ok (.aload_n 0, 1) := by decide +kernel
theorem dX3_init_21 : decode cX3_init 21 = .ok (.bipush 12, 2) := by decide +kernel
theorem dX3_init_23 : decode cX3_init 23 = .ok (.newarray .int, 2) := by decide +kernel
theorem dX3_init_25 : decode cX3_init 25 = .ok (.putfield 18, 3) := by decide +kernel
theorem dX3_init_28 : decode cX3_init 28 = .ok (.aload_n 0, 1) := by decide +kernel
theorem dX3_init_29 : decode cX3_init 29 = .ok (.bipush 12, 2) := by decide +kernel
theorem dX3_init_31 : decode cX3_init 31 = .ok (.newarray .boolean, 2) := by decide +kernel
theorem dX3_init_33 : decode cX3_init 33 = .ok (.putfield 21, 3) := by decide +kernel
theorem dX3_init_36 : decode cX3_init 36 = .ok (.return_, 1) := by decide +kernel
theorem dX3_keep_0 : decode cX3_keep 0 = .ok (.aload_n 0, 1) := by decide +kernel
theorem dX3_keep_1 : decode cX3_keep 1 = .ok (.getfield 25, 3) := by decide +kernel
theorem dX3_keep_4 : decode cX3_keep 4 = .ok (.bipush 12, 2) := by decide +kernel
theorem dX3_keep_6 : decode cX3_keep 6 = .ok (.if_icmp .lt 5, 3) := by decide +kernel
theorem dX3_keep_9 : decode cX3_keep 9 = .ok (.iconst 0, 1) := by decide +kernel
theorem dX3_keep_10 : decode cX3_keep 10 = .ok (.ireturn, 1) := by decide +kernel
theorem dX3_keep_11 : decode cX3_keep 11 = .ok (.aload_n 0, 1) := by decide +kernel
theorem dX3_keep_12 : decode cX3_keep 12 = .ok (.getfield 9, 3) := by decide +kernel
theorem dX3_keep_15 : decode cX3_keep 15 = .ok (.aload_n 0, 1) := by decide +kernel
theorem dX3_keep_16 : decode cX3_keep 16 = .ok (.getfield 25, 3) := by decide +kernel
theorem dX3_keep_19 : decode cX3_keep 19 = .ok (.iload_n 1, 1) := by decide +kernel
theorem dX3_keep_20 : decode cX3_keep 20 = .ok (.iastore, 1) := by decide +kernel
theorem dX3_keep_21 : decode cX3_keep 21 = .ok (.aload_n 0, 1) := by decide +kernel
theorem dX3_keep_22 : decode cX3_keep 22 = .ok (.getfield 15, 3) := by decide +kernel
theorem dX3_keep_25 : decode cX3_keep 25 = .ok (.aload_n 0, 1) := by decide +kernel
theorem dX3_keep_26 : decode cX3_keep 26 = .ok (.getfield 25, 3) := by decide +kernel
theorem dX3_keep_29 : decode cX3_keep 29 = .ok (.iload_n 2, 1) := by decide +kernel
theorem dX3_keep_30 : decode cX3_keep 30 = .ok (.iastore, 1) := by decide +kernel
theorem dX3_keep_31 : decode cX3_keep 31 = .ok (.aload_n 0, 1) := by decide +kernel
theorem dX3_keep_32 : decode cX3_keep 32 = .ok (.getfield 18, 3) := by decide +kernel
theorem dX3_keep_35 : decode cX3_keep 35 = .ok (.aload_n 0, 1) := by decide +kernel
theorem dX3_keep_36 : decode cX3_keep 36 = .ok (.getfield 25, 3) := by decide +kernel
theorem dX3_keep_39 : decode cX3_keep 39 = .ok (.iload_n 3, 1) := by decide +kernel
theorem dX3_keep_40 : decode cX3_keep 40 = .ok (.iastore, 1) := by decide +kernel
theorem dX3_keep_41 : decode cX3_keep 41 = .ok (.aload_n 0, 1) := by decide +kernel
theorem dX3_keep_42 : decode cX3_keep 42 = .ok (.getfield 21, 3) := by decide +kernel
theorem dX3_keep_45 : decode cX3_keep 45 = .ok (.aload_n 0, 1) := by decide +kernel
theorem dX3_keep_46 : decode cX3_keep 46 = .ok (.getfield 25, 3) := by decide +kernel
theorem dX3_keep_49 : decode cX3_keep 49 = .ok (.iload 4, 2) := by decide +kernel
theorem dX3_keep_51 : decode cX3_keep 51 = .ok (.bastore, 1) := by decide +kernel
theorem dX3_keep_52 : decode cX3_keep 52 = .ok (.aload_n 0, 1) := by decide +kernel
theorem dX3_keep_53 : decode cX3_keep 53 = .ok (.dup, 1) := by decide +kernel
theorem dX3_keep_54 : decode cX3_keep 54 = .ok (.getfield 25, 3) := by decide +kernel
theorem dX3_keep_57 : decode cX3_keep 57 = .ok (.iconst 1, 1) := by decide +kernel
theorem dX3_keep_58 : decode cX3_keep 58 = .ok (.iadd, 1) := by decide +kernel
theorem dX3_keep_59 : decode cX3_keep 59 = .ok (.putfield 25, 3) := by decide +kernel
theorem dX3_keep_62 : decode cX3_keep 62 = .ok (.iconst 1, 1) := by decide +kernel
theorem dX3_keep_63 : decode cX3_keep 63 = .ok (.ireturn, 1) := by decide +kernel
theorem dX4_init_0 : decode cX4_init 0 = .ok (.aload_n 0, 1) := by decide +kernel
theorem dX4_init_1 : decode cX4_init 1 = .ok (.invokespecial 3, 3) := by decide +kernel
theorem dX4_init_4 : decode cX4_init 4 = .ok (.aload_n 0, 1) := by decide +kernel
theorem dX4_init_5 : decode cX4_init 5 = .ok (.bipush 26, 2) := by decide +kernel
theorem dX4_init_7 : decode cX4_init 7 = .ok (.newarray .int, 2) := by decide +kernel
theorem dX4_init_9 : decode cX4_init 9 = .ok (.putfield 9, 3) := by decide +kernel
theorem dX4_init_12 : decode cX4_init 12 = .ok (.aload_n 0, 1) := by decide +kernel
theorem dX4_init_13 : decode cX4_init 13 = .ok (.bipush 26, 2) := by decide +kernel
theorem dX4_init_15 : decode cX4_init 15 = .ok (.newarray .int, 2) := by decide +kernel
theorem dX4_init_17 : decode cX4_init 17 = .ok (.putfield 15, 3) := by decide +kernel
theorem dX4_init_20 : decode cX4_init 20 = .ok (.aload_n 0, 1) := by decide +kernel
theorem dX4_init_21 : decode cX4_init 21 = .ok (.bipush 26, 2) := by decide +kernel
theorem dX4_init_23 : decode cX4_init 23 = .ok (.newarray .int, 2) := by decide +kernel
theorem dX4_init_25 : decode cX4_init 25 = .ok (.putfield 18, 3) := by decide +kernel
theorem dX4_init_28 : decode cX4_init 28 = .ok (.return_, 1) := by decide +kernel
theorem dX4_startAt_0 : decode cX4_startAt 0 = .ok (.aload_n 0, 1) := by decide +kernel
theorem dX4_startAt_1 : decode cX4_startAt 1 = .ok (.getfield 18, 3) := by decide +kernel
theorem dX4_startAt_4 : decode cX4_startAt 4 = .ok (.iconst 0, 1) := by decide +kernel
theorem dX4_startAt_5 : decode cX4_startAt 5 = .ok (.invokestatic 21, 3) := by decide +kernel
theorem dX4_startAt_8 : decode cX4_startAt 8 = .ok (.aload_n 0, 1) := by decide +kernel
theorem dX4_startAt_9 : decode cX4_startAt 9 = .ok (.getfield 9, 3) := by decide +kernel
theorem dX4_startAt_12 : decode cX4_startAt 12 = .ok (.iconst 0, 1) := by decide +kernel
theorem dX4_startAt_13 : decode cX4_startAt 13 = .ok (.iload_n 1, 1) := by decide +kernel
theorem dX4_startAt_14 : decode cX4_startAt 14 = .ok (.iastore, 1) := by decide +kernel
theorem dX4_startAt_15 : decode cX4_startAt 15 = .ok (.aload_n 0, 1) := by decide +kernel
theorem dX4_startAt_16 : decode cX4_startAt 16 = .ok (.getfield 15, 3) := by decide +kernel
theorem dX4_startAt_19 : decode cX4_startAt 19 = .ok (.iload_n 1, 1) := by decide +kernel
theorem dX4_startAt_20 : decode cX4_startAt 20 = .ok (.iconst 0, 1) := by decide +kernel
theorem dX4_startAt_21 : decode cX4_startAt 21 = .ok (.iastore, 1) := by decide +kernel
theorem dX4_startAt_22 : decode cX4_startAt 22 = .ok (.aload_n 0, 1) := by decide +kernel
theorem dX4_startAt_23 : decode cX4_startAt 23 = .ok (.getfield 18, 3) := by decide +kernel
theorem dX4_startAt_26 : decode cX4_startAt 26 = .ok (.iload_n 1, 1) := by decide +kernel
theorem dX4_startAt_27 : decode cX4_startAt 27 = .ok (.iconst 1, 1) := by decide +kernel
theorem dX4_startAt_28 : decode cX4_startAt 28 = .ok (.iastore, 1) := by decide +kernel
theorem dX4_startAt_29 : decode cX4_startAt 29 = .ok (.aload_n 0, 1) := by decide +kernel
theorem dX4_startAt_30 : decode cX4_startAt 30 = .ok (.iconst 1, 1) := by decide +kernel
theorem dX4_startAt_31 : decode cX4_startAt 31 = .ok (.putfield 27, 3) := by decide +kernel
theorem dX4_startAt_34 : decode cX4_startAt 34 = .ok (.return_, 1) := by decide +kernel
theorem dX4_goOnFrom_0 : decode cX4_goOnFrom 0 = .ok (.iconst 0, 1) := by decide +kernel
theorem dX4_goOnFrom_1 : decode cX4_goOnFrom 1 = .ok (.istore_n 2, 1) := by decide +kernel
theorem dX4_goOnFrom_2 : decode cX4_goOnFrom 2 = .ok (.iload_n 2, 1) := by decide +kernel
theorem dX4_goOnFrom_3 : decode cX4_goOnFrom 3 = .ok (.bipush 6, 2) := by decide +kernel
theorem dX4_goOnFrom_5 : decode cX4_goOnFrom 5 = .ok (.if_icmp .ge 84, 3) := by decide +kernel
theorem dX4_goOnFrom_8 : decode cX4_goOnFrom 8 = .ok (.iload_n 1, 1) := by decide +kernel
theorem dX4_goOnFrom_9 : decode cX4_goOnFrom 9 = .ok (.iload_n 2, 1) := by decide +kernel
theorem dX4_goOnFrom_10 : decode cX4_goOnFrom 10 = .ok (.invokestatic 31, 3) := by decide +kernel
theorem dX4_goOnFrom_13 : decode cX4_goOnFrom 13 = .ok (.istore_n 3, 1) := by decide +kernel
theorem dX4_goOnFrom_14 : decode cX4_goOnFrom 14 = .ok (.aload_n 0, 1) := by decide +kernel
theorem dX4_goOnFrom_15 : decode cX4_goOnFrom 15 = .ok (.getfield 18, 3) := by decide +kernel
theorem dX4_goOnFrom_18 : decode cX4_goOnFrom 18 = .ok (.iload_n 3, 1) := by decide +kernel
theorem dX4_goOnFrom_19 : decode cX4_goOnFrom 19 = .ok (.iaload, 1) := by decide +kernel
theorem dX4_goOnFrom_20 : decode cX4_goOnFrom 20 = .ok (.ifCond .ne 63, 3) := by decide +kernel
theorem dX4_goOnFrom_23 : decode cX4_goOnFrom 23 = .ok (.aload_n 0, 1) := by decide +kernel
theorem dX4_goOnFrom_24 : decode cX4_goOnFrom 24 = .ok (.getfield 27, 3) := by decide +kernel
theorem dX4_goOnFrom_27 : decode cX4_goOnFrom 27 = .ok (.bipush 26, 2) := by decide +kernel
theorem dX4_goOnFrom_29 : decode cX4_goOnFrom 29 = .ok (.if_icmp .ge 54, 3) := by decide +kernel
theorem dX4_goOnFrom_32 : decode cX4_goOnFrom 32 = .ok (.aload_n 0, 1) := by decide +kernel
theorem dX4_goOnFrom_33 : decode cX4_goOnFrom 33 = .ok (.getfield 9, 3) := by decide +kernel
theorem dX4_goOnFrom_36 : decode cX4_goOnFrom 36 = .ok (.aload_n 0, 1) := by decide +kernel
theorem dX4_goOnFrom_37 : decode cX4_goOnFrom 37 = .ok (.getfield 27, 3) := by decide +kernel
theorem dX4_goOnFrom_40 : decode cX4_goOnFrom 40 = .ok (.iload_n 3, 1) := by decide +kernel
theorem dX4_goOnFrom_41 : decode cX4_goOnFrom 41 = .ok (.iastore, 1) := by decide +kernel
theorem dX4_goOnFrom_42 : decode cX4_goOnFrom 42 = .ok (.aload_n 0, 1) := by decide +kernel
theorem dX4_goOnFrom_43 : decode cX4_goOnFrom 43 = .ok (.getfield 15, 3) := by decide +kernel
theorem dX4_goOnFrom_46 : decode cX4_goOnFrom 46 = .ok (.iload_n 3, 1) := by decide +kernel
theorem dX4_goOnFrom_47 : decode cX4_goOnFrom 47 = .ok (.aload_n 0, 1) := by decide +kernel
theorem dX4_goOnFrom_48 : decode cX4_goOnFrom 48 = .ok (.getfield 15, 3) := by decide +kernel
theorem dX4_goOnFrom_51 : decode cX4_goOnFrom 51 = .ok (.iload_n 1, 1) := by decide +kernel
theorem dX4_goOnFrom_52 : decode cX4_goOnFrom 52 = .ok (.iaload, 1) := by decide +kernel
theorem dX4_goOnFrom_53 : decode cX4_goOnFrom 53 = .ok (.iconst 1, 1) := by decide +kernel
theorem dX4_goOnFrom_54 : decode cX4_goOnFrom 54 = .ok (.iadd, 1) := by decide +kernel
theorem dX4_goOnFrom_55 : decode cX4_goOnFrom 55 = .ok (.iastore, 1) := by decide +kernel
theorem dX4_goOnFrom_56 : decode cX4_goOnFrom 56 = .ok (.aload_n 0, 1) := by decide +kernel
theorem dX4_goOnFrom_57 : decode cX4_goOnFrom 57 = .ok (.getfield 18, 3) := by decide +kernel
theorem dX4_goOnFrom_60 : decode cX4_goOnFrom 60 = .ok (.iload_n 3, 1) := by decide +kernel
theorem dX4_goOnFrom_61 : decode cX4_goOnFrom 61 = .ok (.aload_n 0, 1) := by decide +kernel
theorem dX4_goOnFrom_62 : decode cX4_goOnFrom 62 = .ok (.getfield 18, 3) := by decide +kernel
theorem dX4_goOnFrom_65 : decode cX4_goOnFrom 65 = .ok (.iload_n 1, 1) := by decide +kernel
theorem dX4_goOnFrom_66 : decode cX4_goOnFrom 66 = .ok (.iaload, 1) := by decide +kernel
theorem dX4_goOnFrom_67 : decode cX4_goOnFrom 67 = .ok (.bipush 6, 2) := by decide +kernel
theorem dX4_goOnFrom_69 : decode cX4_goOnFrom 69 = .ok (.imul, 1) := by decide +kernel
theorem dX4_goOnFrom_70 : decode cX4_goOnFrom 70 = .ok (.iload_n 2, 1) := by decide +kernel
theorem dX4_goOnFrom_71 : decode cX4_goOnFrom 71 = .ok (.iadd, 1) := by decide +kernel
theorem dX4_goOnFrom_72 : decode cX4_goOnFrom 72 = .ok (.iastore, 1) := by decide +kernel
theorem dX4_goOnFrom_73 : decode cX4_goOnFrom 73 = .ok (.aload_n 0, 1) := by decide +kernel
theorem dX4_goOnFrom_74 : decode cX4_goOnFrom 74 = .ok (.dup, 1) := by decide +kernel
theorem dX4_goOnFrom_75 : decode cX4_goOnFrom 75 = .ok (.getfield 27, 3) := by decide +kernel
theorem dX4_goOnFrom_78 : decode cX4_goOnFrom 78 = .ok (.iconst 1, 1) := by decide +kernel
theorem dX4_goOnFrom_79 : decode cX4_goOnFrom 79 = .ok (.iadd, 1) := by decide +kernel
theorem dX4_goOnFrom_80 : decode cX4_goOnFrom 80 = .ok (.putfield 27, 3) := by decide +kernel
theorem dX4_goOnFrom_83 : decode cX4_goOnFrom 83 = .ok (.iinc 2 1, 3) := by decide +kernel
theorem dX4_goOnFrom_86 : decode cX4_goOnFrom 86 = .ok (.goto (-84), 3) := by decide +kernel
theorem dX4_goOnFrom_89 : decode cX4_goOnFrom 89 = .ok (.return_, 1) := by decide +kernel
theorem dX5_init_0 : decode cX5_init 0 = .ok (.aload_n 0, 1) := by decide +kernel
theorem dX5_init_1 : decode cX5_init 1 = .ok (.invokespecial 3, 3) := by decide +kernel
theorem dX5_init_4 : decode cX5_init 4 = .ok (.aload_n 0, 1) := by decide +kernel
theorem dX5_init_5 : decode cX5_init 5 = .ok (.new 9, 3) := by decide +kernel
theorem dX5_init_8 : decode cX5_init 8 = .ok (.dup, 1) := by decide +kernel
theorem dX5_init_9 : decode cX5_init 9 = .ok (.invokespecial 11, 3) := by decide +kernel
theorem dX5_init_12 : decode cX5_init 12 = .ok (.putfield 12, 3) := by decide +kernel
theorem dX5_init_15 : decode cX5_init 15 = .ok (.aload_n 0, 1) := by decide +kernel
theorem dX5_init_16 : decode cX5_init 16 = .ok (.sipush 200, 3) := by decide +kernel
theorem dX5_init_19 : decode cX5_init 19 = .ok (.newarray .int, 2) := by decide +kernel
theorem dX5_init_21 : decode cX5_init 21 = .ok (.putfield 18, 3) := by decide +kernel
theorem dX5_init_24 : decode cX5_init 24 = .ok (.return_, 1) := by decide +kernel
theorem dX5_append_0 : decode cX5_append 0 = .ok (.aload_n 0, 1) := by decide +kernel
theorem dX5_append_1 : decode cX5_append 1 = .ok (.getfield 22, 3) := by decide +kernel
theorem dX5_append_4 : decode cX5_append 4 = .ok (.bipush 8, 2) := by decide +kernel
theorem dX5_append_6 : decode cX5_append 6 = .ok (.iadd, 1) := by decide +kernel
theorem dX5_append_7 : decode cX5_append 7 = .ok (.sipush 200, 3) := by decide +kernel
theorem dX5_append_10 : decode cX5_append 10 = .ok (.if_icmp .le 5, 3) := by decide +kernel
theorem dX5_append_13 : decode cX5_append 13 = .ok (.iconst 0, 1) := by decide +kernel
theorem dX5_append_14 : decode cX5_append 14 = .ok (.ireturn, 1) := by decide +kernel
theorem dX5_append_15 : decode cX5_append 15 = .ok (.iconst 0, 1) := by decide +kernel
theorem dX5_append_16 : decode cX5_append 16 = .ok (.istore_n 3, 1) := by decide +kernel
theorem dX5_append_17 : decode cX5_append 17 = .ok (.iload_n 3, 1) := by decide +kernel
theorem dX5_append_18 : decode cX5_append 18 = .ok (.bipush 8, 2) := by decide +kernel
theorem dX5_append_20 : decode cX5_append 20 = .ok (.if_icmp .ge 34, 3) := by decide +kernel
theorem dX5_append_23 : decode cX5_append 23 = .ok (.aload_n 0, 1) := by decide +kernel
theorem dX5_append_24 : decode cX5_append 24 = .ok (.getfield 18, 3) := by decide +kernel
theorem dX5_append_27 : decode cX5_append 27 = .ok (.aload_n 0, 1) := by decide +kernel
theorem dX5_append_28 : decode cX5_append 28 = .ok (.getfield 22, 3) := by decide +kernel
theorem dX5_append_31 : decode cX5_append 31 = .ok (.iload_n 3, 1) := by decide +kernel
theorem dX5_append_32 : decode cX5_append 32 = .ok (.iadd, 1) := by decide +kernel
theorem dX5_append_33 : decode cX5_append 33 = .ok (.lload_n 1, 1) := by decide +kernel
theorem dX5_append_34 : decode cX5_append 34 = .ok (.bipush 56, 2) := by decide +kernel
theorem dX5_append_36 : decode cX5_append 36 = .ok (.bipush 8, 2) := by decide +kernel
theorem dX5_append_38 : decode cX5_append 38 = .ok (.iload_n 3, 1) := by decide +kernel
theorem dX5_append_39 : decode cX5_append 39 = .ok (.imul, 1) := by decide +kernel
theorem dX5_append_40 : decode cX5_append 40 = .ok (.isub, 1) := by decide +kernel
theorem dX5_append_41 : decode cX5_append 41 = .ok (.lushr, 1) := by decide +kernel
theorem dX5_append_42 : decode cX5_append 42 = .ok (.l2i, 1) := by decide +kernel
theorem dX5_append_43 : decode cX5_append 43 = .ok (.sipush 255, 3) := by decide +kernel
theorem dX5_append_46 : decode cX5_append 46 = .ok (.iand, 1) := by decide +kernel
theorem dX5_append_47 : decode cX5_append 47 = .ok (.iastore, 1) := by decide +kernel
theorem dX5_append_48 : decode cX5_append 48 = .ok (.iinc 3 1, 3) := by decide +kernel
theorem dX5_append_51 : decode cX5_append 51 = .ok (.goto (-34), 3) := by decide +kernel
theorem dX5_append_54 : decode cX5_append 54 = .ok (.aload_n 0, 1) := by decide +kernel
theorem dX5_append_55 : decode cX5_append 55 = .ok (.dup, 1) := by decide +kernel
theorem dX5_append_56 : decode cX5_append 56 = .ok (.getfield 22, 3) := by decide +kernel
theorem dX5_append_59 : decode cX5_append 59 = .ok (.bipush 8, 2) := by decide +kernel
theorem dX5_append_61 : decode cX5_append 61 = .ok (.iadd, 1) := by decide +kernel
theorem dX5_append_62 : decode cX5_append 62 = .ok (.putfield 22, 3) := by decide +kernel
theorem dX5_append_65 : decode cX5_append 65 = .ok (.iconst 1, 1) := by decide +kernel
theorem dX5_append_66 : decode cX5_append 66 = .ok (.ireturn, 1) := by decide +kernel
theorem dX5_readLines_0 : decode cX5_readLines 0 = .ok (.aload_n 0, 1) := by decide +kernel
theorem dX5_readLines_1 : decode cX5_readLines 1 = .ok (.getfield 12, 3) := by decide +kernel
theorem dX5_readLines_4 : decode cX5_readLines 4 = .ok (.invokevirtual 26, 3) := by decide +kernel
theorem dX5_readLines_7 : decode cX5_readLines 7 = .ok (.aload_n 0, 1) := by decide +kernel
theorem dX5_readLines_8 : decode cX5_readLines 8 = .ok (.iconst 0, 1) := by decide +kernel
theorem dX5_readLines_9 : decode cX5_readLines 9 = .ok (.putfield 29, 3) := by decide +kernel
theorem dX5_readLines_12 : decode cX5_readLines 12 = .ok (.aload_n 0, 1) := by decide +kernel
theorem dX5_readLines_13 : decode cX5_readLines 13 = .ok (.iconst 0, 1) := by decide +kernel
theorem dX5_readLines_14 : decode cX5_readLines 14 = .ok (.putfield 32, 3) := by decide +kernel
theorem dX5_readLines_17 : decode cX5_readLines 17 = .ok (.aload_n 0, 1) := by decide +kernel
theorem dX5_readLines_18 : decode cX5_readLines 18 = .ok (.iconst 0, 1) := by decide +kernel
theorem dX5_readLines_19 : decode cX5_readLines 19 = .ok (.putfield 35, 3) := by decide +kernel
theorem dX5_readLines_22 : decode cX5_readLines 22 = .ok (.aload_n 0, 1) := by decide +kernel
theorem dX5_readLines_23 : decode cX5_readLines 23 = .ok (.iconst 0, 1) := by decide +kernel
theorem dX5_readLines_24 : decode cX5_readLines 24 = .ok (.putfield 38, 3) := by decide +kernel
theorem dX5_readLines_27 : decode cX5_readLines 27 = .ok (.aload_n 0, 1) := by decide +kernel
theorem dX5_readLines_28 : decode cX5_readLines 28 = .ok (.iconst 0, 1) := by decide +kernel
theorem dX5_readLines_29 : decode cX5_readLines 29 = .ok (.putfield 41, 3) := by decide +kernel
theorem dX5_readLines_32 : decode cX5_readLines 32 = .ok (.aload_n 0, 1) := by decide +kernel
theorem dX5_readLines_33 : decode cX5_readLines 33 = .ok (.iconst 0, 1) := by decide +kernel
theorem dX5_readLines_34 : decode cX5_readLines 34 = .ok (.putfield 44, 3) := by decide +kernel
theorem dX5_readLines_37 : decode cX5_readLines 37 = .ok (.aload_n 0, 1) := by decide +kernel
theorem dX5_readLines_38 : decode cX5_readLines 38 = .ok (.iconst 0, 1) := by decide +kernel
theorem dX5_readLines_39 : decode cX5_readLines 39 = .ok (.putfield 47, 3) := by decide +kernel
theorem dX5_readLines_42 : decode cX5_readLines 42 = .ok (.iconst 0, 1) := by decide +kernel
theorem dX5_readLines_43 : decode cX5_readLines 43 = .ok (.istore_n 1, 1) := by decide +kernel
theorem dX5_readLines_44 : decode cX5_readLines 44 = .ok (.iload_n 1, 1) := by decide +kernel
theorem dX5_readLines_45 : decode cX5_readLines 45 = .ok (.sipush 200, 3) := by decide +kernel
theorem dX5_readLines_48 : decode cX5_readLines 48 = .ok (.if_icmp .gt 39, 3) := by decide +kernel
theorem dX5_readLines_51 : decode cX5_readLines 51 = .ok (.aload_n 0, 1) := by decide +kernel
theorem dX5_readLines_52 : decode cX5_readLines 52 = .ok (.getfield 29, 3) := by decide +kernel
theorem dX5_readLines_55 : decode cX5_readLines 55 = .ok (.ifCond .ne 32, 3) := by decide +kernel
theorem dX5_readLines_58 : decode cX5_readLines 58 = .ok (.aload_n 0, 1) := by decide +kernel
theorem dX5_readLines_59 : decode cX5_readLines 59 = .ok (.getfield 47, 3) := by decide +kernel
theorem dX5_readLines_62 : decode cX5_readLines 62 = .ok (.iconst 5, 1) := by decide +kernel
theorem dX5_readLines_63 : decode cX5_readLines 63 = .ok (.if_icmp .eq 24, 3) := by decide +kernel
theorem dX5_readLines_66 : decode cX5_readLines 66 = .ok (.aload_n 0, 1) := by decide +kernel
theorem dX5_readLines_67 : decode cX5_readLines 67 = .ok (.invokevirtual 50, 3) := by decide +kernel
theorem dX5_readLines_70 : decode cX5_readLines 70 = .ok (.aload_n 0, 1) := by decide +kernel
theorem dX5_readLines_71 : decode cX5_readLines 71 = .ok (.getfield 29, 3) := by decide +kernel
theorem dX5_readLines_74 : decode cX5_readLines 74 = .ok (.ifCond .ne 7, 3) := by decide +kernel
theorem dX5_readLines_77 : decode cX5_readLines 77 = .ok (.aload_n 0, 1) := by decide +kernel
theorem dX5_readLines_78 : decode cX5_readLines 78 = .ok (.invokevirtual 53, 3) := by decide +kernel
theorem dX5_readLines_81 : decode cX5_readLines 81 = .ok (.iinc 1 1, 3) := by decide +kernel
theorem dX5_readLines_84 : decode cX5_readLines 84 = .ok (.goto (-40), 3) := by decide +kernel
theorem dX5_readLines_87 : decode cX5_readLines 87 = .ok (.aload_n 0, 1) := by decide +kernel
theorem dX5_readLines_88 : decode cX5_readLines 88 = .ok (.getfield 44, 3) := by decide +kernel
theorem dX5_readLines_91 : decode cX5_readLines 91 = .ok (.ireturn, 1) := by decide +kernel
theorem dX5_useToken_0 : decode cX5_useToken 0 = .ok (.aload_n 0, 1) := by decide +kernel
theorem dX5_useToken_1 : decode cX5_useToken 1 = .ok (.getfield 47, 3) := by decide +kernel
theorem dX5_useToken_4 : decode cX5_useToken 4 = .ok (.tableswitch 60 0 3 #[32, 39, 46, 53], 32) := by decide +kernel
theorem dX5_useToken_36 : decode cX5_useToken 36 = .ok (.aload_n 0, 1) := by decide +kernel
theorem dX5_useToken_37 : decode cX5_useToken 37 = .ok (.invokevirtual 56, 3) := by decide +kernel
theorem dX5_useToken_40 : decode cX5_useToken 40 = .ok (.goto 28, 3) := by decide +kernel
theorem dX5_useToken_43 : decode cX5_useToken 43 = .ok (.aload_n 0, 1) := by decide +kernel
theorem dX5_useToken_44 : decode cX5_useToken 44 = .ok (.invokevirtual 59, 3) := by decide +kernel
theorem dX5_useToken_47 : decode cX5_useToken 47 = .ok (.goto 21, 3) := by decide +kernel
theorem dX5_useToken_50 : decode cX5_useToken 50 = .ok (.aload_n 0, 1) := by decide +kernel
theorem dX5_useToken_51 : decode cX5_useToken 51 = .ok (.invokevirtual 62, 3) := by decide +kernel
theorem dX5_useToken_54 : decode cX5_useToken 54 = .ok (.goto 14, 3) := by decide +kernel
theorem dX5_useToken_57 : decode cX5_useToken 57 = .ok (.aload_n 0, 1) := by decide +kernel
theorem dX5_useToken_58 : decode cX5_useToken 58 = .ok (.invokevirtual 65, 3) := by decide +kernel
theorem dX5_useToken_61 : decode cX5_useToken 61 = .ok (.goto 7, 3) := by decide +kernel
theorem dX5_useToken_64 : decode cX5_useToken 64 = .ok (.aload_n 0, 1) := by decide +kernel
theorem dX5_useToken_65 : decode cX5_useToken 65 = .ok (.invokevirtual 68, 3) := by decide +kernel
theorem dX5_useToken_68 : decode cX5_useToken 68 = .ok (.return_, 1) := by decide +kernel
theorem dX5_beginLine_0 : decode cX5_beginLine 0 = .ok (.aload_n 0, 1) := by decide +kernel
theorem dX5_beginLine_1 : decode cX5_beginLine 1 = .ok (.getfield 71, 3) := by decide +kernel
theorem dX5_beginLine_4 : decode cX5_beginLine 4 = .ok (.ifCond .ne 9, 3) := by decide +kernel
theorem dX5_beginLine_7 : decode cX5_beginLine 7 = .ok (.aload_n 0, 1) := by decide +kernel
theorem dX5_beginLine_8 : decode cX5_beginLine 8 = .ok (.iconst 5, 1) := by decide +kernel
theorem dX5_beginLine_9 : decode cX5_beginLine 9 = .ok (.putfield 47, 3) := by decide +kernel
theorem dX5_beginLine_12 : decode cX5_beginLine 12 = .ok (.return_, 1) := by decide +kernel
theorem dX5_beginLine_13 : decode cX5_beginLine 13 = .ok (.aload_n 0, 1) := by decide +kernel
theorem dX5_beginLine_14 : decode cX5_beginLine 14 = .ok (.getfield 71, 3) := by decide +kernel
theorem dX5_beginLine_17 : decode cX5_beginLine 17 = .ok (.iconst 1, 1) := by decide +kernel
theorem dX5_beginLine_18 : decode cX5_beginLine 18 = .ok (.if_icmp .ne 12, 3) := by decide +kernel
theorem dX5_beginLine_21 : decode cX5_beginLine 21 = .ok (.aload_n 0, 1) := by decide +kernel
theorem dX5_beginLine_22 : decode cX5_beginLine 22 = .ok (.getfield 74, 3) := by decide +kernel
theorem dX5_beginLine_25 : decode cX5_beginLine 25 = .ok (.bipush 12, 2) := by decide +kernel
theorem dX5_beginLine_27 : decode cX5_beginLine 27 = .ok (.if_icmp .le 9, 3) := by decide +kernel
theorem dX5_beginLine_30 : decode cX5_beginLine 30 = .ok (.aload_n 0, 1) := by decide +kernel
theorem dX5_beginLine_31 : decode cX5_beginLine 31 = .ok (.iconst 2, 1) := by decide +kernel
theorem dX5_beginLine_32 : decode cX5_beginLine 32 = .ok (.invokevirtual 77, 3) := by decide +kernel
theorem dX5_beginLine_35 : decode cX5_beginLine 35 = .ok (.return_, 1) := by decide +kernel
theorem dX5_beginLine_36 : decode cX5_beginLine 36 = .ok (.aload_n 0, 1) := by decide +kernel
theorem dX5_beginLine_37 : decode cX5_beginLine 37 = .ok (.aload_n 0, 1) := by decide +kernel
theorem dX5_beginLine_38 : decode cX5_beginLine 38 = .ok (.getfield 74, 3) := by decide +kernel
theorem dX5_beginLine_41 : decode cX5_beginLine 41 = .ok (.putfield 81, 3) := by decide +kernel
theorem dX5_beginLine_44 : decode cX5_beginLine 44 = .ok (.aload_n 0, 1) := by decide +kernel
theorem dX5_beginLine_45 : decode cX5_beginLine 45 = .ok (.getfield 81, 3) := by decide +kernel
theorem dX5_beginLine_48 : decode cX5_beginLine 48 = .ok (.bipush 11, 2) := by decide +kernel
theorem dX5_beginLine_50 : decode cX5_beginLine 50 = .ok (.if_icmp .eq 12, 3) := by decide +kernel
theorem dX5_beginLine_53 : decode cX5_beginLine 53 = .ok (.aload_n 0, 1) := by decide +kernel
theorem dX5_beginLine_54 : decode cX5_beginLine 54 = .ok (.getfield 81, 3) := by decide +kernel
theorem dX5_beginLine_57 : decode cX5_beginLine 57 = .ok (.bipush 12, 2) := by decide +kernel
theorem dX5_beginLine_59 : decode cX5_beginLine 59 = .ok (.if_icmp .ne 7, 3) := by decide +kernel
theorem dX5_beginLine_62 : decode cX5_beginLine 62 = .ok (.iconst 1, 1) := by decide +kernel
theorem dX5_beginLine_63 : decode cX5_beginLine 63 = .ok (.goto 4, 3) := by decide +kernel
theorem dX5_beginLine_66 : decode cX5_beginLine 66 = .ok (.iconst 0, 1) := by decide +kernel
theorem dX5_beginLine_67 : decode cX5_beginLine 67 = .ok (.istore_n 1, 1) := by decide +kernel
theorem dX5_beginLine_68 : decode cX5_beginLine 68 = .ok (.iload_n 1, 1) := by decide +kernel
theorem dX5_beginLine_69 : decode cX5_beginLine 69 = .ok (.ifCond .ne 24, 3) := by decide +kernel
theorem dX5_beginLine_72 : decode cX5_beginLine 72 = .ok (.aload_n 0, 1) := by decide +kernel
theorem dX5_beginLine_73 : decode cX5_beginLine 73 = .ok (.getfield 38, 3) := by decide +kernel
theorem dX5_beginLine_76 : decode cX5_beginLine 76 = .ok (.aload_n 0, 1) := by decide +kernel
theorem dX5_beginLine_77 : decode cX5_beginLine 77 = .ok (.getfield 81, 3) := by decide +kernel
theorem dX5_beginLine_80 : decode cX5_beginLine 80 = .ok (.invokestatic 84, 3) := by decide +kernel
theorem dX5_beginLine_83 : decode cX5_beginLine 83 = .ok (.iconst 1, 1) := by decide +kernel
theorem dX5_beginLine_84 : decode cX5_beginLine 84 = .ok (.if_icmp .ne 9, 3) := by decide +kernel
theorem dX5_beginLine_87 : decode cX5_beginLine 87 = .ok (.aload_n 0, 1) := by decide +kernel
theorem dX5_beginLine_88 : decode cX5_beginLine 88 = .ok (.iconst 4, 1) := by decide +kernel
theorem dX5_beginLine_89 : decode cX5_beginLine 89 = .ok (.invokevirtual 77, 3) := by decide +kernel
theorem dX5_beginLine_92 : decode cX5_beginLine 92 = .ok (.return_, 1) := by decide +kernel
theorem dX5_beginLine_93 : decode cX5_beginLine 93 = .ok (.aload_n 0, 1) := by decide +kernel
theorem dX5_beginLine_94 : decode cX5_beginLine 94 = .ok (.dup, 1) := by decide +kernel
theorem dX5_beginLine_95 : decode cX5_beginLine 95 = .ok (.getfield 38, 3) := by decide +kernel
theorem dX5_beginLine_98 : decode cX5_beginLine 98 = .ok (.iconst 1, 1) := by decide +kernel
theorem dX5_beginLine_99 : decode cX5_beginLine 99 = .ok (.aload_n 0, 1) := by decide +kernel
theorem dX5_beginLine_100 : decode cX5_beginLine 100 = .ok (.getfield 81, 3) := by decide +kernel
theorem dX5_beginLine_103 : decode cX5_beginLine 103 = .ok (.ishl, 1) := by decide +kernel
theorem dX5_beginLine_104 : decode cX5_beginLine 104 = .ok (.ior, 1) := by decide +kernel
theorem dX5_beginLine_105 : decode cX5_beginLine 105 = .ok (.putfield 38, 3) := by decide +kernel
theorem dX5_beginLine_108 : decode cX5_beginLine 108 = .ok (.aload_n 0, 1) := by decide +kernel
theorem dX5_beginLine_109 : decode cX5_beginLine 109 = .ok (.iload_n 1, 1) := by decide +kernel
theorem dX5_beginLine_110 : decode cX5_beginLine 110 = .ok (.ifCond .eq 7, 3) := by decide +kernel
theorem dX5_beginLine_113 : decode cX5_beginLine 113 = .ok (.iconst 2, 1) := by decide +kernel
theorem dX5_beginLine_114 : decode cX5_beginLine 114 = .ok (.goto 4, 3) := by decide +kernel
theorem dX5_beginLine_117 : decode cX5_beginLine 117 = .ok (.iconst 3, 1) := by decide +kernel
theorem dX5_beginLine_118 : decode cX5_beginLine 118 = .ok (.putfield 47, 3) := by decide +kernel
theorem dX5_beginLine_121 : decode cX5_beginLine 121 = .ok (.aload_n 0, 1) := by decide +kernel
theorem dX5_beginLine_122 : decode cX5_beginLine 122 = .ok (.getfield 81, 3) := by decide +kernel
theorem dX5_beginLine_125 : decode cX5_beginLine 125 = .ok (.ifCond .ne 11, 3) := by decide +kernel
theorem dX5_beginLine_128 : decode cX5_beginLine 128 = .ok (.aload_n 0, 1) := by decide +kernel
theorem dX5_beginLine_129 : decode cX5_beginLine 129 = .ok (.iconst 1, 1) := by decide +kernel
theorem dX5_beginLine_130 : decode cX5_beginLine 130 = .ok (.putfield 47, 3) := by decide +kernel
theorem dX5_beginLine_133 : decode cX5_beginLine 133 = .ok (.goto 26, 3) := by decide +kernel
theorem dX5_beginLine_136 : decode cX5_beginLine 136 = .ok (.aload_n 0, 1) := by decide +kernel
theorem dX5_beginLine_137 : decode cX5_beginLine 137 = .ok (.getfield 81, 3) := by decide +kernel
theorem dX5_beginLine_140 : decode cX5_beginLine 140 = .ok (.iconst 5, 1) := by decide +kernel
theorem dX5_beginLine_141 : decode cX5_beginLine 141 = .ok (.if_icmp .ne 18, 3) := by decide +kernel
theorem dX5_beginLine_144 : decode cX5_beginLine 144 = .ok (.aload_n 0, 1) := by decide +kernel
theorem dX5_beginLine_145 : decode cX5_beginLine 145 = .ok (.getfield 12, 3) := by decide +kernel
theorem dX5_beginLine_148 : decode cX5_beginLine 148 = .ok (.getfield 88, 3) := by decide +kernel
theorem dX5_beginLine_151 : decode cX5_beginLine 151 = .ok (.iconst 5, 1) := by decide +kernel
theorem dX5_beginLine_152 : decode cX5_beginLine 152 = .ok (.iconst 1, 1) := by decide +kernel
theorem dX5_beginLine_153 : decode cX5_beginLine 153 = .ok (.iastore, 1) := by decide +kernel
theorem dX5_beginLine_154 : decode cX5_beginLine 154 = .ok (.aload_n 0, 1) := by decide +kernel
theorem dX5_beginLine_155 : decode cX5_beginLine 155 = .ok (.iconst 4, 1) := by decide +kernel
theorem dX5_beginLine_156 : decode cX5_beginLine 156 = .ok (.putfield 47, 3) := by decide +kernel
theorem dX5_beginLine_159 : decode cX5_beginLine 159 = .ok (.return_, 1) := by decide +kernel
theorem dX5_tellWay_0 : decode cX5_tellWay 0 = .ok (.aload_n 0, 1) := by decide +kernel
theorem dX5_tellWay_1 : decode cX5_tellWay 1 = .ok (.getfield 71, 3) := by decide +kernel
theorem dX5_tellWay_4 : decode cX5_tellWay 4 = .ok (.iconst 1, 1) := by decide +kernel
theorem dX5_tellWay_5 : decode cX5_tellWay 5 = .ok (.if_icmp .ne 12, 3) := by decide +kernel
theorem dX5_tellWay_8 : decode cX5_tellWay 8 = .ok (.aload_n 0, 1) := by decide +kernel
theorem dX5_tellWay_9 : decode cX5_tellWay 9 = .ok (.getfield 74, 3) := by decide +kernel
theorem dX5_tellWay_12 : decode cX5_tellWay 12 = .ok (.bipush 13, 2) := by decide +kernel
theorem dX5_tellWay_14 : decode cX5_tellWay 14 = .ok (.if_icmp .ge 9, 3) := by decide +kernel
theorem dX5_tellWay_17 : decode cX5_tellWay 17 = .ok (.aload_n 0, 1) := by decide +kernel
theorem dX5_tellWay_18 : decode cX5_tellWay 18 = .ok (.iconst 2, 1) := by decide +kernel
theorem dX5_tellWay_19 : decode cX5_tellWay 19 = .ok (.invokevirtual 77, 3) := by decide +kernel
theorem dX5_tellWay_22 : decode cX5_tellWay 22 = .ok (.return_, 1) := by decide +kernel
theorem dX5_tellWay_23 : decode cX5_tellWay 23 = .ok (.aload_n 0, 1) := by decide +kernel
theorem dX5_tellWay_24 : decode cX5_tellWay 24 = .ok (.getfield 12, 3) := by decide +kernel
theorem dX5_tellWay_27 : decode cX5_tellWay 27 = .ok (.getfield 88, 3) := by decide +kernel
theorem dX5_tellWay_30 : decode cX5_tellWay 30 = .ok (.iconst 0, 1) := by decide +kernel
theorem dX5_tellWay_31 : decode cX5_tellWay 31 = .ok (.aload_n 0, 1) := by decide +kernel
theorem dX5_tellWay_32 : decode cX5_tellWay 32 = .ok (.getfield 74, 3) := by decide +kernel
theorem dX5_tellWay_35 : decode cX5_tellWay 35 = .ok (.bipush 13, 2) := by decide +kernel
theorem dX5_tellWay_37 : decode cX5_tellWay 37 = .ok (.isub, 1) := by decide +kernel
theorem dX5_tellWay_38 : decode cX5_tellWay 38 = .ok (.iastore, 1) := by decide +kernel
theorem dX5_tellWay_39 : decode cX5_tellWay 39 = .ok (.aload_n 0, 1) := by decide +kernel
theorem dX5_tellWay_40 : decode cX5_tellWay 40 = .ok (.iconst 4, 1) := by decide +kernel
theorem dX5_tellWay_41 : decode cX5_tellWay 41 = .ok (.putfield 47, 3) := by decide +kernel
theorem dX5_tellWay_44 : decode cX5_tellWay 44 = .ok (.return_, 1) := by decide +kernel
theorem dX5_tellPoint_0 : decode cX5_tellPoint 0 = .ok (.aload_n 0, 1) := by decide +kernel
theorem dX5_tellPoint_1 : decode cX5_tellPoint 1 = .ok (.iconst 0, 1) := by decide +kernel
theorem dX5_tellPoint_2 : decode cX5_tellPoint 2 = .ok (.bipush 15, 2) := by decide +kernel
theorem dX5_tellPoint_4 : decode cX5_tellPoint 4 = .ok (.invokevirtual 91, 3) := by decide +kernel
theorem dX5_tellPoint_7 : decode cX5_tellPoint 7 = .ok (.ifCond .ne 4, 3) := by decide +kernel
theorem dX5_tellPoint_10 : decode cX5_tellPoint 10 = .ok (.return_, 1) := by decide +kernel
theorem dX5_tellPoint_11 : decode cX5_tellPoint 11 = .ok (.aload_n 0, 1) := by decide +kernel
theorem dX5_tellPoint_12 : decode cX5_tellPoint 12 = .ok (.getfield 81, 3) := by decide +kernel
theorem dX5_tellPoint_15 : decode cX5_tellPoint 15 = .ok (.bipush 11, 2) := by decide +kernel
theorem dX5_tellPoint_17 : decode cX5_tellPoint 17 = .ok (.if_icmp .ne 16, 3) := by decide +kernel
theorem dX5_tellPoint_20 : decode cX5_tellPoint 20 = .ok (.aload_n 0, 1) := by decide +kernel
theorem dX5_tellPoint_21 : decode cX5_tellPoint 21 = .ok (.getfield 12, 3) := by decide +kernel
theorem dX5_tellPoint_24 : decode cX5_tellPoint 24 = .ok (.getfield 88, 3) := by decide +kernel
theorem dX5_tellPoint_27 : decode cX5_tellPoint 27 = .ok (.bipush 11, 2) := by decide +kernel
theorem dX5_tellPoint_29 : decode cX5_tellPoint 29 = .ok (.iaload, 1) := by decide +kernel
theorem dX5_tellPoint_30 : decode cX5_tellPoint 30 = .ok (.goto 7, 3) := by decide +kernel
theorem dX5_tellPoint_33 : decode cX5_tellPoint 33 = .ok (.aload_n 0, 1) := by decide +kernel
theorem dX5_tellPoint_34 : decode cX5_tellPoint 34 = .ok (.getfield 41, 3) := by decide +kernel
theorem dX5_tellPoint_37 : decode cX5_tellPoint 37 = .ok (.istore_n 1, 1) := by decide +kernel
theorem dX5_tellPoint_38 : decode cX5_tellPoint 38 = .ok (.iload_n 1, 1) := by decide +kernel
theorem dX5_tellPoint_39 : decode cX5_tellPoint 39 = .ok (.aload_n 0, 1) := by decide +kernel
theorem dX5_tellPoint_40 : decode cX5_tellPoint 40 = .ok (.getfield 74, 3) := by decide +kernel
theorem dX5_tellPoint_43 : decode cX5_tellPoint 43 = .ok (.invokestatic 84, 3) := by decide +kernel
theorem dX5_tellPoint_46 : decode cX5_tellPoint 46 = .ok (.iconst 1, 1) := by decide +kernel
theorem dX5_tellPoint_47 : decode cX5_tellPoint 47 = .ok (.if_icmp .ne 9, 3) := by decide +kernel
theorem dX5_tellPoint_50 : decode cX5_tellPoint 50 = .ok (.aload_n 0, 1) := by decide +kernel
theorem dX5_tellPoint_51 : decode cX5_tellPoint 51 = .ok (.iconst 4, 1) := by decide +kernel
theorem dX5_tellPoint_52 : decode cX5_tellPoint 52 = .ok (.invokevirtual 77, 3) := by decide +kernel
theorem dX5_tellPoint_55 : decode cX5_tellPoint 55 = .ok (.return_, 1) := by decide +kernel
theorem dX5_tellPoint_56 : decode cX5_tellPoint 56 = .ok (.aload_n 0, 1) := by decide +kernel
theorem dX5_tellPoint_57 : decode cX5_tellPoint 57 = .ok (.getfield 81, 3) := by decide +kernel
theorem dX5_tellPoint_60 : decode cX5_tellPoint 60 = .ok (.bipush 11, 2) := by decide +kernel
theorem dX5_tellPoint_62 : decode cX5_tellPoint 62 = .ok (.if_icmp .ne 29, 3) := by decide +kernel
theorem dX5_tellPoint_65 : decode cX5_tellPoint 65 = .ok (.aload_n 0, 1) := by decide +kernel
theorem dX5_tellPoint_66 : decode cX5_tellPoint 66 = .ok (.getfield 12, 3) := by decide +kernel
theorem dX5_tellPoint_69 : decode cX5_tellPoint 69 = .ok (.getfield 88, 3) := by decide +kernel
theorem dX5_tellPoint_72 : decode cX5_tellPoint 72 = .ok (.bipush 11, 2) := by decide +kernel
theorem dX5_tellPoint_74 : decode cX5_tellPoint 74 = .ok (.iload_n 1, 1) := by decide +kernel
theorem dX5_tellPoint_75 : decode cX5_tellPoint 75 = .ok (.iconst 1, 1) := by decide +kernel
theorem dX5_tellPoint_76 : decode cX5_tellPoint 76 = .ok (.aload_n 0, 1) := by decide +kernel
theorem dX5_tellPoint_77 : decode cX5_tellPoint 77 = .ok (.getfield 74, 3) := by decide +kernel
theorem dX5_tellPoint_80 : decode cX5_tellPoint 80 = .ok (.ishl, 1) := by decide +kernel
theorem dX5_tellPoint_81 : decode cX5_tellPoint 81 = .ok (.ior, 1) := by decide +kernel
theorem dX5_tellPoint_82 : decode cX5_tellPoint 82 = .ok (.iastore, 1) := by decide +kernel
theorem dX5_tellPoint_83 : decode cX5_tellPoint 83 = .ok (.aload_n 0, 1) := by decide +kernel
theorem dX5_tellPoint_84 : decode cX5_tellPoint 84 = .ok (.iconst 4, 1) := by decide +kernel
theorem dX5_tellPoint_85 : decode cX5_tellPoint 85 = .ok (.putfield 47, 3) := by decide +kernel
theorem dX5_tellPoint_88 : decode cX5_tellPoint 88 = .ok (.goto 28, 3) := by decide +kernel
theorem dX5_tellPoint_91 : decode cX5_tellPoint 91 = .ok (.aload_n 0, 1) := by decide +kernel
theorem dX5_tellPoint_92 : decode cX5_tellPoint 92 = .ok (.iload_n 1, 1) := by decide +kernel
theorem dX5_tellPoint_93 : decode cX5_tellPoint 93 = .ok (.iconst 1, 1) := by decide +kernel
theorem dX5_tellPoint_94 : decode cX5_tellPoint 94 = .ok (.aload_n 0, 1) := by decide +kernel
theorem dX5_tellPoint_95 : decode cX5_tellPoint 95 = .ok (.getfield 74, 3) := by decide +kernel
theorem dX5_tellPoint_98 : decode cX5_tellPoint 98 = .ok (.ishl, 1) := by decide +kernel
theorem dX5_tellPoint_99 : decode cX5_tellPoint 99 = .ok (.ior, 1) := by decide +kernel
theorem dX5_tellPoint_100 : decode cX5_tellPoint 100 = .ok (.putfield 41, 3) := by decide +kernel
theorem dX5_tellPoint_103 : decode cX5_tellPoint 103 = .ok (.aload_n 0, 1) := by decide +kernel
theorem dX5_tellPoint_104 : decode cX5_tellPoint 104 = .ok (.aload_n 0, 1) := by decide +kernel
theorem dX5_tellPoint_105 : decode cX5_tellPoint 105 = .ok (.getfield 74, 3) := by decide +kernel
theorem dX5_tellPoint_108 : decode cX5_tellPoint 108 = .ok (.putfield 95, 3) := by decide +kernel
theorem dX5_tellPoint_111 : decode cX5_tellPoint 111 = .ok (.aload_n 0, 1) := by decide +kernel
theorem dX5_tellPoint_112 : decode cX5_tellPoint 112 = .ok (.iconst 3, 1) := by decide +kernel
theorem dX5_tellPoint_113 : decode cX5_tellPoint 113 = .ok (.putfield 47, 3) := by decide +kernel
theorem dX5_tellPoint_116 : decode cX5_tellPoint 116 = .ok (.return_, 1) := by decide +kernel
theorem dX5_tellNumber_0 : decode cX5_tellNumber 0 = .ok (.aload_n 0, 1) := by decide +kernel
theorem dX5_tellNumber_1 : decode cX5_tellNumber 1 = .ok (.getstatic 98, 3) := by decide +kernel
theorem dX5_tellNumber_4 : decode cX5_tellNumber 4 = .ok (.aload_n 0, 1) := by decide +kernel
theorem dX5_tellNumber_5 : decode cX5_tellNumber 5 = .ok (.getfield 81, 3) := by decide +kernel
theorem dX5_tellNumber_8 : decode cX5_tellNumber 8 = .ok (.iaload, 1) := by decide +kernel
theorem dX5_tellNumber_9 : decode cX5_tellNumber 9 = .ok (.getstatic 101, 3) := by decide +kernel
theorem dX5_tellNumber_12 : decode cX5_tellNumber 12 = .ok (.aload_n 0, 1) := by decide +kernel
theorem dX5_tellNumber_13 : decode cX5_tellNumber 13 = .ok (.getfield 81, 3) := by decide +kernel
theorem dX5_tellNumber_16 : decode cX5_tellNumber 16 = .ok (.iaload, 1) := by decide +kernel
theorem dX5_tellNumber_17 : decode cX5_tellNumber 17 = .ok (.invokevirtual 91, 3) := by decide +kernel
theorem dX5_tellNumber_20 : decode cX5_tellNumber 20 = .ok (.ifCond .ne 4, 3) := by decide +kernel
theorem dX5_tellNumber_23 : decode cX5_tellNumber 23 = .ok (.return_, 1) := by decide +kernel
theorem dX5_tellNumber_24 : decode cX5_tellNumber 24 = .ok (.aload_n 0, 1) := by decide +kernel
theorem dX5_tellNumber_25 : decode cX5_tellNumber 25 = .ok (.getfield 81, 3) := by decide +kernel
theorem dX5_tellNumber_28 : decode cX5_tellNumber 28 = .ok (.bipush 12, 2) := by decide +kernel
theorem dX5_tellNumber_30 : decode cX5_tellNumber 30 = .ok (.if_icmp .ne 22, 3) := by decide +kernel
theorem dX5_tellNumber_33 : decode cX5_tellNumber 33 = .ok (.aload_n 0, 1) := by decide +kernel
theorem dX5_tellNumber_34 : decode cX5_tellNumber 34 = .ok (.getfield 12, 3) := by decide +kernel
theorem dX5_tellNumber_37 : decode cX5_tellNumber 37 = .ok (.getfield 104, 3) := by decide +kernel
theorem dX5_tellNumber_40 : decode cX5_tellNumber 40 = .ok (.aload_n 0, 1) := by decide +kernel
theorem dX5_tellNumber_41 : decode cX5_tellNumber 41 = .ok (.getfield 95, 3) := by decide +kernel
theorem dX5_tellNumber_44 : decode cX5_tellNumber 44 = .ok (.aload_n 0, 1) := by decide +kernel
theorem dX5_tellNumber_45 : decode cX5_tellNumber 45 = .ok (.getfield 74, 3) := by decide +kernel
theorem dX5_tellNumber_48 : decode cX5_tellNumber 48 = .ok (.iastore, 1) := by decide +kernel
theorem dX5_tellNumber_49 : decode cX5_tellNumber 49 = .ok (.goto 19, 3) := by decide +kernel
theorem dX5_tellNumber_52 : decode cX5_tellNumber 52 = .ok (.aload_n 0, 1) := by decide +kernel
theorem dX5_tellNumber_53 : decode cX5_tellNumber 53 = .ok (.getfield 12, 3) := by decide +kernel
theorem dX5_tellNumber_56 : decode cX5_tellNumber 56 = .ok (.getfield 88, 3) := by decide +kernel
theorem dX5_tellNumber_59 : decode cX5_tellNumber 59 = .ok (.aload_n 0, 1) := by decide +kernel
theorem dX5_tellNumber_60 : decode cX5_tellNumber 60 = .ok (.getfield 81, 3) := by decide +kernel
theorem dX5_tellNumber_63 : decode cX5_tellNumber 63 = .ok (.aload_n 0, 1) := by decide +kernel
theorem dX5_tellNumber_64 : decode cX5_tellNumber 64 = .ok (.getfield 74, 3) := by decide +kernel
theorem dX5_tellNumber_67 : decode cX5_tellNumber 67 = .ok (.iastore, 1) := by decide +kernel
theorem dX5_tellNumber_68 : decode cX5_tellNumber 68 = .ok (.aload_n 0, 1) := by decide +kernel
theorem dX5_tellNumber_69 : decode cX5_tellNumber 69 = .ok (.iconst 4, 1) := by decide +kernel
theorem dX5_tellNumber_70 : decode cX5_tellNumber 70 = .ok (.putfield 47, 3) := by decide +kernel
theorem dX5_tellNumber_73 : decode cX5_tellNumber 73 = .ok (.return_, 1) := by decide +kernel
theorem dX5_endLine_0 : decode cX5_endLine 0 = .ok (.aload_n 0, 1) := by decide +kernel
theorem dX5_endLine_1 : decode cX5_endLine 1 = .ok (.getfield 71, 3) := by decide +kernel
theorem dX5_endLine_4 : decode cX5_endLine 4 = .ok (.iconst 3, 1) := by decide +kernel
theorem dX5_endLine_5 : decode cX5_endLine 5 = .ok (.if_icmp .eq 9, 3) := by decide +kernel
theorem dX5_endLine_8 : decode cX5_endLine 8 = .ok (.aload_n 0, 1) := by decide +kernel
theorem dX5_endLine_9 : decode cX5_endLine 9 = .ok (.iconst 2, 1) := by decide +kernel
theorem dX5_endLine_10 : decode cX5_endLine 10 = .ok (.invokevirtual 77, 3) := by decide +kernel
theorem dX5_endLine_13 : decode cX5_endLine 13 = .ok (.return_, 1) := by decide +kernel
theorem dX5_endLine_14 : decode cX5_endLine 14 = .ok (.aload_n 0, 1) := by decide +kernel
theorem dX5_endLine_15 : decode cX5_endLine 15 = .ok (.dup, 1) := by decide +kernel
theorem dX5_endLine_16 : decode cX5_endLine 16 = .ok (.getfield 44, 3) := by decide +kernel
theorem dX5_endLine_19 : decode cX5_endLine 19 = .ok (.iconst 1, 1) := by decide +kernel
theorem dX5_endLine_20 : decode cX5_endLine 20 = .ok (.iadd, 1) := by decide +kernel
theorem dX5_endLine_21 : decode cX5_endLine 21 = .ok (.putfield 44, 3) := by decide +kernel
theorem dX5_endLine_24 : decode cX5_endLine 24 = .ok (.aload_n 0, 1) := by decide +kernel
theorem dX5_endLine_25 : decode cX5_endLine 25 = .ok (.iconst 0, 1) := by decide +kernel
theorem dX5_endLine_26 : decode cX5_endLine 26 = .ok (.putfield 47, 3) := by decide +kernel
theorem dX5_endLine_29 : decode cX5_endLine 29 = .ok (.return_, 1) := by decide +kernel
theorem dX5_isNumber_0 : decode cX5_isNumber 0 = .ok (.aload_n 0, 1) := by decide +kernel
theorem dX5_isNumber_1 : decode cX5_isNumber 1 = .ok (.getfield 71, 3) := by decide +kernel
theorem dX5_isNumber_4 : decode cX5_isNumber 4 = .ok (.iconst 2, 1) := by decide +kernel
theorem dX5_isNumber_5 : decode cX5_isNumber 5 = .ok (.if_icmp .eq 11, 3) := by decide +kernel
theorem dX5_isNumber_8 : decode cX5_isNumber 8 = .ok (.aload_n 0, 1) := by decide +kernel
theorem dX5_isNumber_9 : decode cX5_isNumber 9 = .ok (.iconst 2, 1) := by decide +kernel
theorem dX5_isNumber_10 : decode cX5_isNumber 10 = .ok (.invokevirtual 77, 3) := by decide +kernel
theorem dX5_isNumber_13 : decode cX5_isNumber 13 = .ok (.goto 24, 3) := by decide +kernel
theorem dX5_isNumber_16 : decode cX5_isNumber 16 = .ok (.aload_n 0, 1) := by decide +kernel
theorem dX5_isNumber_17 : decode cX5_isNumber 17 = .ok (.getfield 74, 3) := by decide +kernel
theorem dX5_isNumber_20 : decode cX5_isNumber 20 = .ok (.iload_n 1, 1) := by decide +kernel
theorem dX5_isNumber_21 : decode cX5_isNumber 21 = .ok (.if_icmp .lt 11, 3) := by decide +kernel
theorem dX5_isNumber_24 : decode cX5_isNumber 24 = .ok (.aload_n 0, 1) := by decide +kernel
theorem dX5_isNumber_25 : decode cX5_isNumber 25 = .ok (.getfield 74, 3) := by decide +kernel
theorem dX5_isNumber_28 : decode cX5_isNumber 28 = .ok (.iload_n 2, 1) := by decide +kernel
theorem dX5_isNumber_29 : decode cX5_isNumber 29 = .ok (.if_icmp .le 8, 3) := by decide +kernel
theorem dX5_isNumber_32 : decode cX5_isNumber 32 = .ok (.aload_n 0, 1) := by decide +kernel
theorem dX5_isNumber_33 : decode cX5_isNumber 33 = .ok (.iconst 3, 1) := by decide +kernel
theorem dX5_isNumber_34 : decode cX5_isNumber 34 = .ok (.invokevirtual 77, 3) := by decide +kernel
theorem dX5_isNumber_37 : decode cX5_isNumber 37 = .ok (.aload_n 0, 1) := by decide +kernel
theorem dX5_isNumber_38 : decode cX5_isNumber 38 = .ok (.getfield 29, 3) := by decide +kernel
theorem dX5_isNumber_41 : decode cX5_isNumber 41 = .ok (.ifCond .ne 7, 3) := by decide +kernel
theorem dX5_isNumber_44 : decode cX5_isNumber 44 = .ok (.iconst 1, 1) := by decide +kernel
theorem dX5_isNumber_45 : decode cX5_isNumber 45 = .ok (.goto 4, 3) := by decide +kernel
theorem dX5_isNumber_48 : decode cX5_isNumber 48 = .ok (.iconst 0, 1) := by decide +kernel
theorem dX5_isNumber_49 : decode cX5_isNumber 49 = .ok (.ireturn, 1) := by decide +kernel
theorem dX5_refuse_0 : decode cX5_refuse 0 = .ok (.aload_n 0, 1) := by decide +kernel
theorem dX5_refuse_1 : decode cX5_refuse 1 = .ok (.iload_n 1, 1) := by decide +kernel
theorem dX5_refuse_2 : decode cX5_refuse 2 = .ok (.putfield 29, 3) := by decide +kernel
theorem dX5_refuse_5 : decode cX5_refuse 5 = .ok (.aload_n 0, 1) := by decide +kernel
theorem dX5_refuse_6 : decode cX5_refuse 6 = .ok (.aload_n 0, 1) := by decide +kernel
theorem dX5_refuse_7 : decode cX5_refuse 7 = .ok (.getfield 107, 3) := by decide +kernel
theorem dX5_refuse_10 : decode cX5_refuse 10 = .ok (.putfield 32, 3) := by decide +kernel
theorem dX5_refuse_13 : decode cX5_refuse 13 = .ok (.return_, 1) := by decide +kernel
theorem dX5_takeToken_0 : decode cX5_takeToken 0 = .ok (.aload_n 0, 1) := by decide +kernel
theorem dX5_takeToken_1 : decode cX5_takeToken 1 = .ok (.getfield 35, 3) := by decide +kernel
theorem dX5_takeToken_4 : decode cX5_takeToken 4 = .ok (.aload_n 0, 1) := by decide +kernel
theorem dX5_takeToken_5 : decode cX5_takeToken 5 = .ok (.getfield 22, 3) := by decide +kernel
theorem dX5_takeToken_8 : decode cX5_takeToken 8 = .ok (.if_icmp .ge 30, 3) := by decide +kernel
theorem dX5_takeToken_11 : decode cX5_takeToken 11 = .ok (.aload_n 0, 1) := by decide +kernel
theorem dX5_takeToken_12 : decode cX5_takeToken 12 = .ok (.getfield 18, 3) := by decide +kernel
theorem dX5_takeToken_15 : decode cX5_takeToken 15 = .ok (.aload_n 0, 1) := by decide +kernel
theorem dX5_takeToken_16 : decode cX5_takeToken 16 = .ok (.getfield 35, 3) := by decide +kernel
theorem dX5_takeToken_19 : decode cX5_takeToken 19 = .ok (.iaload, 1) := by decide +kernel
theorem dX5_takeToken_20 : decode cX5_takeToken 20 = .ok (.bipush 32, 2) := by decide +kernel
theorem dX5_takeToken_22 : decode cX5_takeToken 22 = .ok (.if_icmp .ne 16, 3) := by decide +kernel
theorem dX5_takeToken_25 : decode cX5_takeToken 25 = .ok (.aload_n 0, 1) := by decide +kernel
theorem dX5_takeToken_26 : decode cX5_takeToken 26 = .ok (.dup, 1) := by decide +kernel
theorem dX5_takeToken_27 : decode cX5_takeToken 27 = .ok (.getfield 35, 3) := by decide +kernel
theorem dX5_takeToken_30 : decode cX5_takeToken 30 = .ok (.iconst 1, 1) := by decide +kernel
theorem dX5_takeToken_31 : decode cX5_takeToken 31 = .ok (.iadd, 1) := by decide +kernel
theorem dX5_takeToken_32 : decode cX5_takeToken 32 = .ok (.putfield 35, 3) := by decide +kernel
theorem dX5_takeToken_35 : decode cX5_takeToken 35 = .ok (.goto (-35), 3) := by decide +kernel
theorem dX5_takeToken_38 : decode cX5_takeToken 38 = .ok (.aload_n 0, 1) := by decide +kernel
theorem dX5_takeToken_39 : decode cX5_takeToken 39 = .ok (.aload_n 0, 1) := by decide +kernel
theorem dX5_takeToken_40 : decode cX5_takeToken 40 = .ok (.getfield 35, 3) := by decide +kernel
theorem dX5_takeToken_43 : decode cX5_takeToken 43 = .ok (.putfield 107, 3) := by decide +kernel
theorem dX5_takeToken_46 : decode cX5_takeToken 46 = .ok (.aload_n 0, 1) := by decide +kernel
theorem dX5_takeToken_47 : decode cX5_takeToken 47 = .ok (.getfield 35, 3) := by decide +kernel
theorem dX5_takeToken_50 : decode cX5_takeToken 50 = .ok (.aload_n 0, 1) := by decide +kernel
theorem dX5_takeToken_51 : decode cX5_takeToken 51 = .ok (.getfield 22, 3) := by decide +kernel
theorem dX5_takeToken_54 : decode cX5_takeToken 54 = .ok (.if_icmp .lt 11, 3) := by decide +kernel
theorem dX5_takeToken_57 : decode cX5_takeToken 57 = .ok (.aload_n 0, 1) := by decide +kernel
theorem dX5_takeToken_58 : decode cX5_takeToken 58 = .ok (.iconst 0, 1) := by decide +kernel
theorem dX5_takeToken_59 : decode cX5_takeToken 59 = .ok (.putfield 71, 3) := by decide +kernel
theorem dX5_takeToken_62 : decode cX5_takeToken 62 = .ok (.goto 84, 3) := by decide +kernel
theorem dX5_takeToken_65 : decode cX5_takeToken 65 = .ok (.aload_n 0, 1) := by decide +kernel
theorem dX5_takeToken_66 : decode cX5_takeToken 66 = .ok (.getfield 18, 3) := by decide +kernel
theorem dX5_takeToken_69 : decode cX5_takeToken 69 = .ok (.aload_n 0, 1) := by decide +kernel
theorem dX5_takeToken_70 : decode cX5_takeToken 70 = .ok (.getfield 35, 3) := by decide +kernel
theorem dX5_takeToken_73 : decode cX5_takeToken 73 = .ok (.iaload, 1) := by decide +kernel
theorem dX5_takeToken_74 : decode cX5_takeToken 74 = .ok (.invokestatic 110, 3) := by decide +kernel
theorem dX5_takeToken_77 : decode cX5_takeToken 77 = .ok (.ifCond .eq 10, 3) := by decide +kernel
theorem dX5_takeToken_80 : decode cX5_takeToken 80 = .ok (.aload_n 0, 1) := by decide +kernel
theorem dX5_takeToken_81 : decode cX5_takeToken 81 = .ok (.invokevirtual 114, 3) := by decide +kernel
theorem dX5_takeToken_84 : decode cX5_takeToken 84 = .ok (.goto 62, 3) := by decide +kernel
theorem dX5_takeToken_87 : decode cX5_takeToken 87 = .ok (.aload_n 0, 1) := by decide +kernel
theorem dX5_takeToken_88 : decode cX5_takeToken 88 = .ok (.getfield 18, 3) := by decide +kernel
theorem dX5_takeToken_91 : decode cX5_takeToken 91 = .ok (.aload_n 0, 1) := by decide +kernel
theorem dX5_takeToken_92 : decode cX5_takeToken 92 = .ok (.getfield 35, 3) := by decide +kernel
theorem dX5_takeToken_95 : decode cX5_takeToken 95 = .ok (.iaload, 1) := by decide +kernel
theorem dX5_takeToken_96 : decode cX5_takeToken 96 = .ok (.invokestatic 117, 3) := by decide +kernel
theorem dX5_takeToken_99 : decode cX5_takeToken 99 = .ok (.ifCond .eq 10, 3) := by decide +kernel
theorem dX5_takeToken_102 : decode cX5_takeToken 102 = .ok (.aload_n 0, 1) := by decide +kernel
theorem dX5_takeToken_103 : decode cX5_takeToken 103 = .ok (.invokevirtual 120, 3) := by decide +kernel
theorem dX5_takeToken_106 : decode cX5_takeToken 106 = .ok (.goto 40, 3) := by decide +kernel
theorem dX5_takeToken_109 : decode cX5_takeToken 109 = .ok (.aload_n 0, 1) := by decide +kernel
theorem dX5_takeToken_110 : decode cX5_takeToken 110 = .ok (.getfield 18, 3) := by decide +kernel
theorem dX5_takeToken_113 : decode cX5_takeToken 113 = .ok (.aload_n 0, 1) := by decide +kernel
theorem dX5_takeToken_114 : decode cX5_takeToken 114 = .ok (.getfield 35, 3) := by decide +kernel
theorem dX5_takeToken_117 : decode cX5_takeToken 117 = .ok (.iaload, 1) := by decide +kernel
theorem dX5_takeToken_118 : decode cX5_takeToken 118 = .ok (.bipush 59, 2) := by decide +kernel
theorem dX5_takeToken_120 : decode cX5_takeToken 120 = .ok (.if_icmp .ne 21, 3) := by decide +kernel
theorem dX5_takeToken_123 : decode cX5_takeToken 123 = .ok (.aload_n 0, 1) := by decide +kernel
theorem dX5_takeToken_124 : decode cX5_takeToken 124 = .ok (.iconst 3, 1) := by decide +kernel
theorem dX5_takeToken_125 : decode cX5_takeToken 125 = .ok (.putfield 71, 3) := by decide +kernel
theorem dX5_takeToken_128 : decode cX5_takeToken 128 = .ok (.aload_n 0, 1) := by decide +kernel
theorem dX5_takeToken_129 : decode cX5_takeToken 129 = .ok (.dup, 1) := by decide +kernel
theorem dX5_takeToken_130 : decode cX5_takeToken 130 = .ok (.getfield 35, 3) := by decide +kernel
theorem dX5_takeToken_133 : decode cX5_takeToken 133 = .ok (.iconst 1, 1) := by decide +kernel
theorem dX5_takeToken_134 : decode cX5_takeToken 134 = .ok (.iadd, 1) := by decide +kernel
theorem dX5_takeToken_135 : decode cX5_takeToken 135 = .ok (.putfield 35, 3) := by decide +kernel
theorem dX5_takeToken_138 : decode cX5_takeToken 138 = .ok (.goto 8, 3) := by decide +kernel
theorem dX5_takeToken_141 : decode cX5_takeToken 141 = .ok (.aload_n 0, 1) := by decide +kernel
theorem dX5_takeToken_142 : decode cX5_takeToken 142 = .ok (.iconst 1, 1) := by decide +kernel
theorem dX5_takeToken_143 : decode cX5_takeToken 143 = .ok (.invokevirtual 77, 3) := by decide +kernel
theorem dX5_takeToken_146 : decode cX5_takeToken 146 = .ok (.return_, 1) := by decide +kernel
theorem dX5_takeName_0 : decode cX5_takeName 0 = .ok (.aload_n 0, 1) := by decide +kernel
theorem dX5_takeName_1 : decode cX5_takeName 1 = .ok (.getfield 35, 3) := by decide +kernel
theorem dX5_takeName_4 : decode cX5_takeName 4 = .ok (.aload_n 0, 1) := by decide +kernel
theorem dX5_takeName_5 : decode cX5_takeName 5 = .ok (.getfield 22, 3) := by decide +kernel
theorem dX5_takeName_8 : decode cX5_takeName 8 = .ok (.if_icmp .ge 31, 3) := by decide +kernel
theorem dX5_takeName_11 : decode cX5_takeName 11 = .ok (.aload_n 0, 1) := by decide +kernel
theorem dX5_takeName_12 : decode cX5_takeName 12 = .ok (.getfield 18, 3) := by decide +kernel
theorem dX5_takeName_15 : decode cX5_takeName 15 = .ok (.aload_n 0, 1) := by decide +kernel
theorem dX5_takeName_16 : decode cX5_takeName 16 = .ok (.getfield 35, 3) := by decide +kernel
theorem dX5_takeName_19 : decode cX5_takeName 19 = .ok (.iaload, 1) := by decide +kernel
theorem dX5_takeName_20 : decode cX5_takeName 20 = .ok (.invokestatic 110, 3) := by decide +kernel
theorem dX5_takeName_23 : decode cX5_takeName 23 = .ok (.ifCond .eq 16, 3) := by decide +kernel
theorem dX5_takeName_26 : decode cX5_takeName 26 = .ok (.aload_n 0, 1) := by decide +kernel
theorem dX5_takeName_27 : decode cX5_takeName 27 = .ok (.dup, 1) := by decide +kernel
theorem dX5_takeName_28 : decode cX5_takeName 28 = .ok (.getfield 35, 3) := by decide +kernel
theorem dX5_takeName_31 : decode cX5_takeName 31 = .ok (.iconst 1, 1) := by decide +kernel
theorem dX5_takeName_32 : decode cX5_takeName 32 = .ok (.iadd, 1) := by decide +kernel
theorem dX5_takeName_33 : decode cX5_takeName 33 = .ok (.putfield 35, 3) := by decide +kernel
theorem dX5_takeName_36 : decode cX5_takeName 36 = .ok (.goto (-36), 3) := by decide +kernel
theorem dX5_takeName_39 : decode cX5_takeName 39 = .ok (.aload_n 0, 1) := by decide +kernel
theorem dX5_takeName_40 : decode cX5_takeName 40 = .ok (.iconst 1, 1) := by decide +kernel
theorem dX5_takeName_41 : decode cX5_takeName 41 = .ok (.putfield 71, 3) := by decide +kernel
theorem dX5_takeName_44 : decode cX5_takeName 44 = .ok (.aload_n 0, 1) := by decide +kernel
theorem dX5_takeName_45 : decode cX5_takeName 45 = .ok (.aload_n 0, 1) := by decide +kernel
theorem dX5_takeName_46 : decode cX5_takeName 46 = .ok (.invokevirtual 123, 3) := by decide +kernel
theorem dX5_takeName_49 : decode cX5_takeName 49 = .ok (.putfield 74, 3) := by decide +kernel
theorem dX5_takeName_52 : decode cX5_takeName 52 = .ok (.aload_n 0, 1) := by decide +kernel
theorem dX5_takeName_53 : decode cX5_takeName 53 = .ok (.getfield 74, 3) := by decide +kernel
theorem dX5_takeName_56 : decode cX5_takeName 56 = .ok (.bipush 16, 2) := by decide +kernel
theorem dX5_takeName_58 : decode cX5_takeName 58 = .ok (.if_icmp .lt 8, 3) := by decide +kernel
theorem dX5_takeName_61 : decode cX5_takeName 61 = .ok (.aload_n 0, 1) := by decide +kernel
theorem dX5_takeName_62 : decode cX5_takeName 62 = .ok (.iconst 1, 1) := by decide +kernel
theorem dX5_takeName_63 : decode cX5_takeName 63 = .ok (.invokevirtual 77, 3) := by decide +kernel
theorem dX5_takeName_66 : decode cX5_takeName 66 = .ok (.return_, 1) := by decide +kernel
theorem dX5_takeNumber_0 : decode cX5_takeNumber 0 = .ok (.aload_n 0, 1) := by decide +kernel
theorem dX5_takeNumber_1 : decode cX5_takeNumber 1 = .ok (.iconst 0, 1) := by decide +kernel
theorem dX5_takeNumber_2 : decode cX5_takeNumber 2 = .ok (.putfield 74, 3) := by decide +kernel
theorem dX5_takeNumber_5 : decode cX5_takeNumber 5 = .ok (.aload_n 0, 1) := by decide +kernel
theorem dX5_takeNumber_6 : decode cX5_takeNumber 6 = .ok (.getfield 35, 3) := by decide +kernel
theorem dX5_takeNumber_9 : decode cX5_takeNumber 9 = .ok (.aload_n 0, 1) := by decide +kernel
theorem dX5_takeNumber_10 : decode cX5_takeNumber 10 = .ok (.getfield 22, 3) := by decide +kernel
theorem dX5_takeNumber_13 : decode cX5_takeNumber 13 = .ok (.if_icmp .ge 59, 3) := by decide +kernel
theorem dX5_takeNumber_16 : decode cX5_takeNumber 16 = .ok (.aload_n 0, 1) := by decide +kernel
theorem dX5_takeNumber_17 : decode cX5_takeNumber 17 = .ok (.getfield 18, 3) := by decide +kernel
theorem dX5_takeNumber_20 : decode cX5_takeNumber 20 = .ok (.aload_n 0, 1) := by decide +kernel
theorem dX5_takeNumber_21 : decode cX5_takeNumber 21 = .ok (.getfield 35, 3) := by decide +kernel
theorem dX5_takeNumber_24 : decode cX5_takeNumber 24 = .ok (.iaload, 1) := by decide +kernel
theorem dX5_takeNumber_25 : decode cX5_takeNumber 25 = .ok (.invokestatic 117, 3) := by decide +kernel
theorem dX5_takeNumber_28 : decode cX5_takeNumber 28 = .ok (.ifCond .eq 44, 3) := by decide +kernel
theorem dX5_takeNumber_31 : decode cX5_takeNumber 31 = .ok (.aload_n 0, 1) := by decide +kernel
theorem dX5_takeNumber_32 : decode cX5_takeNumber 32 = .ok (.aload_n 0, 1) := by decide +kernel
theorem dX5_takeNumber_33 : decode cX5_takeNumber 33 = .ok (.getfield 74, 3) := by decide +kernel
theorem dX5_takeNumber_36 : decode cX5_takeNumber 36 = .ok (.bipush 10, 2) := by decide +kernel
theorem dX5_takeNumber_38 : decode cX5_takeNumber 38 = .ok (.imul, 1) := by decide +kernel
theorem dX5_takeNumber_39 : decode cX5_takeNumber 39 = .ok (.aload_n 0, 1) := by decide +kernel
theorem dX5_takeNumber_40 : decode cX5_takeNumber 40 = .ok (.getfield 18, 3) := by decide +kernel
theorem dX5_takeNumber_43 : decode cX5_takeNumber 43 = .ok (.aload_n 0, 1) := by decide +kernel
theorem dX5_takeNumber_44 : decode cX5_takeNumber 44 = .ok (.getfield 35, 3) := by decide +kernel
theorem dX5_takeNumber_47 : decode cX5_takeNumber 47 = .ok (.iaload, 1) := by decide +kernel
theorem dX5_takeNumber_48 : decode cX5_takeNumber 48 = .ok (.iadd, 1) := by decide +kernel
theorem dX5_takeNumber_49 : decode cX5_takeNumber 49 = .ok (.bipush 48, 2) := by decide +kernel
theorem dX5_takeNumber_51 : decode cX5_takeNumber 51 = .ok (.isub, 1) := by decide +kernel
theorem dX5_takeNumber_52 : decode cX5_takeNumber 52 = .ok (.sipush 1000, 3) := by decide +kernel
theorem dX5_takeNumber_55 : decode cX5_takeNumber 55 = .ok (.irem, 1) := by decide +kernel
theorem dX5_takeNumber_56 : decode cX5_takeNumber 56 = .ok (.putfield 74, 3) := by decide +kernel
theorem dX5_takeNumber_59 : decode cX5_takeNumber 59 = .ok (.aload_n 0, 1) := by decide +kernel
theorem dX5_takeNumber_60 : decode cX5_takeNumber 60 = .ok (.dup, 1) := by decide +kernel
theorem dX5_takeNumber_61 : decode cX5_takeNumber 61 = .ok (.getfield 35, 3) := by decide +kernel
theorem dX5_takeNumber_64 : decode cX5_takeNumber 64 = .ok (.iconst 1, 1) := by decide +kernel
theorem dX5_takeNumber_65 : decode cX5_takeNumber 65 = .ok (.iadd, 1) := by decide +kernel
theorem dX5_takeNumber_66 : decode cX5_takeNumber 66 = .ok (.putfield 35, 3) := by decide +kernel
theorem dX5_takeNumber_69 : decode cX5_takeNumber 69 = .ok (.goto (-64), 3) := by decide +kernel
theorem dX5_takeNumber_72 : decode cX5_takeNumber 72 = .ok (.aload_n 0, 1) := by decide +kernel
theorem dX5_takeNumber_73 : decode cX5_takeNumber 73 = .ok (.iconst 2, 1) := by decide +kernel
theorem dX5_takeNumber_74 : decode cX5_takeNumber 74 = .ok (.putfield 71, 3) := by decide +kernel
theorem dX5_takeNumber_77 : decode cX5_takeNumber 77 = .ok (.aload_n 0, 1) := by decide +kernel
theorem dX5_takeNumber_78 : decode cX5_takeNumber 78 = .ok (.getfield 35, 3) := by decide +kernel
theorem dX5_takeNumber_81 : decode cX5_takeNumber 81 = .ok (.aload_n 0, 1) := by decide +kernel
theorem dX5_takeNumber_82 : decode cX5_takeNumber 82 = .ok (.getfield 107, 3) := by decide +kernel
theorem dX5_takeNumber_85 : decode cX5_takeNumber 85 = .ok (.isub, 1) := by decide +kernel
theorem dX5_takeNumber_86 : decode cX5_takeNumber 86 = .ok (.iconst 2, 1) := by decide +kernel
theorem dX5_takeNumber_87 : decode cX5_takeNumber 87 = .ok (.if_icmp .le 8, 3) := by decide +kernel
theorem dX5_takeNumber_90 : decode cX5_takeNumber 90 = .ok (.aload_n 0, 1) := by decide +kernel
theorem dX5_takeNumber_91 : decode cX5_takeNumber 91 = .ok (.iconst 1, 1) := by decide +kernel
theorem dX5_takeNumber_92 : decode cX5_takeNumber 92 = .ok (.invokevirtual 77, 3) := by decide +kernel
theorem dX5_takeNumber_95 : decode cX5_takeNumber 95 = .ok (.return_, 1) := by decide +kernel
theorem dX5_wordRead_0 : decode cX5_wordRead 0 = .ok (.iconst 0, 1) := by decide +kernel
theorem dX5_wordRead_1 : decode cX5_wordRead 1 = .ok (.istore_n 1, 1) := by decide +kernel
theorem dX5_wordRead_2 : decode cX5_wordRead 2 = .ok (.iload_n 1, 1) := by decide +kernel
theorem dX5_wordRead_3 : decode cX5_wordRead 3 = .ok (.bipush 16, 2) := by decide +kernel
theorem dX5_wordRead_5 : decode cX5_wordRead 5 = .ok (.if_icmp .ge 22, 3) := by decide +kernel
theorem dX5_wordRead_8 : decode cX5_wordRead 8 = .ok (.aload_n 0, 1) := by decide +kernel
theorem dX5_wordRead_9 : decode cX5_wordRead 9 = .ok (.iload_n 1, 1) := by decide +kernel
theorem dX5_wordRead_10 : decode cX5_wordRead 10 = .ok (.invokestatic 127, 3) := by decide +kernel
theorem dX5_wordRead_13 : decode cX5_wordRead 13 = .ok (.invokevirtual 131, 3) := by decide +kernel
theorem dX5_wordRead_16 : decode cX5_wordRead 16 = .ok (.ifCond .eq 5, 3) := by decide +kernel
theorem dX5_wordRead_19 : decode cX5_wordRead 19 = .ok (.iload_n 1, 1) := by decide +kernel
theorem dX5_wordRead_20 : decode cX5_wordRead 20 = .ok (.ireturn, 1) := by decide +kernel
theorem dX5_wordRead_21 : decode cX5_wordRead 21 = .ok (.iinc 1 1, 3) := by decide +kernel
theorem dX5_wordRead_24 : decode cX5_wordRead 24 = .ok (.goto (-22), 3) := by decide +kernel
theorem dX5_wordRead_27 : decode cX5_wordRead 27 = .ok (.bipush 16, 2) := by decide +kernel
theorem dX5_wordRead_29 : decode cX5_wordRead 29 = .ok (.ireturn, 1) := by decide +kernel
theorem dX5_standsThere_0 : decode cX5_standsThere 0 = .ok (.aload_n 1, 1) := by decide +kernel
theorem dX5_standsThere_1 : decode cX5_standsThere 1 = .ok (.invokevirtual 135, 3) := by decide +kernel
theorem dX5_standsThere_4 : decode cX5_standsThere 4 = .ok (.aload_n 0, 1) := by decide +kernel
theorem dX5_standsThere_5 : decode cX5_standsThere 5 = .ok (.getfield 35, 3) := by decide +kernel
theorem dX5_standsThere_8 : decode cX5_standsThere 8 = .ok (.aload_n 0, 1) := by decide +kernel
theorem dX5_standsThere_9 : decode cX5_standsThere 9 = .ok (.getfield 107, 3) := by decide +kernel
theorem dX5_standsThere_12 : decode cX5_standsThere 12 = .ok (.isub, 1) := by decide +kernel
theorem dX5_standsThere_13 : decode cX5_standsThere 13 = .ok (.if_icmp .eq 5, 3) := by decide +kernel
theorem dX5_standsThere_16 : decode cX5_standsThere 16 = .ok (.iconst 0, 1) := by decide +kernel
theorem dX5_standsThere_17 : decode cX5_standsThere 17 = .ok (.ireturn, 1) := by decide +kernel
theorem dX5_standsThere_18 : decode cX5_standsThere 18 = .ok (.iconst 0, 1) := by decide +kernel
theorem dX5_standsThere_19 : decode cX5_standsThere 19 = .ok (.istore_n 2, 1) := by decide +kernel
theorem dX5_standsThere_20 : decode cX5_standsThere 20 = .ok (.iload_n 2, 1) := by decide +kernel
theorem dX5_standsThere_21 : decode cX5_standsThere 21 = .ok (.aload_n 1, 1) := by decide +kernel
theorem dX5_standsThere_22 : decode cX5_standsThere 22 = .ok (.invokevirtual 135, 3) := by decide +kernel
theorem dX5_standsThere_25 : decode cX5_standsThere 25 = .ok (.if_icmp .ge 30, 3) := by decide +kernel
theorem dX5_standsThere_28 : decode cX5_standsThere 28 = .ok (.aload_n 0, 1) := by decide +kernel
theorem dX5_standsThere_29 : decode cX5_standsThere 29 = .ok (.getfield 18, 3) := by decide +kernel
theorem dX5_standsThere_32 : decode cX5_standsThere 32 = .ok (.aload_n 0, 1) := by decide +kernel
theorem dX5_standsThere_33 : decode cX5_standsThere 33 = .ok (.getfield 107, 3) := by decide +kernel
theorem dX5_standsThere_36 : decode cX5_standsThere 36 = .ok (.iload_n 2, 1) := by decide +kernel
theorem dX5_standsThere_37 : decode cX5_standsThere 37 = .ok (.iadd, 1) := by decide +kernel
theorem dX5_standsThere_38 : decode cX5_standsThere 38 = .ok (.iaload, 1) := by decide +kernel
theorem dX5_standsThere_39 : decode cX5_standsThere 39 = .ok (.aload_n 1, 1) := by decide +kernel
theorem dX5_standsThere_40 : decode cX5_standsThere 40 = .ok (.iload_n 2, 1) := by decide +kernel
theorem dX5_standsThere_41 : decode cX5_standsThere 41 = .ok (.invokevirtual 139, 3) := by decide +kernel
theorem dX5_standsThere_44 : decode cX5_standsThere 44 = .ok (.if_icmp .eq 5, 3) := by decide +kernel
theorem dX5_standsThere_47 : decode cX5_standsThere 47 = .ok (.iconst 0, 1) := by decide +kernel
theorem dX5_standsThere_48 : decode cX5_standsThere 48 = .ok (.ireturn, 1) := by decide +kernel
theorem dX5_standsThere_49 : decode cX5_standsThere 49 = .ok (.iinc 2 1, 3) := by decide +kernel
theorem dX5_standsThere_52 : decode cX5_standsThere 52 = .ok (.goto (-32), 3) := by decide +kernel
theorem dX5_standsThere_55 : decode cX5_standsThere 55 = .ok (.iconst 1, 1) := by decide +kernel
theorem dX5_standsThere_56 : decode cX5_standsThere 56 = .ok (.ireturn, 1) := by decide +kernel
theorem dX5_word_0 : decode cX5_word 0 = .ok (.iload_n 0, 1) := by decide +kernel
theorem dX5_word_1 : decode cX5_word 1 = .ok (.tableswitch 120 0 14 #[75, 78, 81, 84, 87, 90, 93, 96, 99, 102, 105, 108, 111, 114, 117], 75) := by decide +kernel
theorem dX5_word_76 : decode cX5_word 76 = .ok (.ldc 143, 2) := by decide +kernel
theorem dX5_word_78 : decode cX5_word 78 = .ok (.areturn, 1) := by decide +kernel
theorem dX5_word_79 : decode cX5_word 79 = .ok (.ldc 145, 2) := by decide +kernel
theorem dX5_word_81 : decode cX5_word 81 = .ok (.areturn, 1) := by decide +kernel
theorem dX5_word_82 : decode cX5_word 82 = .ok (.ldc 147, 2) := by decide +kernel
theorem dX5_word_84 : decode cX5_word 84 = .ok (.areturn, 1) := by decide +kernel
theorem dX5_word_85 : decode cX5_word 85 = .ok (.ldc 149, 2) := by decide +kernel
theorem dX5_word_87 : decode cX5_word 87 = .ok (.areturn, 1) := by decide +kernel
theorem dX5_word_88 : decode cX5_word 88 = .ok (.ldc 151, 2) := by decide +kernel
theorem dX5_word_90 : decode cX5_word 90 = .ok (.areturn, 1) := by decide +kernel
theorem dX5_word_91 : decode cX5_word 91 = .ok (.ldc 153, 2) := by decide +kernel
theorem dX5_word_93 : decode cX5_word 93 = .ok (.areturn, 1) := by decide +kernel
theorem dX5_word_94 : decode cX5_word 94 = .ok (.ldc 155, 2) := by decide +kernel
theorem dX5_word_96 : decode cX5_word 96 = .ok (.areturn, 1) := by decide +kernel
theorem dX5_word_97 : decode cX5_word 97 = .ok (.ldc 157, 2) := by decide +kernel
theorem dX5_word_99 : decode cX5_word 99 = .ok (.areturn, 1) := by decide +kernel
theorem dX5_word_100 : decode cX5_word 100 = .ok (.ldc 159, 2) := by decide +kernel
theorem dX5_word_102 : decode cX5_word 102 = .ok (.areturn, 1) := by decide +kernel
theorem dX5_word_103 : decode cX5_word 103 = .ok (.ldc 161, 2) := by decide +kernel
theorem dX5_word_105 : decode cX5_word 105 = .ok (.areturn, 1) := by decide +kernel
theorem dX5_word_106 : decode cX5_word 106 = .ok (.ldc 163, 2) := by decide +kernel
theorem dX5_word_108 : decode cX5_word 108 = .ok (.areturn, 1) := by decide +kernel
theorem dX5_word_109 : decode cX5_word 109 = .ok (.ldc 165, 2) := by decide +kernel
theorem dX5_word_111 : decode cX5_word 111 = .ok (.areturn, 1) := by decide +kernel
theorem dX5_word_112 : decode cX5_word 112 = .ok (.ldc 167, 2) := by decide +kernel
theorem dX5_word_114 : decode cX5_word 114 = .ok (.areturn, 1) := by decide +kernel
theorem dX5_word_115 : decode cX5_word 115 = .ok (.ldc 168, 2) := by decide +kernel
theorem dX5_word_117 : decode cX5_word 117 = .ok (.areturn, 1) := by decide +kernel
theorem dX5_word_118 : decode cX5_word 118 = .ok (.ldc 170, 2) := by decide +kernel
theorem dX5_word_120 : decode cX5_word 120 = .ok (.areturn, 1) := by decide +kernel
theorem dX5_word_121 : decode cX5_word 121 = .ok (.ldc 172, 2) := by decide +kernel
theorem dX5_word_123 : decode cX5_word 123 = .ok (.areturn, 1) := by decide +kernel
theorem dX5_isLetter_0 : decode cX5_isLetter 0 = .ok (.iload_n 0, 1) := by decide +kernel
theorem dX5_isLetter_1 : decode cX5_isLetter 1 = .ok (.bipush 97, 2) := by decide +kernel
theorem dX5_isLetter_3 : decode cX5_isLetter 3 = .ok (.if_icmp .lt 13, 3) := by decide +kernel
theorem dX5_isLetter_6 : decode cX5_isLetter 6 = .ok (.iload_n 0, 1) := by decide +kernel
theorem dX5_isLetter_7 : decode cX5_isLetter 7 = .ok (.bipush 122, 2) := by decide +kernel
theorem dX5_isLetter_9 : decode cX5_isLetter 9 = .ok (.if_icmp .gt 7, 3) := by decide +kernel
theorem dX5_isLetter_12 : decode cX5_isLetter 12 = .ok (.iconst 1, 1) := by decide +kernel
theorem dX5_isLetter_13 : decode cX5_isLetter 13 = .ok (.goto 4, 3) := by decide +kernel
theorem dX5_isLetter_16 : decode cX5_isLetter 16 = .ok (.iconst 0, 1) := by decide +kernel
theorem dX5_isLetter_17 : decode cX5_isLetter 17 = .ok (.ireturn, 1) := by decide +kernel
theorem dX5_isFigure_0 : decode cX5_isFigure 0 = .ok (.iload_n 0, 1) := by decide +kernel
theorem dX5_isFigure_1 : decode cX5_isFigure 1 = .ok (.bipush 48, 2) := by decide +kernel
theorem dX5_isFigure_3 : decode cX5_isFigure 3 = .ok (.if_icmp .lt 13, 3) := by decide +kernel
theorem dX5_isFigure_6 : decode cX5_isFigure 6 = .ok (.iload_n 0, 1) := by decide +kernel
theorem dX5_isFigure_7 : decode cX5_isFigure 7 = .ok (.bipush 57, 2) := by decide +kernel
theorem dX5_isFigure_9 : decode cX5_isFigure 9 = .ok (.if_icmp .gt 7, 3) := by decide +kernel
theorem dX5_isFigure_12 : decode cX5_isFigure 12 = .ok (.iconst 1, 1) := by decide +kernel
theorem dX5_isFigure_13 : decode cX5_isFigure 13 = .ok (.goto 4, 3) := by decide +kernel
theorem dX5_isFigure_16 : decode cX5_isFigure 16 = .ok (.iconst 0, 1) := by decide +kernel
theorem dX5_isFigure_17 : decode cX5_isFigure 17 = .ok (.ireturn, 1) := by decide +kernel
theorem dX6_init_0 : decode cX6_init 0 = .ok (.aload_n 0, 1) := by decide +kernel
theorem dX6_init_1 : decode cX6_init 1 = .ok (.invokespecial 3, 3) := by decide +kernel
theorem dX6_init_4 : decode cX6_init 4 = .ok (.aload_n 0, 1) := by decide +kernel
theorem dX6_init_5 : decode cX6_init 5 = .ok (.bipush 64, 2) := by decide +kernel
theorem dX6_init_7 : decode cX6_init 7 = .ok (.newarray .int, 2) := by decide +kernel
theorem dX6_init_9 : decode cX6_init 9 = .ok (.putfield 9, 3) := by decide +kernel
theorem dX6_init_12 : decode cX6_init 12 = .ok (.aload_n 0, 1) := by decide +kernel
theorem dX6_init_13 : decode cX6_init 13 = .ok (.iconst (-1), 1) := by decide +kernel
theorem dX6_init_14 : decode cX6_init 14 = .ok (.putfield 15, 3) := by decide +kernel
theorem dX6_init_17 : decode cX6_init 17 = .ok (.return_, 1) := by decide +kernel
theorem dX6_renew_0 : decode cX6_renew 0 = .ok (.aload_n 0, 1) := by decide +kernel
theorem dX6_renew_1 : decode cX6_renew 1 = .ok (.getfield 9, 3) := by decide +kernel
theorem dX6_renew_4 : decode cX6_renew 4 = .ok (.iconst 0, 1) := by decide +kernel
theorem dX6_renew_5 : decode cX6_renew 5 = .ok (.invokestatic 19, 3) := by decide +kernel
theorem dX6_renew_8 : decode cX6_renew 8 = .ok (.aload_n 0, 1) := by decide +kernel
theorem dX6_renew_9 : decode cX6_renew 9 = .ok (.iload_n 1, 1) := by decide +kernel
theorem dX6_renew_10 : decode cX6_renew 10 = .ok (.putfield 25, 3) := by decide +kernel
theorem dX6_renew_13 : decode cX6_renew 13 = .ok (.aload_n 0, 1) := by decide +kernel
theorem dX6_renew_14 : decode cX6_renew 14 = .ok (.iload_n 2, 1) := by decide +kernel
theorem dX6_renew_15 : decode cX6_renew 15 = .ok (.putfield 15, 3) := by decide +kernel
theorem dX6_renew_18 : decode cX6_renew 18 = .ok (.return_, 1) := by decide +kernel
theorem dX6_faultAt_0 : decode cX6_faultAt 0 = .ok (.aload_n 0, 1) := by decide +kernel
theorem dX6_faultAt_1 : decode cX6_faultAt 1 = .ok (.getfield 15, 3) := by decide +kernel
theorem dX6_faultAt_4 : decode cX6_faultAt 4 = .ok (.ifCond .ge 5, 3) := by decide +kernel
theorem dX6_faultAt_7 : decode cX6_faultAt 7 = .ok (.iconst 1, 1) := by decide +kernel
theorem dX6_faultAt_8 : decode cX6_faultAt 8 = .ok (.ireturn, 1) := by decide +kernel
theorem dX6_faultAt_9 : decode cX6_faultAt 9 = .ok (.iload_n 1, 1) := by decide +kernel
theorem dX6_faultAt_10 : decode cX6_faultAt 10 = .ok (.ifCond .lt 11, 3) := by decide +kernel
theorem dX6_faultAt_13 : decode cX6_faultAt 13 = .ok (.iload_n 1, 1) := by decide +kernel
theorem dX6_faultAt_14 : decode cX6_faultAt 14 = .ok (.aload_n 0, 1) := by decide +kernel
theorem dX6_faultAt_15 : decode cX6_faultAt 15 = .ok (.getfield 15, 3) := by decide +kernel
theorem dX6_faultAt_18 : decode cX6_faultAt 18 = .ok (.if_icmp .lt 7, 3) := by decide +kernel
theorem dX6_faultAt_21 : decode cX6_faultAt 21 = .ok (.iconst 2, 1) := by decide +kernel
theorem dX6_faultAt_22 : decode cX6_faultAt 22 = .ok (.goto 4, 3) := by decide +kernel
theorem dX6_faultAt_25 : decode cX6_faultAt 25 = .ok (.iconst 0, 1) := by decide +kernel
theorem dX6_faultAt_26 : decode cX6_faultAt 26 = .ok (.ireturn, 1) := by decide +kernel
theorem dX6_faultAsOf_0 : decode cX6_faultAsOf 0 = .ok (.aload_n 0, 1) := by decide +kernel
theorem dX6_faultAsOf_1 : decode cX6_faultAsOf 1 = .ok (.getfield 15, 3) := by decide +kernel
theorem dX6_faultAsOf_4 : decode cX6_faultAsOf 4 = .ok (.ifCond .lt 15, 3) := by decide +kernel
theorem dX6_faultAsOf_7 : decode cX6_faultAsOf 7 = .ok (.aload_n 0, 1) := by decide +kernel
theorem dX6_faultAsOf_8 : decode cX6_faultAsOf 8 = .ok (.getfield 25, 3) := by decide +kernel
theorem dX6_faultAsOf_11 : decode cX6_faultAsOf 11 = .ok (.iload_n 1, 1) := by decide +kernel
theorem dX6_faultAsOf_12 : decode cX6_faultAsOf 12 = .ok (.if_icmp .eq 7, 3) := by decide +kernel
theorem dX6_faultAsOf_15 : decode cX6_faultAsOf 15 = .ok (.iconst 3, 1) := by decide +kernel
theorem dX6_faultAsOf_16 : decode cX6_faultAsOf 16 = .ok (.goto 8, 3) := by decide +kernel
theorem dX6_faultAsOf_19 : decode cX6_faultAsOf 19 = .ok (.aload_n 0, 1) := by decide +kernel
theorem dX6_faultAsOf_20 : decode cX6_faultAsOf 20 = .ok (.iload_n 2, 1) := by decide +kernel
theorem dX6_faultAsOf_21 : decode cX6_faultAsOf 21 = .ok (.invokevirtual 28, 3) := by decide +kernel
theorem dX6_faultAsOf_24 : decode cX6_faultAsOf 24 = .ok (.ireturn, 1) := by decide +kernel
theorem dX6_put_0 : decode cX6_put 0 = .ok (.aload_n 0, 1) := by decide +kernel
theorem dX6_put_1 : decode cX6_put 1 = .ok (.getfield 25, 3) := by decide +kernel
theorem dX6_put_4 : decode cX6_put 4 = .ok (.ifCond .ne 14, 3) := by decide +kernel
theorem dX6_put_7 : decode cX6_put 7 = .ok (.aload_n 0, 1) := by decide +kernel
theorem dX6_put_8 : decode cX6_put 8 = .ok (.getfield 9, 3) := by decide +kernel
theorem dX6_put_11 : decode cX6_put 11 = .ok (.iload_n 1, 1) := by decide +kernel
theorem dX6_put_12 : decode cX6_put 12 = .ok (.iload_n 2, 1) := by decide +kernel
theorem dX6_put_13 : decode cX6_put 13 = .ok (.i2b, 1) := by decide +kernel
theorem dX6_put_14 : decode cX6_put 14 = .ok (.iastore, 1) := by decide +kernel
theorem dX6_put_15 : decode cX6_put 15 = .ok (.goto 23, 3) := by decide +kernel
theorem dX6_put_18 : decode cX6_put 18 = .ok (.aload_n 0, 1) := by decide +kernel
theorem dX6_put_19 : decode cX6_put 19 = .ok (.getfield 9, 3) := by decide +kernel
theorem dX6_put_22 : decode cX6_put 22 = .ok (.iload_n 1, 1) := by decide +kernel
theorem dX6_put_23 : decode cX6_put 23 = .ok (.aload_n 0, 1) := by decide +kernel
theorem dX6_put_24 : decode cX6_put 24 = .ok (.getfield 25, 3) := by decide +kernel
theorem dX6_put_27 : decode cX6_put 27 = .ok (.iconst 1, 1) := by decide +kernel
theorem dX6_put_28 : decode cX6_put 28 = .ok (.if_icmp .ne 8, 3) := by decide +kernel
theorem dX6_put_31 : decode cX6_put 31 = .ok (.iload_n 2, 1) := by decide +kernel
theorem dX6_put_32 : decode cX6_put 32 = .ok (.i2s, 1) := by decide +kernel
theorem dX6_put_33 : decode cX6_put 33 = .ok (.goto 4, 3) := by decide +kernel
theorem dX6_put_36 : decode cX6_put 36 = .ok (.iload_n 2, 1) := by decide +kernel
theorem dX6_put_37 : decode cX6_put 37 = .ok (.iastore, 1) := by decide +kernel
theorem dX6_put_38 : decode cX6_put 38 = .ok (.return_, 1) := by decide +kernel
theorem dX7_init_0 : decode cX7_init 0 = .ok (.aload_n 0, 1) := by decide +kernel
theorem dX7_init_1 : decode cX7_init 1 = .ok (.invokespecial 1, 3) := by decide +kernel
theorem dX7_init_4 : decode cX7_init 4 = .ok (.aload_n 0, 1) := by decide +kernel
theorem dX7_init_5 : decode cX7_init 5 = .ok (.new 7, 3) := by decide +kernel
theorem dX7_init_8 : decode cX7_init 8 = .ok (.dup, 1) := by decide +kernel
theorem dX7_init_9 : decode cX7_init 9 = .ok (.invokespecial 9, 3) := by decide +kernel
theorem dX7_init_12 : decode cX7_init 12 = .ok (.putfield 10, 3) := by decide +kernel
theorem dX7_init_15 : decode cX7_init 15 = .ok (.aload_n 0, 1) := by decide +kernel
theorem dX7_init_16 : decode cX7_init 16 = .ok (.new 7, 3) := by decide +kernel
theorem dX7_init_19 : decode cX7_init 19 = .ok (.dup, 1) := by decide +kernel
theorem dX7_init_20 : decode cX7_init 20 = .ok (.invokespecial 9, 3) := by decide +kernel
theorem dX7_init_23 : decode cX7_init 23 = .ok (.putfield 16, 3) := by decide +kernel
theorem dX7_init_26 : decode cX7_init 26 = .ok (.aload_n 0, 1) := by decide +kernel
theorem dX7_init_27 : decode cX7_init 27 = .ok (.new 19, 3) := by decide +kernel
theorem dX7_init_30 : decode cX7_init 30 = .ok (.dup, 1) := by decide +kernel
theorem dX7_init_31 : decode cX7_init 31 = .ok (.invokespecial 21, 3) := by decide +kernel
theorem dX7_init_34 : decode cX7_init 34 = .ok (.putfield 22, 3) := by decide +kernel
theorem dX7_init_37 : decode cX7_init 37 = .ok (.aload_n 0, 1) := by decide +kernel
theorem dX7_init_38 : decode cX7_init 38 = .ok (.sipush 384, 3) := by decide +kernel
theorem dX7_init_41 : decode cX7_init 41 = .ok (.newarray .int, 2) := by decide +kernel
theorem dX7_init_43 : decode cX7_init 43 = .ok (.putfield 26, 3) := by decide +kernel
theorem dX7_init_46 : decode cX7_init 46 = .ok (.aload_n 0, 1) := by decide +kernel
theorem dX7_init_47 : decode cX7_init 47 = .ok (.bipush 16, 2) := by decide +kernel
theorem dX7_init_49 : decode cX7_init 49 = .ok (.newarray .int, 2) := by decide +kernel
theorem dX7_init_51 : decode cX7_init 51 = .ok (.putfield 30, 3) := by decide +kernel
theorem dX7_init_54 : decode cX7_init 54 = .ok (.aload_n 0, 1) := by decide +kernel
theorem dX7_init_55 : decode cX7_init 55 = .ok (.bipush 16, 2) := by decide +kernel
theorem dX7_init_57 : decode cX7_init 57 = .ok (.newarray .int, 2) := by decide +kernel
theorem dX7_init_59 : decode cX7_init 59 = .ok (.putfield 33, 3) := by decide +kernel
theorem dX7_init_62 : decode cX7_init 62 = .ok (.aload_n 0, 1) := by decide +kernel
theorem dX7_init_63 : decode cX7_init 63 = .ok (.bipush 6, 2) := by decide +kernel
theorem dX7_init_65 : decode cX7_init 65 = .ok (.anewarray 36, 3) := by decide +kernel
theorem dX7_init_68 : decode cX7_init 68 = .ok (.putfield 38, 3) := by decide +kernel
theorem dX7_init_71 : decode cX7_init 71 = .ok (.aload_n 0, 1) := by decide +kernel
theorem dX7_init_72 : decode cX7_init 72 = .ok (.new 36, 3) := by decide +kernel
theorem dX7_init_75 : decode cX7_init 75 = .ok (.dup, 1) := by decide +kernel
theorem dX7_init_76 : decode cX7_init 76 = .ok (.invokespecial 42, 3) := by decide +kernel
theorem dX7_init_79 : decode cX7_init 79 = .ok (.putfield 43, 3) := by decide +kernel
theorem dX7_init_82 : decode cX7_init 82 = .ok (.aload_n 0, 1) := by decide +kernel
theorem dX7_init_83 : decode cX7_init 83 = .ok (.new 47, 3) := by decide +kernel
theorem dX7_init_86 : decode cX7_init 86 = .ok (.dup, 1) := by decide +kernel
theorem dX7_init_87 : decode cX7_init 87 = .ok (.invokespecial 49, 3) := by decide +kernel
theorem dX7_init_90 : decode cX7_init 90 = .ok (.putfield 50, 3) := by decide +kernel
theorem dX7_init_93 : decode cX7_init 93 = .ok (.aload_n 0, 1) := by decide +kernel
theorem dX7_init_94 : decode cX7_init 94 = .ok (.new 54, 3) := by decide +kernel
theorem dX7_init_97 : decode cX7_init 97 = .ok (.dup, 1) := by decide +kernel
theorem dX7_init_98 : decode cX7_init 98 = .ok (.invokespecial 56, 3) := by decide +kernel
theorem dX7_init_101 : decode cX7_init 101 = .ok (.putfield 57, 3) := by decide +kernel
theorem dX7_init_104 : decode cX7_init 104 = .ok (.aload_n 0, 1) := by decide +kernel
theorem dX7_init_105 : decode cX7_init 105 = .ok (.new 61, 3) := by decide +kernel
theorem dX7_init_108 : decode cX7_init 108 = .ok (.dup, 1) := by decide +kernel
theorem dX7_init_109 : decode cX7_init 109 = .ok (.invokespecial 63, 3) := by decide +kernel
theorem dX7_init_112 : decode cX7_init 112 = .ok (.putfield 64, 3) := by decide +kernel
theorem dX7_init_115 : decode cX7_init 115 = .ok (.aload_n 0, 1) := by decide +kernel
theorem dX7_init_116 : decode cX7_init 116 = .ok (.iconst 4, 1) := by decide +kernel
theorem dX7_init_117 : decode cX7_init 117 = .ok (.anewarray 68, 3) := by decide +kernel
theorem dX7_init_120 : decode cX7_init 120 = .ok (.putfield 70, 3) := by decide +kernel
theorem dX7_init_123 : decode cX7_init 123 = .ok (.aload_n 0, 1) := by decide +kernel
theorem dX7_init_124 : decode cX7_init 124 = .ok (.bipush 25, 2) := by decide +kernel
theorem dX7_init_126 : decode cX7_init 126 = .ok (.putfield 74, 3) := by decide +kernel
theorem dX7_init_129 : decode cX7_init 129 = .ok (.iconst 0, 1) := by decide +kernel
theorem dX7_init_130 : decode cX7_init 130 = .ok (.istore_n 1, 1) := by decide +kernel
theorem dX7_init_131 : decode cX7_init 131 = .ok (.iload_n 1, 1) := by decide +kernel
theorem dX7_init_132 : decode cX7_init 132 = .ok (.bipush 6, 2) := by decide +kernel
theorem dX7_init_134 : decode cX7_init 134 = .ok (.if_icmp .ge 22, 3) := by decide +kernel
theorem dX7_init_137 : decode cX7_init 137 = .ok (.aload_n 0, 1) := by decide +kernel
theorem dX7_init_138 : decode cX7_init 138 = .ok (.getfield 38, 3) := by decide +kernel
theorem dX7_init_141 : decode cX7_init 141 = .ok (.iload_n 1, 1) := by decide +kernel
theorem dX7_init_142 : decode cX7_init 142 = .ok (.new 36, 3) := by decide +kernel
theorem dX7_init_145 : decode cX7_init 145 = .ok (.dup, 1) := by decide +kernel
theorem dX7_init_146 : decode cX7_init 146 = .ok (.invokespecial 42, 3) := by decide +kernel
theorem dX7_init_149 : decode cX7_init 149 = .ok (.aastore, 1) := by decide +kernel
theorem dX7_init_150 : decode cX7_init 150 = .ok (.iinc 1 1, 3) := by decide +kernel
theorem dX7_init_153 : decode cX7_init 153 = .ok (.goto (-22), 3) := by decide +kernel
theorem dX7_init_156 : decode cX7_init 156 = .ok (.iconst 0, 1) := by decide +kernel
theorem dX7_init_157 : decode cX7_init 157 = .ok (.istore_n 1, 1) := by decide +kernel
theorem dX7_init_158 : decode cX7_init 158 = .ok (.iload_n 1, 1) := by decide +kernel
theorem dX7_init_159 : decode cX7_init 159 = .ok (.iconst 4, 1) := by decide +kernel
theorem dX7_init_160 : decode cX7_init 160 = .ok (.if_icmp .ge 22, 3) := by decide +kernel
theorem dX7_init_163 : decode cX7_init 163 = .ok (.aload_n 0, 1) := by decide +kernel
theorem dX7_init_164 : decode cX7_init 164 = .ok (.getfield 70, 3) := by decide +kernel
theorem dX7_init_167 : decode cX7_init 167 = .ok (.iload_n 1, 1) := by decide +kernel
theorem dX7_init_168 : decode cX7_init 168 = .ok (.new 68, 3) := by decide +kernel
theorem dX7_init_171 : decode cX7_init 171 = .ok (.dup, 1) := by decide +kernel
theorem dX7_init_172 : decode cX7_init 172 = .ok (.invokespecial 78, 3) := by decide +kernel
theorem dX7_init_175 : decode cX7_init 175 = .ok (.aastore, 1) := by decide +kernel
theorem dX7_init_176 : decode cX7_init 176 = .ok (.iinc 1 1, 3) := by decide +kernel
theorem dX7_init_179 : decode cX7_init 179 = .ok (.goto (-21), 3) := by decide +kernel
theorem dX7_init_182 : decode cX7_init 182 = .ok (.return_, 1) := by decide +kernel
theorem dX7_feed_0 : decode cX7_feed 0 = .ok (.aload_n 0, 1) := by decide +kernel
theorem dX7_feed_1 : decode cX7_feed 1 = .ok (.getfield 22, 3) := by decide +kernel
theorem dX7_feed_4 : decode cX7_feed 4 = .ok (.lload_n 1, 1) := by decide +kernel
theorem dX7_feed_5 : decode cX7_feed 5 = .ok (.invokevirtual 79, 3) := by decide +kernel
theorem dX7_feed_8 : decode cX7_feed 8 = .ok (.ifCond .eq 13, 3) := by decide +kernel
theorem dX7_feed_11 : decode cX7_feed 11 = .ok (.aload_n 0, 1) := by decide +kernel
theorem dX7_feed_12 : decode cX7_feed 12 = .ok (.getfield 22, 3) := by decide +kernel
theorem dX7_feed_15 : decode cX7_feed 15 = .ok (.getfield 83, 3) := by decide +kernel
theorem dX7_feed_18 : decode cX7_feed 18 = .ok (.goto 5, 3) := by decide +kernel
theorem dX7_feed_21 : decode cX7_feed 21 = .ok (.bipush (-3), 2) := by decide +kernel
theorem dX7_feed_23 : decode cX7_feed 23 = .ok (.ireturn, 1) := by decide +kernel
theorem dX7_end_0 : decode cX7_end 0 = .ok (.iload_n 1, 1) := by decide +kernel
theorem dX7_end_1 : decode cX7_end 1 = .ok (.ifCond .lt 14, 3) := by decide +kernel
theorem dX7_end_4 : decode cX7_end 4 = .ok (.iload_n 1, 1) := by decide +kernel
theorem dX7_end_5 : decode cX7_end 5 = .ok (.aload_n 0, 1) := by decide +kernel
theorem dX7_end_6 : decode cX7_end 6 = .ok (.getfield 22, 3) := by decide +kernel
theorem dX7_end_9 : decode cX7_end 9 = .ok (.getfield 83, 3) := by decide +kernel
theorem dX7_end_12 : decode cX7_end 12 = .ok (.if_icmp .le 5, 3) := by decide +kernel
theorem dX7_end_15 : decode cX7_end 15 = .ok (.iconst (-1), 1) := by decide +kernel
theorem dX7_end_16 : decode cX7_end 16 = .ok (.ireturn, 1) := by decide +kernel
theorem dX7_end_17 : decode cX7_end 17 = .ok (.aload_n 0, 1) := by decide +kernel
theorem dX7_end_18 : decode cX7_end 18 = .ok (.getfield 22, 3) := by decide +kernel
theorem dX7_end_21 : decode cX7_end 21 = .ok (.getfield 83, 3) := by decide +kernel
theorem dX7_end_24 : decode cX7_end 24 = .ok (.istore_n 2, 1) := by decide +kernel
theorem dX7_end_25 : decode cX7_end 25 = .ok (.aload_n 0, 1) := by decide +kernel
theorem dX7_end_26 : decode cX7_end 26 = .ok (.getfield 22, 3) := by decide +kernel
theorem dX7_end_29 : decode cX7_end 29 = .ok (.iload_n 1, 1) := by decide +kernel
theorem dX7_end_30 : decode cX7_end 30 = .ok (.putfield 83, 3) := by decide +kernel
theorem dX7_end_33 : decode cX7_end 33 = .ok (.iload_n 2, 1) := by decide +kernel
theorem dX7_end_34 : decode cX7_end 34 = .ok (.ireturn, 1) := by decide +kernel
theorem dX7_text_0 : decode cX7_text 0 = .ok (.aload_n 0, 1) := by decide +kernel
theorem dX7_text_1 : decode cX7_text 1 = .ok (.getfield 22, 3) := by decide +kernel
theorem dX7_text_4 : decode cX7_text 4 = .ok (.invokevirtual 86, 3) := by decide +kernel
theorem dX7_text_7 : decode cX7_text 7 = .ok (.istore_n 1, 1) := by decide +kernel
theorem dX7_text_8 : decode cX7_text 8 = .ok (.aload_n 0, 1) := by decide +kernel
theorem dX7_text_9 : decode cX7_text 9 = .ok (.getfield 22, 3) := by decide +kernel
theorem dX7_text_12 : decode cX7_text 12 = .ok (.iconst 0, 1) := by decide +kernel
theorem dX7_text_13 : decode cX7_text 13 = .ok (.putfield 83, 3) := by decide +kernel
theorem dX7_text_16 : decode cX7_text 16 = .ok (.aload_n 0, 1) := by decide +kernel
theorem dX7_text_17 : decode cX7_text 17 = .ok (.getfield 22, 3) := by decide +kernel
theorem dX7_text_20 : decode cX7_text 20 = .ok (.getfield 90, 3) := by decide +kernel
theorem dX7_text_23 : decode cX7_text 23 = .ok (.ifCond .eq 14, 3) := by decide +kernel
theorem dX7_text_26 : decode cX7_text 26 = .ok (.bipush (-10), 2) := by decide +kernel
theorem dX7_text_28 : decode cX7_text 28 = .ok (.aload_n 0, 1) := by decide +kernel
theorem dX7_text_29 : decode cX7_text 29 = .ok (.getfield 22, 3) := by decide +kernel
theorem dX7_text_32 : decode cX7_text 32 = .ok (.getfield 93, 3) := by decide +kernel
theorem dX7_text_35 : decode cX7_text 35 = .ok (.isub, 1) := by decide +kernel
theorem dX7_text_36 : decode cX7_text 36 = .ok (.ireturn, 1) := by decide +kernel
theorem dX7_text_37 : decode cX7_text 37 = .ok (.aload_n 0, 1) := by decide +kernel
theorem dX7_text_38 : decode cX7_text 38 = .ok (.getfield 10, 3) := by decide +kernel
theorem dX7_text_41 : decode cX7_text 41 = .ok (.aload_n 0, 1) := by decide +kernel
theorem dX7_text_42 : decode cX7_text 42 = .ok (.getfield 22, 3) := by decide +kernel
theorem dX7_text_45 : decode cX7_text 45 = .ok (.getfield 96, 3) := by decide +kernel
theorem dX7_text_48 : decode cX7_text 48 = .ok (.invokevirtual 99, 3) := by decide +kernel
theorem dX7_text_51 : decode cX7_text 51 = .ok (.iload_n 1, 1) := by decide +kernel
theorem dX7_text_52 : decode cX7_text 52 = .ok (.ireturn, 1) := by decide +kernel
theorem dX7_fault_0 : decode cX7_fault 0 = .ok (.aload_n 0, 1) := by decide +kernel
theorem dX7_fault_1 : decode cX7_fault 1 = .ok (.getfield 22, 3) := by decide +kernel
theorem dX7_fault_4 : decode cX7_fault 4 = .ok (.getfield 90, 3) := by decide +kernel
theorem dX7_fault_7 : decode cX7_fault 7 = .ok (.ireturn, 1) := by decide +kernel
theorem dX7_rule_0 : decode cX7_rule 0 = .ok (.iload_n 1, 1) := by decide +kernel
theorem dX7_rule_1 : decode cX7_rule 1 = .ok (.bipush 12, 2) := by decide +kernel
theorem dX7_rule_3 : decode cX7_rule 3 = .ok (.invokestatic 103, 3) := by decide +kernel
theorem dX7_rule_6 : decode cX7_rule 6 = .ok (.ifCond .eq 13, 3) := by decide +kernel
theorem dX7_rule_9 : decode cX7_rule 9 = .ok (.aload_n 0, 1) := by decide +kernel
theorem dX7_rule_10 : decode cX7_rule 10 = .ok (.getfield 10, 3) := by decide +kernel
theorem dX7_rule_13 : decode cX7_rule 13 = .ok (.getfield 107, 3) := by decide +kernel
theorem dX7_rule_16 : decode cX7_rule 16 = .ok (.iload_n 1, 1) := by decide +kernel
theorem dX7_rule_17 : decode cX7_rule 17 = .ok (.iaload, 1) := by decide +kernel
theorem dX7_rule_18 : decode cX7_rule 18 = .ok (.ireturn, 1) := by decide +kernel
theorem dX7_rule_19 : decode cX7_rule 19 = .ok (.iload_n 1, 1) := by decide +kernel
theorem dX7_rule_20 : decode cX7_rule 20 = .ok (.bipush 20, 2) := by decide +kernel
theorem dX7_rule_22 : decode cX7_rule 22 = .ok (.if_icmp .lt 9, 3) := by decide +kernel
theorem dX7_rule_25 : decode cX7_rule 25 = .ok (.iload_n 1, 1) := by decide +kernel
theorem dX7_rule_26 : decode cX7_rule 26 = .ok (.bipush 36, 2) := by decide +kernel
theorem dX7_rule_28 : decode cX7_rule 28 = .ok (.if_icmp .lt 5, 3) := by decide +kernel
theorem dX7_rule_31 : decode cX7_rule 31 = .ok (.iconst (-1), 1) := by decide +kernel
theorem dX7_rule_32 : decode cX7_rule 32 = .ok (.ireturn, 1) := by decide +kernel
theorem dX7_rule_33 : decode cX7_rule 33 = .ok (.aload_n 0, 1) := by decide +kernel
theorem dX7_rule_34 : decode cX7_rule 34 = .ok (.getfield 10, 3) := by decide +kernel
theorem dX7_rule_37 : decode cX7_rule 37 = .ok (.getfield 110, 3) := by decide +kernel
theorem dX7_rule_40 : decode cX7_rule 40 = .ok (.iload_n 1, 1) := by decide +kernel
theorem dX7_rule_41 : decode cX7_rule 41 = .ok (.bipush 20, 2) := by decide +kernel
theorem dX7_rule_43 : decode cX7_rule 43 = .ok (.isub, 1) := by decide +kernel
theorem dX7_rule_44 : decode cX7_rule 44 = .ok (.iaload, 1) := by decide +kernel
theorem dX7_rule_45 : decode cX7_rule 45 = .ok (.ireturn, 1) := by decide +kernel
theorem dX7_light_0 : decode cX7_light 0 = .ok (.iload_n 1, 1) := by decide +kernel
theorem dX7_light_1 : decode cX7_light 1 = .ok (.bipush 6, 2) := by decide +kernel
theorem dX7_light_3 : decode cX7_light 3 = .ok (.invokestatic 103, 3) := by decide +kernel
theorem dX7_light_6 : decode cX7_light 6 = .ok (.ifCond .eq 22, 3) := by decide +kernel
theorem dX7_light_9 : decode cX7_light 9 = .ok (.iload_n 2, 1) := by decide +kernel
theorem dX7_light_10 : decode cX7_light 10 = .ok (.bipush 64, 2) := by decide +kernel
theorem dX7_light_12 : decode cX7_light 12 = .ok (.invokestatic 103, 3) := by decide +kernel
theorem dX7_light_15 : decode cX7_light 15 = .ok (.ifCond .eq 13, 3) := by decide +kernel
theorem dX7_light_18 : decode cX7_light 18 = .ok (.iload_n 3, 1) := by decide +kernel
theorem dX7_light_19 : decode cX7_light 19 = .ok (.ifCond .lt 9, 3) := by decide +kernel
theorem dX7_light_22 : decode cX7_light 22 = .ok (.iload_n 3, 1) := by decide +kernel
theorem dX7_light_23 : decode cX7_light 23 = .ok (.bipush 9, 2) := by decide +kernel
theorem dX7_light_25 : decode cX7_light 25 = .ok (.if_icmp .le 5, 3) := by decide +kernel
theorem dX7_light_28 : decode cX7_light 28 = .ok (.iconst (-1), 1) := by decide +kernel
theorem dX7_light_29 : decode cX7_light 29 = .ok (.ireturn, 1) := by decide +kernel
theorem dX7_light_30 : decode cX7_light 30 = .ok (.iload_n 1, 1) := by decide +kernel
theorem dX7_light_31 : decode cX7_light 31 = .ok (.bipush 64, 2) := by decide +kernel
theorem dX7_light_33 : decode cX7_light 33 = .ok (.imul, 1) := by decide +kernel
theorem dX7_light_34 : decode cX7_light 34 = .ok (.iload_n 2, 1) := by decide +kernel
theorem dX7_light_35 : decode cX7_light 35 = .ok (.iadd, 1) := by decide +kernel
theorem dX7_light_36 : decode cX7_light 36 = .ok (.istore 4, 2) := by decide +kernel
theorem dX7_light_38 : decode cX7_light 38 = .ok (.aload_n 0, 1) := by decide +kernel
theorem dX7_light_39 : decode cX7_light 39 = .ok (.getfield 26, 3) := by decide +kernel
theorem dX7_light_42 : decode cX7_light 42 = .ok (.iload 4, 2) := by decide +kernel
theorem dX7_light_44 : decode cX7_light 44 = .ok (.iaload, 1) := by decide +kernel
theorem dX7_light_45 : decode cX7_light 45 = .ok (.istore 5, 2) := by decide +kernel
theorem dX7_light_47 : decode cX7_light 47 = .ok (.aload_n 0, 1) := by decide +kernel
theorem dX7_light_48 : decode cX7_light 48 = .ok (.getfield 26, 3) := by decide +kernel
theorem dX7_light_51 : decode cX7_light 51 = .ok (.iload 4, 2) := by decide +kernel
theorem dX7_light_53 : decode cX7_light 53 = .ok (.iload_n 3, 1) := by decide +kernel
theorem dX7_light_54 : decode cX7_light 54 = .ok (.iastore, 1) := by decide +kernel
theorem dX7_light_55 : decode cX7_light 55 = .ok (.iload 5, 2) := by decide +kernel
theorem dX7_light_57 : decode cX7_light 57 = .ok (.ireturn, 1) := by decide +kernel
theorem dX7_lightOf_0 : decode cX7_lightOf 0 = .ok (.iload_n 1, 1) := by decide +kernel
theorem dX7_lightOf_1 : decode cX7_lightOf 1 = .ok (.bipush 6, 2) := by decide +kernel
theorem dX7_lightOf_3 : decode cX7_lightOf 3 = .ok (.invokestatic 103, 3) := by decide +kernel
theorem dX7_lightOf_6 : decode cX7_lightOf 6 = .ok (.ifCond .eq 12, 3) := by decide +kernel
theorem dX7_lightOf_9 : decode cX7_lightOf 9 = .ok (.iload_n 2, 1) := by decide +kernel
theorem dX7_lightOf_10 : decode cX7_lightOf 10 = .ok (.bipush 64, 2) := by decide +kernel
theorem dX7_lightOf_12 : decode cX7_lightOf 12 = .ok (.invokestatic 103, 3) := by decide +kernel
theorem dX7_lightOf_15 : decode cX7_lightOf 15 = .ok (.ifCond .ne 5, 3) := by decide +kernel
theorem dX7_lightOf_18 : decode cX7_lightOf 18 = .ok (.iconst (-1), 1) := by decide +kernel
theorem dX7_lightOf_19 : decode cX7_lightOf 19 = .ok (.ireturn, 1) := by decide +kernel
theorem dX7_lightOf_20 : decode cX7_lightOf 20 = .ok (.aload_n 0, 1) := by decide +kernel
theorem dX7_lightOf_21 : decode cX7_lightOf 21 = .ok (.getfield 26, 3) := by decide +kernel
theorem dX7_lightOf_24 : decode cX7_lightOf 24 = .ok (.iload_n 1, 1) := by decide +kernel
theorem dX7_lightOf_25 : decode cX7_lightOf 25 = .ok (.bipush 64, 2) := by decide +kernel
theorem dX7_lightOf_27 : decode cX7_lightOf 27 = .ok (.imul, 1) := by decide +kernel
theorem dX7_lightOf_28 : decode cX7_lightOf 28 = .ok (.iload_n 2, 1) := by decide +kernel
theorem dX7_lightOf_29 : decode cX7_lightOf 29 = .ok (.iadd, 1) := by decide +kernel
theorem dX7_lightOf_30 : decode cX7_lightOf 30 = .ok (.iaload, 1) := by decide +kernel
theorem dX7_lightOf_31 : decode cX7_lightOf 31 = .ok (.ireturn, 1) := by decide +kernel
theorem dX7_shift_0 : decode cX7_shift 0 = .ok (.iload_n 1, 1) := by decide +kernel
theorem dX7_shift_1 : decode cX7_shift 1 = .ok (.bipush 6, 2) := by decide +kernel
theorem dX7_shift_3 : decode cX7_shift 3 = .ok (.invokestatic 103, 3) := by decide +kernel
theorem dX7_shift_6 : decode cX7_shift 6 = .ok (.ifCond .eq 21, 3) := by decide +kernel
theorem dX7_shift_9 : decode cX7_shift 9 = .ok (.iload_n 2, 1) := by decide +kernel
theorem dX7_shift_10 : decode cX7_shift 10 = .ok (.bipush 6, 2) := by decide +kernel
theorem dX7_shift_12 : decode cX7_shift 12 = .ok (.invokestatic 103, 3) := by decide +kernel
theorem dX7_shift_15 : decode cX7_shift 15 = .ok (.ifCond .eq 12, 3) := by decide +kernel
theorem dX7_shift_18 : decode cX7_shift 18 = .ok (.iload_n 3, 1) := by decide +kernel
theorem dX7_shift_19 : decode cX7_shift 19 = .ok (.bipush 8, 2) := by decide +kernel
theorem dX7_shift_21 : decode cX7_shift 21 = .ok (.invokestatic 103, 3) := by decide +kernel
theorem dX7_shift_24 : decode cX7_shift 24 = .ok (.ifCond .ne 5, 3) := by decide +kernel
theorem dX7_shift_27 : decode cX7_shift 27 = .ok (.iconst (-1), 1) := by decide +kernel
theorem dX7_shift_28 : decode cX7_shift 28 = .ok (.ireturn, 1) := by decide +kernel
theorem dX7_shift_29 : decode cX7_shift 29 = .ok (.iconst 0, 1) := by decide +kernel
theorem dX7_shift_30 : decode cX7_shift 30 = .ok (.istore 4, 2) := by decide +kernel
theorem dX7_shift_32 : decode cX7_shift 32 = .ok (.bipush 63, 2) := by decide +kernel
theorem dX7_shift_34 : decode cX7_shift 34 = .ok (.istore 5, 2) := by decide +kernel
theorem dX7_shift_36 : decode cX7_shift 36 = .ok (.iload 5, 2) := by decide +kernel
theorem dX7_shift_38 : decode cX7_shift 38 = .ok (.ifCond .lt 71, 3) := by decide +kernel
theorem dX7_shift_41 : decode cX7_shift 41 = .ok (.iload 5, 2) := by decide +kernel
theorem dX7_shift_43 : decode cX7_shift 43 = .ok (.bipush 8, 2) := by decide +kernel
theorem dX7_shift_45 : decode cX7_shift 45 = .ok (.irem, 1) := by decide +kernel
theorem dX7_shift_46 : decode cX7_shift 46 = .ok (.iload_n 3, 1) := by decide +kernel
theorem dX7_shift_47 : decode cX7_shift 47 = .ok (.if_icmp .ge 7, 3) := by decide +kernel
theorem dX7_shift_50 : decode cX7_shift 50 = .ok (.iconst 0, 1) := by decide +kernel
theorem dX7_shift_51 : decode cX7_shift 51 = .ok (.goto 17, 3) := by decide +kernel
theorem dX7_shift_54 : decode cX7_shift 54 = .ok (.aload_n 0, 1) := by decide +kernel
theorem dX7_shift_55 : decode cX7_shift 55 = .ok (.getfield 26, 3) := by decide +kernel
theorem dX7_shift_58 : decode cX7_shift 58 = .ok (.iload_n 1, 1) := by decide +kernel
theorem dX7_shift_59 : decode cX7_shift 59 = .ok (.bipush 64, 2) := by decide +kernel
theorem dX7_shift_61 : decode cX7_shift 61 = .ok (.imul, 1) := by decide +kernel
theorem dX7_shift_62 : decode cX7_shift 62 = .ok (.iload 5, 2) := by decide +kernel
theorem dX7_shift_64 : decode cX7_shift 64 = .ok (.iadd, 1) := by decide +kernel
theorem dX7_shift_65 : decode cX7_shift 65 = .ok (.iload_n 3, 1) := by decide +kernel
theorem dX7_shift_66 : decode cX7_shift 66 = .ok (.isub, 1) := by decide +kernel
theorem dX7_shift_67 : decode cX7_shift 67 = .ok (.iaload, 1) := by decide +kernel
theorem dX7_shift_68 : decode cX7_shift 68 = .ok (.istore 6, 2) := by decide +kernel
theorem dX7_shift_70 : decode cX7_shift 70 = .ok (.iload_n 2, 1) := by decide +kernel
theorem dX7_shift_71 : decode cX7_shift 71 = .ok (.bipush 64, 2) := by decide +kernel
theorem dX7_shift_73 : decode cX7_shift 73 = .ok (.imul, 1) := by decide +kernel
theorem dX7_shift_74 : decode cX7_shift 74 = .ok (.iload 5, 2) := by decide +kernel
theorem dX7_shift_76 : decode cX7_shift 76 = .ok (.iadd, 1) := by decide +kernel
theorem dX7_shift_77 : decode cX7_shift 77 = .ok (.istore 7, 2) := by decide +kernel
theorem dX7_shift_79 : decode cX7_shift 79 = .ok (.aload_n 0, 1) := by decide +kernel
theorem dX7_shift_80 : decode cX7_shift 80 = .ok (.getfield 26, 3) := by decide +kernel
theorem dX7_shift_83 : decode cX7_shift 83 = .ok (.iload 7, 2) := by decide +kernel
theorem dX7_shift_85 : decode cX7_shift 85 = .ok (.iaload, 1) := by decide +kernel
theorem dX7_shift_86 : decode cX7_shift 86 = .ok (.iload 6, 2) := by decide +kernel
theorem dX7_shift_88 : decode cX7_shift 88 = .ok (.if_icmp .eq 6, 3) := by decide +kernel
theorem dX7_shift_91 : decode cX7_shift 91 = .ok (.iinc 4 1, 3) := by decide +kernel
theorem dX7_shift_94 : decode cX7_shift 94 = .ok (.aload_n 0, 1) := by decide +kernel
theorem dX7_shift_95 : decode cX7_shift 95 = .ok (.getfield 26, 3) := by decide +kernel
theorem dX7_shift_98 : decode cX7_shift 98 = .ok (.iload 7, 2) := by decide +kernel
theorem dX7_shift_100 : decode cX7_shift 100 = .ok (.iload 6, 2) := by decide +kernel
theorem dX7_shift_102 : decode cX7_shift 102 = .ok (.iastore, 1) := by decide +kernel
theorem dX7_shift_103 : decode cX7_shift 103 = .ok (.iinc 5 (-1), 3) := by decide +kernel
theorem dX7_shift_106 : decode cX7_shift 106 = .ok (.goto (-70), 3) := by decide +kernel
theorem dX7_shift_109 : decode cX7_shift 109 = .ok (.iload 4, 2) := by decide +kernel
theorem dX7_shift_111 : decode cX7_shift 111 = .ok (.ireturn, 1) := by decide +kernel
theorem dX7_place_0 : decode cX7_place 0 = .ok (.iload_n 1, 1) := by decide +kernel
theorem dX7_place_1 : decode cX7_place 1 = .ok (.bipush 26, 2) := by decide +kernel
theorem dX7_place_3 : decode cX7_place 3 = .ok (.invokestatic 103, 3) := by decide +kernel
theorem dX7_place_6 : decode cX7_place 6 = .ok (.ifCond .ne 5, 3) := by decide +kernel
theorem dX7_place_9 : decode cX7_place 9 = .ok (.iconst (-1), 1) := by decide +kernel
theorem dX7_place_10 : decode cX7_place 10 = .ok (.ireturn, 1) := by decide +kernel
theorem dX7_place_11 : decode cX7_place 11 = .ok (.aload_n 0, 1) := by decide +kernel
theorem dX7_place_12 : decode cX7_place 12 = .ok (.getfield 74, 3) := by decide +kernel
theorem dX7_place_15 : decode cX7_place 15 = .ok (.istore_n 2, 1) := by decide +kernel
theorem dX7_place_16 : decode cX7_place 16 = .ok (.aload_n 0, 1) := by decide +kernel
theorem dX7_place_17 : decode cX7_place 17 = .ok (.iload_n 1, 1) := by decide +kernel
theorem dX7_place_18 : decode cX7_place 18 = .ok (.putfield 74, 3) := by decide +kernel
theorem dX7_place_21 : decode cX7_place 21 = .ok (.iload_n 2, 1) := by decide +kernel
theorem dX7_place_22 : decode cX7_place 22 = .ok (.ireturn, 1) := by decide +kernel
theorem dX7_leads_0 : decode cX7_leads 0 = .ok (.iload_n 1, 1) := by decide +kernel
theorem dX7_leads_1 : decode cX7_leads 1 = .ok (.bipush 26, 2) := by decide +kernel
theorem dX7_leads_3 : decode cX7_leads 3 = .ok (.invokestatic 103, 3) := by decide +kernel
theorem dX7_leads_6 : decode cX7_leads 6 = .ok (.ifCond .eq 12, 3) := by decide +kernel
theorem dX7_leads_9 : decode cX7_leads 9 = .ok (.iload_n 2, 1) := by decide +kernel
theorem dX7_leads_10 : decode cX7_leads 10 = .ok (.bipush 6, 2) := by decide +kernel
theorem dX7_leads_12 : decode cX7_leads 12 = .ok (.invokestatic 103, 3) := by decide +kernel
theorem dX7_leads_15 : decode cX7_leads 15 = .ok (.ifCond .ne 5, 3) := by decide +kernel
theorem dX7_leads_18 : decode cX7_leads 18 = .ok (.iconst (-1), 1) := by decide +kernel
theorem dX7_leads_19 : decode cX7_leads 19 = .ok (.ireturn, 1) := by decide +kernel
theorem dX7_leads_20 : decode cX7_leads 20 = .ok (.iload_n 1, 1) := by decide +kernel
theorem dX7_leads_21 : decode cX7_leads 21 = .ok (.iload_n 2, 1) := by decide +kernel
theorem dX7_leads_22 : decode cX7_leads 22 = .ok (.invokestatic 113, 3) := by decide +kernel
theorem dX7_leads_25 : decode cX7_leads 25 = .ok (.ireturn, 1) := by decide +kernel
theorem dX7_point_0 : decode cX7_point 0 = .ok (.iload_n 1, 1) := by decide +kernel
theorem dX7_point_1 : decode cX7_point 1 = .ok (.bipush 6, 2) := by decide +kernel
theorem dX7_point_3 : decode cX7_point 3 = .ok (.invokestatic 103, 3) := by decide +kernel
theorem dX7_point_6 : decode cX7_point 6 = .ok (.ifCond .eq 20, 3) := by decide +kernel
theorem dX7_point_9 : decode cX7_point 9 = .ok (.iload_n 2, 1) := by decide +kernel
theorem dX7_point_10 : decode cX7_point 10 = .ok (.bipush 16, 2) := by decide +kernel
theorem dX7_point_12 : decode cX7_point 12 = .ok (.invokestatic 103, 3) := by decide +kernel
theorem dX7_point_15 : decode cX7_point 15 = .ok (.ifCond .eq 11, 3) := by decide +kernel
theorem dX7_point_18 : decode cX7_point 18 = .ok (.iload_n 3, 1) := by decide +kernel
theorem dX7_point_19 : decode cX7_point 19 = .ok (.iconst 4, 1) := by decide +kernel
theorem dX7_point_20 : decode cX7_point 20 = .ok (.invokestatic 103, 3) := by decide +kernel
theorem dX7_point_23 : decode cX7_point 23 = .ok (.ifCond .ne 5, 3) := by decide +kernel
theorem dX7_point_26 : decode cX7_point 26 = .ok (.iconst (-1), 1) := by decide +kernel
theorem dX7_point_27 : decode cX7_point 27 = .ok (.ireturn, 1) := by decide +kernel
theorem dX7_point_28 : decode cX7_point 28 = .ok (.aload_n 0, 1) := by decide +kernel
theorem dX7_point_29 : decode cX7_point 29 = .ok (.iload_n 1, 1) := by decide +kernel
theorem dX7_point_30 : decode cX7_point 30 = .ok (.aload_n 0, 1) := by decide +kernel
theorem dX7_point_31 : decode cX7_point 31 = .ok (.getfield 74, 3) := by decide +kernel
theorem dX7_point_34 : decode cX7_point 34 = .ok (.invokevirtual 117, 3) := by decide +kernel
theorem dX7_point_37 : decode cX7_point 37 = .ok (.astore 4, 2) := by decide +kernel
theorem dX7_point_39 : decode cX7_point 39 = .ok (.iload_n 3, 1) := by decide +kernel
theorem dX7_point_40 : decode cX7_point 40 = .ok (.tableswitch 52 0 2 #[28, 36, 44], 28) := by decide +kernel
theorem dX7_point_68 : decode cX7_point 68 = .ok (.aload 4, 2) := by decide +kernel
theorem dX7_point_70 : decode cX7_point 70 = .ok (.getfield 121, 3) := by decide +kernel
theorem dX7_point_73 : decode cX7_point 73 = .ok (.iload_n 2, 1) := by decide +kernel
theorem dX7_point_74 : decode cX7_point 74 = .ok (.iaload, 1) := by decide +kernel
theorem dX7_point_75 : decode cX7_point 75 = .ok (.ireturn, 1) := by decide +kernel
theorem dX7_point_76 : decode cX7_point 76 = .ok (.aload 4, 2) := by decide +kernel
theorem dX7_point_78 : decode cX7_point 78 = .ok (.getfield 124, 3) := by decide +kernel
theorem dX7_point_81 : decode cX7_point 81 = .ok (.iload_n 2, 1) := by decide +kernel
theorem dX7_point_82 : decode cX7_point 82 = .ok (.iaload, 1) := by decide +kernel
theorem dX7_point_83 : decode cX7_point 83 = .ok (.ireturn, 1) := by decide +kernel
theorem dX7_point_84 : decode cX7_point 84 = .ok (.aload 4, 2) := by decide +kernel
theorem dX7_point_86 : decode cX7_point 86 = .ok (.getfield 127, 3) := by decide +kernel
theorem dX7_point_89 : decode cX7_point 89 = .ok (.iload_n 2, 1) := by decide +kernel
theorem dX7_point_90 : decode cX7_point 90 = .ok (.iaload, 1) := by decide +kernel
theorem dX7_point_91 : decode cX7_point 91 = .ok (.ireturn, 1) := by decide +kernel
theorem dX7_point_92 : decode cX7_point 92 = .ok (.aload 4, 2) := by decide +kernel
theorem dX7_point_94 : decode cX7_point 94 = .ok (.getfield 130, 3) := by decide +kernel
theorem dX7_point_97 : decode cX7_point 97 = .ok (.iload_n 2, 1) := by decide +kernel
theorem dX7_point_98 : decode cX7_point 98 = .ok (.invokestatic 133, 3) := by decide +kernel
theorem dX7_point_101 : decode cX7_point 101 = .ok (.ireturn, 1) := by decide +kernel
theorem dX7_feels_0 : decode cX7_feels 0 = .ok (.iload_n 1, 1) := by decide +kernel
theorem dX7_feels_1 : decode cX7_feels 1 = .ok (.bipush 6, 2) := by decide +kernel
theorem dX7_feels_3 : decode cX7_feels 3 = .ok (.invokestatic 103, 3) := by decide +kernel
theorem dX7_feels_6 : decode cX7_feels 6 = .ok (.ifCond .eq 11, 3) := by decide +kernel
theorem dX7_feels_9 : decode cX7_feels 9 = .ok (.iload_n 2, 1) := by decide +kernel
theorem dX7_feels_10 : decode cX7_feels 10 = .ok (.iconst 3, 1) := by decide +kernel
theorem dX7_feels_11 : decode cX7_feels 11 = .ok (.invokestatic 103, 3) := by decide +kernel
theorem dX7_feels_14 : decode cX7_feels 14 = .ok (.ifCond .ne 5, 3) := by decide +kernel
theorem dX7_feels_17 : decode cX7_feels 17 = .ok (.iconst (-1), 1) := by decide +kernel
theorem dX7_feels_18 : decode cX7_feels 18 = .ok (.ireturn, 1) := by decide +kernel
theorem dX7_feels_19 : decode cX7_feels 19 = .ok (.aload_n 0, 1) := by decide +kernel
theorem dX7_feels_20 : decode cX7_feels 20 = .ok (.iload_n 1, 1) := by decide +kernel
theorem dX7_feels_21 : decode cX7_feels 21 = .ok (.aload_n 0, 1) := by decide +kernel
theorem dX7_feels_22 : decode cX7_feels 22 = .ok (.getfield 74, 3) := by decide +kernel
theorem dX7_feels_25 : decode cX7_feels 25 = .ok (.invokevirtual 117, 3) := by decide +kernel
theorem dX7_feels_28 : decode cX7_feels 28 = .ok (.astore_n 3, 1) := by decide +kernel
theorem dX7_feels_29 : decode cX7_feels 29 = .ok (.iload_n 2, 1) := by decide +kernel
theorem dX7_feels_30 : decode cX7_feels 30 = .ok (.ifCond .ne 15, 3) := by decide +kernel
theorem dX7_feels_33 : decode cX7_feels 33 = .ok (.aload_n 3, 1) := by decide +kernel
theorem dX7_feels_34 : decode cX7_feels 34 = .ok (.getfield 127, 3) := by decide +kernel
theorem dX7_feels_37 : decode cX7_feels 37 = .ok (.aload_n 0, 1) := by decide +kernel
theorem dX7_feels_38 : decode cX7_feels 38 = .ok (.getfield 33, 3) := by decide +kernel
theorem dX7_feels_41 : decode cX7_feels 41 = .ok (.invokestatic 136, 3) := by decide +kernel
theorem dX7_feels_44 : decode cX7_feels 44 = .ok (.ireturn, 1) := by decide +kernel
theorem dX7_feels_45 : decode cX7_feels 45 = .ok (.iload_n 2, 1) := by decide +kernel
theorem dX7_feels_46 : decode cX7_feels 46 = .ok (.iconst 1, 1) := by decide +kernel
theorem dX7_feels_47 : decode cX7_feels 47 = .ok (.if_icmp .ne 10, 3) := by decide +kernel
theorem dX7_feels_50 : decode cX7_feels 50 = .ok (.aload_n 3, 1) := by decide +kernel
theorem dX7_feels_51 : decode cX7_feels 51 = .ok (.getfield 130, 3) := by decide +kernel
theorem dX7_feels_54 : decode cX7_feels 54 = .ok (.goto 10, 3) := by decide +kernel
theorem dX7_feels_57 : decode cX7_feels 57 = .ok (.aload_n 3, 1) := by decide +kernel
theorem dX7_feels_58 : decode cX7_feels 58 = .ok (.getfield 127, 3) := by decide +kernel
theorem dX7_feels_61 : decode cX7_feels 61 = .ok (.invokestatic 140, 3) := by decide +kernel
theorem dX7_feels_64 : decode cX7_feels 64 = .ok (.ireturn, 1) := by decide +kernel
theorem dX7_tenths_0 : decode cX7_tenths 0 = .ok (.iload_n 1, 1) := by decide +kernel
theorem dX7_tenths_1 : decode cX7_tenths 1 = .ok (.bipush 6, 2) := by decide +kernel
theorem dX7_tenths_3 : decode cX7_tenths 3 = .ok (.invokestatic 103, 3) := by decide +kernel
theorem dX7_tenths_6 : decode cX7_tenths 6 = .ok (.ifCond .eq 14, 3) := by decide +kernel
theorem dX7_tenths_9 : decode cX7_tenths 9 = .ok (.iload_n 2, 1) := by decide +kernel
theorem dX7_tenths_10 : decode cX7_tenths 10 = .ok (.iconst 1, 1) := by decide +kernel
theorem dX7_tenths_11 : decode cX7_tenths 11 = .ok (.if_icmp .lt 9, 3) := by decide +kernel
theorem dX7_tenths_14 : decode cX7_tenths 14 = .ok (.iload_n 2, 1) := by decide +kernel
theorem dX7_tenths_15 : decode cX7_tenths 15 = .ok (.bipush 20, 2) := by decide +kernel
theorem dX7_tenths_17 : decode cX7_tenths 17 = .ok (.if_icmp .le 5, 3) := by decide +kernel
theorem dX7_tenths_20 : decode cX7_tenths 20 = .ok (.iconst (-1), 1) := by decide +kernel
theorem dX7_tenths_21 : decode cX7_tenths 21 = .ok (.ireturn, 1) := by decide +kernel
theorem dX7_tenths_22 : decode cX7_tenths 22 = .ok (.iconst 0, 1) := by decide +kernel
theorem dX7_tenths_23 : decode cX7_tenths 23 = .ok (.istore_n 3, 1) := by decide +kernel
theorem dX7_tenths_24 : decode cX7_tenths 24 = .ok (.iload_n 3, 1) := by decide +kernel
theorem dX7_tenths_25 : decode cX7_tenths 25 = .ok (.iload_n 2, 1) := by decide +kernel
theorem dX7_tenths_26 : decode cX7_tenths 26 = .ok (.if_icmp .ge 22, 3) := by decide +kernel
theorem dX7_tenths_29 : decode cX7_tenths 29 = .ok (.aload_n 0, 1) := by decide +kernel
theorem dX7_tenths_30 : decode cX7_tenths 30 = .ok (.aload_n 0, 1) := by decide +kernel
theorem dX7_tenths_31 : decode cX7_tenths 31 = .ok (.iload_n 1, 1) := by decide +kernel
theorem dX7_tenths_32 : decode cX7_tenths 32 = .ok (.aload_n 0, 1) := by decide +kernel
theorem dX7_tenths_33 : decode cX7_tenths 33 = .ok (.getfield 74, 3) := by decide +kernel
theorem dX7_tenths_36 : decode cX7_tenths 36 = .ok (.invokevirtual 117, 3) := by decide +kernel
theorem dX7_tenths_39 : decode cX7_tenths 39 = .ok (.invokevirtual 144, 3) := by decide +kernel
theorem dX7_tenths_42 : decode cX7_tenths 42 = .ok (.iinc 3 1, 3) := by decide +kernel
theorem dX7_tenths_45 : decode cX7_tenths 45 = .ok (.goto (-21), 3) := by decide +kernel
theorem dX7_tenths_48 : decode cX7_tenths 48 = .ok (.aload_n 0, 1) := by decide +kernel
theorem dX7_tenths_49 : decode cX7_tenths 49 = .ok (.iload_n 2, 1) := by decide +kernel
theorem dX7_tenths_50 : decode cX7_tenths 50 = .ok (.aload_n 0, 1) := by decide +kernel
theorem dX7_tenths_51 : decode cX7_tenths 51 = .ok (.getfield 10, 3) := by decide +kernel
theorem dX7_tenths_54 : decode cX7_tenths 54 = .ok (.getfield 107, 3) := by decide +kernel
theorem dX7_tenths_57 : decode cX7_tenths 57 = .ok (.bipush 9, 2) := by decide +kernel
theorem dX7_tenths_59 : decode cX7_tenths 59 = .ok (.iaload, 1) := by decide +kernel
theorem dX7_tenths_60 : decode cX7_tenths 60 = .ok (.imul, 1) := by decide +kernel
theorem dX7_tenths_61 : decode cX7_tenths 61 = .ok (.invokevirtual 148, 3) := by decide +kernel
theorem dX7_tenths_64 : decode cX7_tenths 64 = .ok (.aload_n 0, 1) := by decide +kernel
theorem dX7_tenths_65 : decode cX7_tenths 65 = .ok (.getfield 30, 3) := by decide +kernel
theorem dX7_tenths_68 : decode cX7_tenths 68 = .ok (.aload_n 0, 1) := by decide +kernel
theorem dX7_tenths_69 : decode cX7_tenths 69 = .ok (.getfield 33, 3) := by decide +kernel
theorem dX7_tenths_72 : decode cX7_tenths 72 = .ok (.invokestatic 136, 3) := by decide +kernel
theorem dX7_tenths_75 : decode cX7_tenths 75 = .ok (.ireturn, 1) := by decide +kernel
theorem dX7_tired_0 : decode cX7_tired 0 = .ok (.iload_n 1, 1) := by decide +kernel
theorem dX7_tired_1 : decode cX7_tired 1 = .ok (.bipush 16, 2) := by decide +kernel
theorem dX7_tired_3 : decode cX7_tired 3 = .ok (.invokestatic 103, 3) := by decide +kernel
theorem dX7_tired_6 : decode cX7_tired 6 = .ok (.ifCond .eq 12, 3) := by decide +kernel
theorem dX7_tired_9 : decode cX7_tired 9 = .ok (.aload_n 0, 1) := by decide +kernel
theorem dX7_tired_10 : decode cX7_tired 10 = .ok (.getfield 30, 3) := by decide +kernel
theorem dX7_tired_13 : decode cX7_tired 13 = .ok (.iload_n 1, 1) := by decide +kernel
theorem dX7_tired_14 : decode cX7_tired 14 = .ok (.iaload, 1) := by decide +kernel
theorem dX7_tired_15 : decode cX7_tired 15 = .ok (.goto 4, 3) := by decide +kernel
theorem dX7_tired_18 : decode cX7_tired 18 = .ok (.iconst (-1), 1) := by decide +kernel
theorem dX7_tired_19 : decode cX7_tired 19 = .ok (.ireturn, 1) := by decide +kernel
theorem dX7_rest_0 : decode cX7_rest 0 = .ok (.aload_n 0, 1) := by decide +kernel
theorem dX7_rest_1 : decode cX7_rest 1 = .ok (.getfield 30, 3) := by decide +kernel
theorem dX7_rest_4 : decode cX7_rest 4 = .ok (.aload_n 0, 1) := by decide +kernel
theorem dX7_rest_5 : decode cX7_rest 5 = .ok (.getfield 33, 3) := by decide +kernel
theorem dX7_rest_8 : decode cX7_rest 8 = .ok (.invokestatic 136, 3) := by decide +kernel
theorem dX7_rest_11 : decode cX7_rest 11 = .ok (.istore_n 1, 1) := by decide +kernel
theorem dX7_rest_12 : decode cX7_rest 12 = .ok (.aload_n 0, 1) := by decide +kernel
theorem dX7_rest_13 : decode cX7_rest 13 = .ok (.getfield 30, 3) := by decide +kernel
theorem dX7_rest_16 : decode cX7_rest 16 = .ok (.iconst 0, 1) := by decide +kernel
theorem dX7_rest_17 : decode cX7_rest 17 = .ok (.invokestatic 152, 3) := by decide +kernel
theorem dX7_rest_20 : decode cX7_rest 20 = .ok (.iload_n 1, 1) := by decide +kernel
theorem dX7_rest_21 : decode cX7_rest 21 = .ok (.ireturn, 1) := by decide +kernel
theorem dX7_alike_0 : decode cX7_alike 0 = .ok (.iload_n 1, 1) := by decide +kernel
theorem dX7_alike_1 : decode cX7_alike 1 = .ok (.bipush 6, 2) := by decide +kernel
theorem dX7_alike_3 : decode cX7_alike 3 = .ok (.invokestatic 103, 3) := by decide +kernel
theorem dX7_alike_6 : decode cX7_alike 6 = .ok (.ifCond .eq 12, 3) := by decide +kernel
theorem dX7_alike_9 : decode cX7_alike 9 = .ok (.iload_n 2, 1) := by decide +kernel
theorem dX7_alike_10 : decode cX7_alike 10 = .ok (.bipush 6, 2) := by decide +kernel
theorem dX7_alike_12 : decode cX7_alike 12 = .ok (.invokestatic 103, 3) := by decide +kernel
theorem dX7_alike_15 : decode cX7_alike 15 = .ok (.ifCond .ne 5, 3) := by decide +kernel
theorem dX7_alike_18 : decode cX7_alike 18 = .ok (.iconst (-1), 1) := by decide +kernel
theorem dX7_alike_19 : decode cX7_alike 19 = .ok (.ireturn, 1) := by decide +kernel
theorem dX7_alike_20 : decode cX7_alike 20 = .ok (.aload_n 0, 1) := by decide +kernel
theorem dX7_alike_21 : decode cX7_alike 21 = .ok (.iload_n 1, 1) := by decide +kernel
theorem dX7_alike_22 : decode cX7_alike 22 = .ok (.iload_n 2, 1) := by decide +kernel
theorem dX7_alike_23 : decode cX7_alike 23 = .ok (.aload_n 0, 1) := by decide +kernel
theorem dX7_alike_24 : decode cX7_alike 24 = .ok (.getfield 74, 3) := by decide +kernel
theorem dX7_alike_27 : decode cX7_alike 27 = .ok (.invokevirtual 158, 3) := by decide +kernel
theorem dX7_alike_30 : decode cX7_alike 30 = .ok (.ifCond .eq 7, 3) := by decide +kernel
theorem dX7_alike_33 : decode cX7_alike 33 = .ok (.iconst 1, 1) := by decide +kernel
theorem dX7_alike_34 : decode cX7_alike 34 = .ok (.goto 4, 3) := by decide +kernel
theorem dX7_alike_37 : decode cX7_alike 37 = .ok (.iconst 0, 1) := by decide +kernel
theorem dX7_alike_38 : decode cX7_alike 38 = .ok (.ireturn, 1) := by decide +kernel
theorem dX7_parted_0 : decode cX7_parted 0 = .ok (.iload_n 1, 1) := by decide +kernel
theorem dX7_parted_1 : decode cX7_parted 1 = .ok (.bipush 6, 2) := by decide +kernel
theorem dX7_parted_3 : decode cX7_parted 3 = .ok (.invokestatic 103, 3) := by decide +kernel
theorem dX7_parted_6 : decode cX7_parted 6 = .ok (.ifCond .eq 20, 3) := by decide +kernel
theorem dX7_parted_9 : decode cX7_parted 9 = .ok (.iload_n 2, 1) := by decide +kernel
theorem dX7_parted_10 : decode cX7_parted 10 = .ok (.bipush 6, 2) := by decide +kernel
theorem dX7_parted_12 : decode cX7_parted 12 = .ok (.invokestatic 103, 3) := by decide +kernel
theorem dX7_parted_15 : decode cX7_parted 15 = .ok (.ifCond .eq 11, 3) := by decide +kernel
theorem dX7_parted_18 : decode cX7_parted 18 = .ok (.iload_n 3, 1) := by decide +kernel
theorem dX7_parted_19 : decode cX7_parted 19 = .ok (.iconst 3, 1) := by decide +kernel
theorem dX7_parted_20 : decode cX7_parted 20 = .ok (.invokestatic 103, 3) := by decide +kernel
theorem dX7_parted_23 : decode cX7_parted 23 = .ok (.ifCond .ne 5, 3) := by decide +kernel
theorem dX7_parted_26 : decode cX7_parted 26 = .ok (.iconst (-1), 1) := by decide +kernel
theorem dX7_parted_27 : decode cX7_parted 27 = .ok (.ireturn, 1) := by decide +kernel
theorem dX7_parted_28 : decode cX7_parted 28 = .ok (.iload_n 3, 1) := by decide +kernel
theorem dX7_parted_29 : decode cX7_parted 29 = .ok (.iconst 2, 1) := by decide +kernel
theorem dX7_parted_30 : decode cX7_parted 30 = .ok (.if_icmp .ne 12, 3) := by decide +kernel
theorem dX7_parted_33 : decode cX7_parted 33 = .ok (.aload_n 0, 1) := by decide +kernel
theorem dX7_parted_34 : decode cX7_parted 34 = .ok (.iload_n 1, 1) := by decide +kernel
theorem dX7_parted_35 : decode cX7_parted 35 = .ok (.iload_n 2, 1) := by decide +kernel
theorem dX7_parted_36 : decode cX7_parted 36 = .ok (.invokevirtual 162, 3) := by decide +kernel
theorem dX7_parted_39 : decode cX7_parted 39 = .ok (.goto 10, 3) := by decide +kernel
theorem dX7_parted_42 : decode cX7_parted 42 = .ok (.aload_n 0, 1) := by decide +kernel
theorem dX7_parted_43 : decode cX7_parted 43 = .ok (.iload_n 1, 1) := by decide +kernel
theorem dX7_parted_44 : decode cX7_parted 44 = .ok (.iload_n 2, 1) := by decide +kernel
theorem dX7_parted_45 : decode cX7_parted 45 = .ok (.iload_n 3, 1) := by decide +kernel
theorem dX7_parted_46 : decode cX7_parted 46 = .ok (.invokevirtual 165, 3) := by decide +kernel
theorem dX7_parted_49 : decode cX7_parted 49 = .ok (.ireturn, 1) := by decide +kernel
theorem dX7_right_0 : decode cX7_right 0 = .ok (.iload_n 1, 1) := by decide +kernel
theorem dX7_right_1 : decode cX7_right 1 = .ok (.invokestatic 169, 3) := by decide +kernel
theorem dX7_right_4 : decode cX7_right 4 = .ok (.ifCond .eq 20, 3) := by decide +kernel
theorem dX7_right_7 : decode cX7_right 7 = .ok (.iload_n 2, 1) := by decide +kernel
theorem dX7_right_8 : decode cX7_right 8 = .ok (.ifCond .lt 16, 3) := by decide +kernel
theorem dX7_right_11 : decode cX7_right 11 = .ok (.iload_n 2, 1) := by decide +kernel
theorem dX7_right_12 : decode cX7_right 12 = .ok (.iconst 3, 1) := by decide +kernel
theorem dX7_right_13 : decode cX7_right 13 = .ok (.if_icmp .gt 11, 3) := by decide +kernel
theorem dX7_right_16 : decode cX7_right 16 = .ok (.iload_n 3, 1) := by decide +kernel
theorem dX7_right_17 : decode cX7_right 17 = .ok (.iconst 2, 1) := by decide +kernel
theorem dX7_right_18 : decode cX7_right 18 = .ok (.invokestatic 103, 3) := by decide +kernel
theorem dX7_right_21 : decode cX7_right 21 = .ok (.ifCond .ne 5, 3) := by decide +kernel
theorem dX7_right_24 : decode cX7_right 24 = .ok (.iconst (-1), 1) := by decide +kernel
theorem dX7_right_25 : decode cX7_right 25 = .ok (.ireturn, 1) := by decide +kernel
theorem dX7_right_26 : decode cX7_right 26 = .ok (.aload_n 0, 1) := by decide +kernel
theorem dX7_right_27 : decode cX7_right 27 = .ok (.getfield 50, 3) := by decide +kernel
theorem dX7_right_30 : decode cX7_right 30 = .ok (.invokevirtual 173, 3) := by decide +kernel
theorem dX7_right_33 : decode cX7_right 33 = .ok (.iload_n 3, 1) := by decide +kernel
theorem dX7_right_34 : decode cX7_right 34 = .ok (.ifCond .ne 14, 3) := by decide +kernel
theorem dX7_right_37 : decode cX7_right 37 = .ok (.aload_n 0, 1) := by decide +kernel
theorem dX7_right_38 : decode cX7_right 38 = .ok (.iload_n 1, 1) := by decide +kernel
theorem dX7_right_39 : decode cX7_right 39 = .ok (.aload_n 0, 1) := by decide +kernel
theorem dX7_right_40 : decode cX7_right 40 = .ok (.getfield 74, 3) := by decide +kernel
theorem dX7_right_43 : decode cX7_right 43 = .ok (.iload_n 2, 1) := by decide +kernel
theorem dX7_right_44 : decode cX7_right 44 = .ok (.invokevirtual 176, 3) := by decide +kernel
theorem dX7_right_47 : decode cX7_right 47 = .ok (.ireturn, 1) := by decide +kernel
theorem dX7_right_48 : decode cX7_right 48 = .ok (.iload_n 2, 1) := by decide +kernel
theorem dX7_right_49 : decode cX7_right 49 = .ok (.ifCond .ne 6, 3) := by decide +kernel
theorem dX7_right_52 : decode cX7_right 52 = .ok (.bipush (-4), 2) := by decide +kernel
theorem dX7_right_54 : decode cX7_right 54 = .ok (.ireturn, 1) := by decide +kernel
theorem dX7_right_55 : decode cX7_right 55 = .ok (.aload_n 0, 1) := by decide +kernel
theorem dX7_right_56 : decode cX7_right 56 = .ok (.iload_n 1, 1) := by decide +kernel
theorem dX7_right_57 : decode cX7_right 57 = .ok (.aload_n 0, 1) := by decide +kernel
theorem dX7_right_58 : decode cX7_right 58 = .ok (.aload_n 0, 1) := by decide +kernel
theorem dX7_right_59 : decode cX7_right 59 = .ok (.getfield 74, 3) := by decide +kernel
theorem dX7_right_62 : decode cX7_right 62 = .ok (.iload_n 1, 1) := by decide +kernel
theorem dX7_right_63 : decode cX7_right 63 = .ok (.invokestatic 179, 3) := by decide +kernel
theorem dX7_right_66 : decode cX7_right 66 = .ok (.invokevirtual 183, 3) := by decide +kernel
theorem dX7_right_69 : decode cX7_right 69 = .ok (.iand, 1) := by decide +kernel
theorem dX7_right_70 : decode cX7_right 70 = .ok (.iload_n 2, 1) := by decide +kernel
theorem dX7_right_71 : decode cX7_right 71 = .ok (.invokevirtual 186, 3) := by decide +kernel
theorem dX7_right_74 : decode cX7_right 74 = .ok (.ireturn, 1) := by decide +kernel
theorem dX7_needs_0 : decode cX7_needs 0 = .ok (.iload_n 1, 1) := by decide +kernel
theorem dX7_needs_1 : decode cX7_needs 1 = .ok (.invokestatic 169, 3) := by decide +kernel
theorem dX7_needs_4 : decode cX7_needs 4 = .ok (.ifCond .ne 5, 3) := by decide +kernel
theorem dX7_needs_7 : decode cX7_needs 7 = .ok (.iconst (-1), 1) := by decide +kernel
theorem dX7_needs_8 : decode cX7_needs 8 = .ok (.ireturn, 1) := by decide +kernel
theorem dX7_needs_9 : decode cX7_needs 9 = .ok (.aload_n 0, 1) := by decide +kernel
theorem dX7_needs_10 : decode cX7_needs 10 = .ok (.getfield 50, 3) := by decide +kernel
theorem dX7_needs_13 : decode cX7_needs 13 = .ok (.invokevirtual 173, 3) := by decide +kernel
theorem dX7_needs_16 : decode cX7_needs 16 = .ok (.iload_n 1, 1) := by decide +kernel
theorem dX7_needs_17 : decode cX7_needs 17 = .ok (.invokestatic 189, 3) := by decide +kernel
theorem dX7_needs_20 : decode cX7_needs 20 = .ok (.istore_n 2, 1) := by decide +kernel
theorem dX7_needs_21 : decode cX7_needs 21 = .ok (.iconst 0, 1) := by decide +kernel
theorem dX7_needs_22 : decode cX7_needs 22 = .ok (.istore_n 3, 1) := by decide +kernel
theorem dX7_needs_23 : decode cX7_needs 23 = .ok (.iload_n 3, 1) := by decide +kernel
theorem dX7_needs_24 : decode cX7_needs 24 = .ok (.iconst 3, 1) := by decide +kernel
theorem dX7_needs_25 : decode cX7_needs 25 = .ok (.if_icmp .gt 25, 3) := by decide +kernel
theorem dX7_needs_28 : decode cX7_needs 28 = .ok (.aload_n 0, 1) := by decide +kernel
theorem dX7_needs_29 : decode cX7_needs 29 = .ok (.iload_n 1, 1) := by decide +kernel
theorem dX7_needs_30 : decode cX7_needs 30 = .ok (.aload_n 0, 1) := by decide +kernel
theorem dX7_needs_31 : decode cX7_needs 31 = .ok (.getfield 74, 3) := by decide +kernel
theorem dX7_needs_34 : decode cX7_needs 34 = .ok (.iload_n 3, 1) := by decide +kernel
theorem dX7_needs_35 : decode cX7_needs 35 = .ok (.invokevirtual 176, 3) := by decide +kernel
theorem dX7_needs_38 : decode cX7_needs 38 = .ok (.iload_n 2, 1) := by decide +kernel
theorem dX7_needs_39 : decode cX7_needs 39 = .ok (.if_icmp .ne 5, 3) := by decide +kernel
theorem dX7_needs_42 : decode cX7_needs 42 = .ok (.iload_n 3, 1) := by decide +kernel
theorem dX7_needs_43 : decode cX7_needs 43 = .ok (.ireturn, 1) := by decide +kernel
theorem dX7_needs_44 : decode cX7_needs 44 = .ok (.iinc 3 1, 3) := by decide +kernel
theorem dX7_needs_47 : decode cX7_needs 47 = .ok (.goto (-24), 3) := by decide +kernel
theorem dX7_needs_50 : decode cX7_needs 50 = .ok (.bipush (-4), 2) := by decide +kernel
theorem dX7_needs_52 : decode cX7_needs 52 = .ok (.ireturn, 1) := by decide +kernel
theorem dX7_move_0 : decode cX7_move 0 = .ok (.iload_n 1, 1) := by decide +kernel
theorem dX7_move_1 : decode cX7_move 1 = .ok (.bipush 6, 2) := by decide +kernel
theorem dX7_move_3 : decode cX7_move 3 = .ok (.invokestatic 103, 3) := by decide +kernel
theorem dX7_move_6 : decode cX7_move 6 = .ok (.ifCond .eq 12, 3) := by decide +kernel
theorem dX7_move_9 : decode cX7_move 9 = .ok (.iload_n 2, 1) := by decide +kernel
theorem dX7_move_10 : decode cX7_move 10 = .ok (.bipush 6, 2) := by decide +kernel
theorem dX7_move_12 : decode cX7_move 12 = .ok (.invokestatic 103, 3) := by decide +kernel
theorem dX7_move_15 : decode cX7_move 15 = .ok (.ifCond .ne 5, 3) := by decide +kernel
theorem dX7_move_18 : decode cX7_move 18 = .ok (.iconst (-1), 1) := by decide +kernel
theorem dX7_move_19 : decode cX7_move 19 = .ok (.ireturn, 1) := by decide +kernel
theorem dX7_move_20 : decode cX7_move 20 = .ok (.aload_n 0, 1) := by decide +kernel
theorem dX7_move_21 : decode cX7_move 21 = .ok (.iload_n 1, 1) := by decide +kernel
theorem dX7_move_22 : decode cX7_move 22 = .ok (.aload_n 0, 1) := by decide +kernel
theorem dX7_move_23 : decode cX7_move 23 = .ok (.getfield 74, 3) := by decide +kernel
theorem dX7_move_26 : decode cX7_move 26 = .ok (.invokevirtual 117, 3) := by decide +kernel
theorem dX7_move_29 : decode cX7_move 29 = .ok (.astore 4, 2) := by decide +kernel
theorem dX7_move_31 : decode cX7_move 31 = .ok (.aload_n 0, 1) := by decide +kernel
theorem dX7_move_32 : decode cX7_move 32 = .ok (.iload_n 1, 1) := by decide +kernel
theorem dX7_move_33 : decode cX7_move 33 = .ok (.iload_n 2, 1) := by decide +kernel
theorem dX7_move_34 : decode cX7_move 34 = .ok (.invokevirtual 194, 3) := by decide +kernel
theorem dX7_move_37 : decode cX7_move 37 = .ok (.astore 5, 2) := by decide +kernel
theorem dX7_move_39 : decode cX7_move 39 = .ok (.aload 5, 2) := by decide +kernel
theorem dX7_move_41 : decode cX7_move 41 = .ok (.getfield 127, 3) := by decide +kernel
theorem dX7_move_44 : decode cX7_move 44 = .ok (.aload 4, 2) := by decide +kernel
theorem dX7_move_46 : decode cX7_move 46 = .ok (.getfield 127, 3) := by decide +kernel
theorem dX7_move_49 : decode cX7_move 49 = .ok (.invokestatic 136, 3) := by decide +kernel
theorem dX7_move_52 : decode cX7_move 52 = .ok (.aload 4, 2) := by decide +kernel
theorem dX7_move_54 : decode cX7_move 54 = .ok (.getfield 127, 3) := by decide +kernel
theorem dX7_move_57 : decode cX7_move 57 = .ok (.aload 5, 2) := by decide +kernel
theorem dX7_move_59 : decode cX7_move 59 = .ok (.getfield 127, 3) := by decide +kernel
theorem dX7_move_62 : decode cX7_move 62 = .ok (.invokestatic 136, 3) := by decide +kernel
theorem dX7_move_65 : decode cX7_move 65 = .ok (.ior, 1) := by decide +kernel
theorem dX7_move_66 : decode cX7_move 66 = .ok (.istore 6, 2) := by decide +kernel
theorem dX7_move_68 : decode cX7_move 68 = .ok (.aload_n 0, 1) := by decide +kernel
theorem dX7_move_69 : decode cX7_move 69 = .ok (.aload_n 0, 1) := by decide +kernel
theorem dX7_move_70 : decode cX7_move 70 = .ok (.getfield 74, 3) := by decide +kernel
theorem dX7_move_73 : decode cX7_move 73 = .ok (.iload_n 2, 1) := by decide +kernel
theorem dX7_move_74 : decode cX7_move 74 = .ok (.invokestatic 113, 3) := by decide +kernel
theorem dX7_move_77 : decode cX7_move 77 = .ok (.putfield 74, 3) := by decide +kernel
theorem dX7_move_80 : decode cX7_move 80 = .ok (.aload_n 0, 1) := by decide +kernel
theorem dX7_move_81 : decode cX7_move 81 = .ok (.aload_n 0, 1) := by decide +kernel
theorem dX7_move_82 : decode cX7_move 82 = .ok (.getfield 10, 3) := by decide +kernel
theorem dX7_move_85 : decode cX7_move 85 = .ok (.getfield 107, 3) := by decide +kernel
theorem dX7_move_88 : decode cX7_move 88 = .ok (.iload_n 3, 1) := by decide +kernel
theorem dX7_move_89 : decode cX7_move 89 = .ok (.ifCond .eq 13, 3) := by decide +kernel
theorem dX7_move_92 : decode cX7_move 92 = .ok (.iload 6, 2) := by decide +kernel
theorem dX7_move_94 : decode cX7_move 94 = .ok (.ifCond .eq 8, 3) := by decide +kernel
theorem dX7_move_97 : decode cX7_move 97 = .ok (.bipush 7, 2) := by decide +kernel
theorem dX7_move_99 : decode cX7_move 99 = .ok (.goto 5, 3) := by decide +kernel
theorem dX7_move_102 : decode cX7_move 102 = .ok (.bipush 8, 2) := by decide +kernel
theorem dX7_move_104 : decode cX7_move 104 = .ok (.iaload, 1) := by decide +kernel
theorem dX7_move_105 : decode cX7_move 105 = .ok (.invokevirtual 148, 3) := by decide +kernel
theorem dX7_move_108 : decode cX7_move 108 = .ok (.iload 6, 2) := by decide +kernel
theorem dX7_move_110 : decode cX7_move 110 = .ok (.ireturn, 1) := by decide +kernel
theorem dX7_foretell_0 : decode cX7_foretell 0 = .ok (.iload_n 1, 1) := by decide +kernel
theorem dX7_foretell_1 : decode cX7_foretell 1 = .ok (.bipush 6, 2) := by decide +kernel
theorem dX7_foretell_3 : decode cX7_foretell 3 = .ok (.invokestatic 103, 3) := by decide +kernel
theorem dX7_foretell_6 : decode cX7_foretell 6 = .ok (.ifCond .eq 20, 3) := by decide +kernel
theorem dX7_foretell_9 : decode cX7_foretell 9 = .ok (.iload_n 2, 1) := by decide +kernel
theorem dX7_foretell_10 : decode cX7_foretell 10 = .ok (.bipush 6, 2) := by decide +kernel
theorem dX7_foretell_12 : decode cX7_foretell 12 = .ok (.invokestatic 103, 3) := by decide +kernel
theorem dX7_foretell_15 : decode cX7_foretell 15 = .ok (.ifCond .eq 11, 3) := by decide +kernel
theorem dX7_foretell_18 : decode cX7_foretell 18 = .ok (.iload_n 3, 1) := by decide +kernel
theorem dX7_foretell_19 : decode cX7_foretell 19 = .ok (.iconst 2, 1) := by decide +kernel
theorem dX7_foretell_20 : decode cX7_foretell 20 = .ok (.invokestatic 103, 3) := by decide +kernel
theorem dX7_foretell_23 : decode cX7_foretell 23 = .ok (.ifCond .ne 5, 3) := by decide +kernel
theorem dX7_foretell_26 : decode cX7_foretell 26 = .ok (.iconst (-1), 1) := by decide +kernel
theorem dX7_foretell_27 : decode cX7_foretell 27 = .ok (.ireturn, 1) := by decide +kernel
theorem dX7_foretell_28 : decode cX7_foretell 28 = .ok (.aload_n 0, 1) := by decide +kernel
theorem dX7_foretell_29 : decode cX7_foretell 29 = .ok (.iload_n 1, 1) := by decide +kernel
theorem dX7_foretell_30 : decode cX7_foretell 30 = .ok (.aload_n 0, 1) := by decide +kernel
theorem dX7_foretell_31 : decode cX7_foretell 31 = .ok (.getfield 74, 3) := by decide +kernel
theorem dX7_foretell_34 : decode cX7_foretell 34 = .ok (.invokevirtual 117, 3) := by decide +kernel
theorem dX7_foretell_37 : decode cX7_foretell 37 = .ok (.astore 4, 2) := by decide +kernel
theorem dX7_foretell_39 : decode cX7_foretell 39 = .ok (.aload_n 0, 1) := by decide +kernel
theorem dX7_foretell_40 : decode cX7_foretell 40 = .ok (.iload_n 1, 1) := by decide +kernel
theorem dX7_foretell_41 : decode cX7_foretell 41 = .ok (.iload_n 2, 1) := by decide +kernel
theorem dX7_foretell_42 : decode cX7_foretell 42 = .ok (.invokevirtual 194, 3) := by decide +kernel
theorem dX7_foretell_45 : decode cX7_foretell 45 = .ok (.astore 5, 2) := by decide +kernel
theorem dX7_foretell_47 : decode cX7_foretell 47 = .ok (.iload_n 3, 1) := by decide +kernel
theorem dX7_foretell_48 : decode cX7_foretell 48 = .ok (.ifCond .ne 19, 3) := by decide +kernel
theorem dX7_foretell_51 : decode cX7_foretell 51 = .ok (.aload 5, 2) := by decide +kernel
theorem dX7_foretell_53 : decode cX7_foretell 53 = .ok (.getfield 127, 3) := by decide +kernel
theorem dX7_foretell_56 : decode cX7_foretell 56 = .ok (.aload 4, 2) := by decide +kernel
theorem dX7_foretell_58 : decode cX7_foretell 58 = .ok (.getfield 127, 3) := by decide +kernel
theorem dX7_foretell_61 : decode cX7_foretell 61 = .ok (.invokestatic 136, 3) := by decide +kernel
theorem dX7_foretell_64 : decode cX7_foretell 64 = .ok (.goto 16, 3) := by decide +kernel
